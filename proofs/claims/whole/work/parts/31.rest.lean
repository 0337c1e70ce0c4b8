theorem rk_0 {q : Int → Bool} {k : Nat} {rn : Int} (h : rn = riN q (k - 1)) (k0 : k = 0) : rn = riN q (k + 1 - 1) := by subst k0; exact h
theorem rk_eq {q : Int → Bool} {k : Nat} {rn : Int} (h : rn = riN q (k - 1)) (k0 : 0 < k) (he : q (k : Int) = q ((k : Int) - 1)) : rn = riN q (k + 1 - 1) := by
  obtain ⟨j, rfl⟩ : ∃ j, k = j + 1 := ⟨k - 1, by omega⟩
  rw [show ((j + 1 : Nat) : Int) - 1 = j by omega, show ((j + 1 : Nat) : Int) = (j : Int) + 1 by omega] at he
  show rn = riN q j + (if q ((j : Int) + 1) = q j then 0 else 1)
  rw [if_pos he, h]; show riN q j = _; omega
theorem rk_ne {q : Int → Bool} {k : Nat} {rn : Int} (h : rn = riN q (k - 1)) (k0 : 0 < k) (he : ¬ q (k : Int) = q ((k : Int) - 1)) : rn + 1 = riN q (k + 1 - 1) := by
  obtain ⟨j, rfl⟩ : ∃ j, k = j + 1 := ⟨k - 1, by omega⟩
  rw [show ((j + 1 : Nat) : Int) - 1 = j by omega, show ((j + 1 : Nat) : Int) = (j : Int) + 1 by omega] at he
  show rn + 1 = riN q j + (if q ((j : Int) + 1) = q j then 0 else 1)
  rw [if_neg he, h]; rfl
theorem rc_y {q : Int → Bool} {k : Nat} {rn i nn : Int} (hr : rn = riN q (k + 1 - 1)) (hi : rn = i) (h : nn = rcN q i k) : nn + 1 = rcN q i (k + 1) := by
  show nn + 1 = rcN q i k + (if riN q k = i then 1 else 0)
  rw [if_pos (by rw [← hi, hr]; rfl), h]
theorem rc_n {q : Int → Bool} {k : Nat} {rn i nn : Int} (hr : rn = riN q (k + 1 - 1)) (hi : rn ≠ i) (h : nn = rcN q i k) : nn + 0 = rcN q i (k + 1) := by
  show nn + 0 = rcN q i k + (if riN q k = i then 1 else 0)
  rw [if_neg (by intro z; apply hi; rw [hr]; exact z), h]
theorem sz_init : ∀ f : Int, 0 ≤ f → f ≤ 3 → (upZ (upZ (upZ (upZ (upZ (upZ (upZ (upZ (upZ (upZ (upZ (upZ (fun _ => iZ 0) 0 (iZ 8)) 1 (iZ 8)) 2 (iZ 0)) 3 (iZ 8)) 4 (iZ 8)) 5 (iZ 0)) 6 (iZ 8)) 7 (iZ 8)) 8 (iZ 0)) 9 (iZ 8)) 10 (iZ 8)) 11 (iZ 0)) (3 * f) = iZ 8 ∧ (upZ (upZ (upZ (upZ (upZ (upZ (upZ (upZ (upZ (upZ (upZ (upZ (fun _ => iZ 0) 0 (iZ 8)) 1 (iZ 8)) 2 (iZ 0)) 3 (iZ 8)) 4 (iZ 8)) 5 (iZ 0)) 6 (iZ 8)) 7 (iZ 8)) 8 (iZ 0)) 9 (iZ 8)) 10 (iZ 8)) 11 (iZ 0)) (3 * f + 1) = iZ 8 ∧ (upZ (upZ (upZ (upZ (upZ (upZ (upZ (upZ (upZ (upZ (upZ (upZ (fun _ => iZ 0) 0 (iZ 8)) 1 (iZ 8)) 2 (iZ 0)) 3 (iZ 8)) 4 (iZ 8)) 5 (iZ 0)) 6 (iZ 8)) 7 (iZ 8)) 8 (iZ 0)) 9 (iZ 8)) 10 (iZ 8)) 11 (iZ 0)) (3 * f + 2) = iZ 0 := fun f f0 f1 => by rcases (show f = 0 ∨ f = 1 ∨ f = 2 ∨ f = 3 by omega) with rfl | rfl | rfl | rfl <;> decide +kernel
theorem d_Mo_run_0 : decode c_yMo_run 0 = .ok (.aload_n 0, 1) := by decide +kernel
theorem d_Mo_run_1 : decode c_yMo_run 1 = .ok (.iload_n 1, 1) := by decide +kernel
theorem d_Mo_run_2 : decode c_yMo_run 2 = .ok (.iload_n 2, 1) := by decide +kernel
theorem d_Mo_run_3 : decode c_yMo_run 3 = .ok (.invokestatic 124, 3) := by decide +kernel
theorem d_Mo_run_6 : decode c_yMo_run 6 = .ok (.ifCond .eq 7, 3) := by decide +kernel
theorem d_Mo_run_9 : decode c_yMo_run 9 = .ok (.iconst 1, 1) := by decide +kernel
theorem d_Mo_run_10 : decode c_yMo_run 10 = .ok (.goto 17, 3) := by decide +kernel
theorem d_Mo_run_13 : decode c_yMo_run 13 = .ok (.aload_n 0, 1) := by decide +kernel
theorem d_Mo_run_14 : decode c_yMo_run 14 = .ok (.iload_n 1, 1) := by decide +kernel
theorem d_Mo_run_15 : decode c_yMo_run 15 = .ok (.iload_n 2, 1) := by decide +kernel
theorem d_Mo_run_16 : decode c_yMo_run 16 = .ok (.invokevirtual 40, 3) := by decide +kernel
theorem d_Mo_run_19 : decode c_yMo_run 19 = .ok (.ifCond .eq 7, 3) := by decide +kernel
theorem d_Mo_run_22 : decode c_yMo_run 22 = .ok (.iconst 0, 1) := by decide +kernel
theorem d_Mo_run_23 : decode c_yMo_run 23 = .ok (.goto 4, 3) := by decide +kernel
theorem d_Mo_run_26 : decode c_yMo_run 26 = .ok (.iconst 2, 1) := by decide +kernel
theorem d_Mo_run_27 : decode c_yMo_run 27 = .ok (.putfield 37, 3) := by decide +kernel
theorem d_Mo_run_30 : decode c_yMo_run 30 = .ok (.aload_n 0, 1) := by decide +kernel
theorem d_Mo_run_31 : decode c_yMo_run 31 = .ok (.getfield 37, 3) := by decide +kernel
theorem d_Mo_run_34 : decode c_yMo_run 34 = .ok (.ifCond .le 5, 3) := by decide +kernel
theorem d_Mo_run_37 : decode c_yMo_run 37 = .ok (.iconst 0, 1) := by decide +kernel
theorem d_Mo_run_38 : decode c_yMo_run 38 = .ok (.ireturn, 1) := by decide +kernel
theorem d_Mo_run_39 : decode c_yMo_run 39 = .ok (.iload 4, 2) := by decide +kernel
theorem d_Mo_run_41 : decode c_yMo_run 41 = .ok (.ifCond .eq 7, 3) := by decide +kernel
theorem d_Mo_run_44 : decode c_yMo_run 44 = .ok (.iconst 0, 1) := by decide +kernel
theorem d_Mo_run_45 : decode c_yMo_run 45 = .ok (.goto 4, 3) := by decide +kernel
theorem d_Mo_run_48 : decode c_yMo_run 48 = .ok (.iconst 1, 1) := by decide +kernel
theorem d_Mo_run_49 : decode c_yMo_run 49 = .ok (.istore 5, 2) := by decide +kernel
theorem d_Mo_run_51 : decode c_yMo_run 51 = .ok (.iload 4, 2) := by decide +kernel
theorem d_Mo_run_53 : decode c_yMo_run 53 = .ok (.ifCond .eq 7, 3) := by decide +kernel
theorem d_Mo_run_56 : decode c_yMo_run 56 = .ok (.iconst 1, 1) := by decide +kernel
theorem d_Mo_run_57 : decode c_yMo_run 57 = .ok (.goto 4, 3) := by decide +kernel
theorem d_Mo_run_60 : decode c_yMo_run 60 = .ok (.iconst 0, 1) := by decide +kernel
theorem d_Mo_run_61 : decode c_yMo_run 61 = .ok (.istore 6, 2) := by decide +kernel
theorem d_Mo_run_63 : decode c_yMo_run 63 = .ok (.iconst 0, 1) := by decide +kernel
theorem d_Mo_run_64 : decode c_yMo_run 64 = .ok (.istore 7, 2) := by decide +kernel
theorem d_Mo_run_66 : decode c_yMo_run 66 = .ok (.iconst 0, 1) := by decide +kernel
theorem d_Mo_run_67 : decode c_yMo_run 67 = .ok (.istore 8, 2) := by decide +kernel
theorem d_Mo_run_69 : decode c_yMo_run 69 = .ok (.iconst 0, 1) := by decide +kernel
theorem d_Mo_run_70 : decode c_yMo_run 70 = .ok (.istore 9, 2) := by decide +kernel
theorem d_Mo_run_72 : decode c_yMo_run 72 = .ok (.aload_n 0, 1) := by decide +kernel
theorem d_Mo_run_73 : decode c_yMo_run 73 = .ok (.iload_n 1, 1) := by decide +kernel
theorem d_Mo_run_74 : decode c_yMo_run 74 = .ok (.iload 9, 2) := by decide +kernel
theorem d_Mo_run_76 : decode c_yMo_run 76 = .ok (.iload 5, 2) := by decide +kernel
theorem d_Mo_run_78 : decode c_yMo_run 78 = .ok (.imul, 1) := by decide +kernel
theorem d_Mo_run_79 : decode c_yMo_run 79 = .ok (.iadd, 1) := by decide +kernel
theorem d_Mo_run_80 : decode c_yMo_run 80 = .ok (.iload_n 2, 1) := by decide +kernel
theorem d_Mo_run_81 : decode c_yMo_run 81 = .ok (.iload 9, 2) := by decide +kernel
theorem d_Mo_run_83 : decode c_yMo_run 83 = .ok (.iload 6, 2) := by decide +kernel
theorem d_Mo_run_85 : decode c_yMo_run 85 = .ok (.imul, 1) := by decide +kernel
theorem d_Mo_run_86 : decode c_yMo_run 86 = .ok (.iadd, 1) := by decide +kernel
theorem d_Mo_run_87 : decode c_yMo_run 87 = .ok (.invokevirtual 40, 3) := by decide +kernel
theorem d_Mo_run_90 : decode c_yMo_run 90 = .ok (.ifCond .eq 80, 3) := by decide +kernel
theorem d_Mo_run_93 : decode c_yMo_run 93 = .ok (.aload_n 0, 1) := by decide +kernel
theorem d_Mo_run_94 : decode c_yMo_run 94 = .ok (.iload_n 1, 1) := by decide +kernel
theorem d_Mo_run_95 : decode c_yMo_run 95 = .ok (.iload 9, 2) := by decide +kernel
theorem d_Mo_run_97 : decode c_yMo_run 97 = .ok (.iload 5, 2) := by decide +kernel
theorem d_Mo_run_99 : decode c_yMo_run 99 = .ok (.imul, 1) := by decide +kernel
theorem d_Mo_run_100 : decode c_yMo_run 100 = .ok (.iadd, 1) := by decide +kernel
theorem d_Mo_run_101 : decode c_yMo_run 101 = .ok (.iload_n 2, 1) := by decide +kernel
theorem d_Mo_run_102 : decode c_yMo_run 102 = .ok (.iload 9, 2) := by decide +kernel
theorem d_Mo_run_104 : decode c_yMo_run 104 = .ok (.iload 6, 2) := by decide +kernel
theorem d_Mo_run_106 : decode c_yMo_run 106 = .ok (.imul, 1) := by decide +kernel
theorem d_Mo_run_107 : decode c_yMo_run 107 = .ok (.iadd, 1) := by decide +kernel
theorem d_Mo_run_108 : decode c_yMo_run 108 = .ok (.invokevirtual 114, 3) := by decide +kernel
theorem d_Mo_run_111 : decode c_yMo_run 111 = .ok (.istore 10, 2) := by decide +kernel
theorem d_Mo_run_113 : decode c_yMo_run 113 = .ok (.iload 9, 2) := by decide +kernel
theorem d_Mo_run_115 : decode c_yMo_run 115 = .ok (.ifCond .le 33, 3) := by decide +kernel
theorem d_Mo_run_118 : decode c_yMo_run 118 = .ok (.iload 10, 2) := by decide +kernel
theorem d_Mo_run_120 : decode c_yMo_run 120 = .ok (.aload_n 0, 1) := by decide +kernel
theorem d_Mo_run_121 : decode c_yMo_run 121 = .ok (.iload_n 1, 1) := by decide +kernel
theorem d_Mo_run_122 : decode c_yMo_run 122 = .ok (.iload 9, 2) := by decide +kernel
theorem d_Mo_run_124 : decode c_yMo_run 124 = .ok (.iconst 1, 1) := by decide +kernel
theorem d_Mo_run_125 : decode c_yMo_run 125 = .ok (.isub, 1) := by decide +kernel
theorem d_Mo_run_126 : decode c_yMo_run 126 = .ok (.iload 5, 2) := by decide +kernel
theorem d_Mo_run_128 : decode c_yMo_run 128 = .ok (.imul, 1) := by decide +kernel
theorem d_Mo_run_129 : decode c_yMo_run 129 = .ok (.iadd, 1) := by decide +kernel
theorem d_Mo_run_130 : decode c_yMo_run 130 = .ok (.iload_n 2, 1) := by decide +kernel
theorem d_Mo_run_131 : decode c_yMo_run 131 = .ok (.iload 9, 2) := by decide +kernel
theorem d_Mo_run_133 : decode c_yMo_run 133 = .ok (.iconst 1, 1) := by decide +kernel
theorem d_Mo_run_134 : decode c_yMo_run 134 = .ok (.isub, 1) := by decide +kernel
theorem d_Mo_run_135 : decode c_yMo_run 135 = .ok (.iload 6, 2) := by decide +kernel
theorem d_Mo_run_137 : decode c_yMo_run 137 = .ok (.imul, 1) := by decide +kernel
theorem d_Mo_run_138 : decode c_yMo_run 138 = .ok (.iadd, 1) := by decide +kernel
theorem d_Mo_run_139 : decode c_yMo_run 139 = .ok (.invokevirtual 114, 3) := by decide +kernel
theorem d_Mo_run_142 : decode c_yMo_run 142 = .ok (.if_icmp .eq 6, 3) := by decide +kernel
theorem d_Mo_run_145 : decode c_yMo_run 145 = .ok (.iinc 7 1, 3) := by decide +kernel
theorem d_Mo_run_148 : decode c_yMo_run 148 = .ok (.iload 8, 2) := by decide +kernel
theorem d_Mo_run_150 : decode c_yMo_run 150 = .ok (.iload 7, 2) := by decide +kernel
theorem d_Mo_run_152 : decode c_yMo_run 152 = .ok (.iload_n 3, 1) := by decide +kernel
theorem d_Mo_run_153 : decode c_yMo_run 153 = .ok (.if_icmp .ne 7, 3) := by decide +kernel
theorem d_Mo_run_156 : decode c_yMo_run 156 = .ok (.iconst 1, 1) := by decide +kernel
theorem d_Mo_run_157 : decode c_yMo_run 157 = .ok (.goto 4, 3) := by decide +kernel
theorem d_Mo_run_160 : decode c_yMo_run 160 = .ok (.iconst 0, 1) := by decide +kernel
theorem d_Mo_run_161 : decode c_yMo_run 161 = .ok (.iadd, 1) := by decide +kernel
theorem d_Mo_run_162 : decode c_yMo_run 162 = .ok (.istore 8, 2) := by decide +kernel
theorem d_Mo_run_164 : decode c_yMo_run 164 = .ok (.iinc 9 1, 3) := by decide +kernel
theorem d_Mo_run_167 : decode c_yMo_run 167 = .ok (.goto (-95), 3) := by decide +kernel
theorem d_Mo_run_170 : decode c_yMo_run 170 = .ok (.iload 8, 2) := by decide +kernel
theorem d_Mo_run_172 : decode c_yMo_run 172 = .ok (.ifCond .ne 7, 3) := by decide +kernel
theorem d_Mo_run_175 : decode c_yMo_run 175 = .ok (.iconst (-1), 1) := by decide +kernel
theorem d_Mo_run_176 : decode c_yMo_run 176 = .ok (.goto 5, 3) := by decide +kernel
theorem d_Mo_run_179 : decode c_yMo_run 179 = .ok (.iload 8, 2) := by decide +kernel
theorem d_Mo_run_181 : decode c_yMo_run 181 = .ok (.ireturn, 1) := by decide +kernel
set_option maxHeartbeats 4000000 in
set_option maxRecDepth 100000 in
theorem c_Model_run (l : Launch) (dC : Nat → ClassId) (dI : Nat → Nat → Nat) (hm zd zb zt zs zc zo : Nat) (tw w h mn n fx fy fa fb fc qr fo : Int) (cI : ClassId) (Dk : Int → Int32) (pic : Int → Int → Bool) (x y i : Int) (dw : Bool) (sz : Nat) (w1 : 1 ≤ w) (w2 : w ≤ 1024) (h1 : 1 ≤ h) (h2 : h ≤ 1024) (hM : RepM Dk pic) (hO : Off w h pic) (x1 : -2147483648 ≤ x) (y1 : -2147483648 ≤ y) (i1 : -2147483648 ≤ i) (x2 : x ≤ 2147483647) (y2 : y ≤ 2147483647) (i2 : i ≤ 2147483647) : Met l y_Mo_run w_Mo_run ({ frames := 2, cells := 0, slots := 0, locals := 44 }) (va_Pc [.ref hm, .int (iZ x), .int (iZ y), .int (iZ i), .int (bI dw)] (zPm (dC, dI) vwCl [(hm, .inr (6, [.int (iZ tw), .int (iZ w), .int (iZ h), .int (iZ mn), .ref zd, .ref zb, .ref zt, .int (iZ n), .ref zs, .ref zc, .int (iZ fx), .int (iZ fy), .int (iZ fa), .int (iZ fb), .int (iZ fc), .int (iZ qr), .int (iZ fo), .ref zo])), (zd, .inl (cI, 32768, .inl (aI Dk)))] [(cI, .int)] sz)) (va_Qi (fun (r : Int32) (u : Int) => ∃ z : Int, r = iZ z ∧ (((-4096 ≤ x ∧ x ≤ 4096 ∧ -4096 ≤ y ∧ y ≤ 4096) ∧ onB w h x y = true ∧ u = 0 ∧ z = (if dw then runS (fun k => pic (x + k * 0) (y + k * 1)) (h - y) i else runS (fun k => pic (x + k * 1) (y + k * 0)) (w - x) i)) ∨ (¬ (-4096 ≤ x ∧ x ≤ 4096 ∧ -4096 ≤ y ∧ y ≤ 4096) ∧ u = 1) ∨ ((-4096 ≤ x ∧ x ≤ 4096 ∧ -4096 ≤ y ∧ y ≤ 4096) ∧ onB w h x y = false ∧ u = 2))) (fun u => zB (dC, dI) vwCl [(cI, .int)] (va_A [(hm, .inr (6, [.int (iZ tw), .int (iZ w), .int (iZ h), .int (iZ mn), .ref zd, .ref zb, .ref zt, .int (iZ n), .ref zs, .ref zc, .int (iZ fx), .int (iZ fy), .int (iZ fa), .int (iZ fb), .int (iZ fc), .int (iZ qr), .int (iZ fo), .ref zo])), (zd, .inl (cI, 32768, .inl (aI Dk)))] sz) [(hm, .inr (6, [.int (iZ u), .int (iZ w), .int (iZ h), .int (iZ mn), .ref zd, .ref zb, .ref zt, .int (iZ n), .ref zs, .ref zc, .int (iZ fx), .int (iZ fy), .int (iZ fa), .int (iZ fb), .int (iZ fc), .int (iZ qr), .int (iZ fo), .ref zo])), (zd, .inl (cI, 32768, .inl (aI Dk)))]) (va_A [(hm, .inr (6, [.int (iZ tw), .int (iZ w), .int (iZ h), .int (iZ mn), .ref zd, .ref zb, .ref zt, .int (iZ n), .ref zs, .ref zc, .int (iZ fx), .int (iZ fy), .int (iZ fa), .int (iZ fb), .int (iZ fc), .int (iZ qr), .int (iZ fo), .ref zo])), (zd, .inl (cI, 32768, .inl (aI Dk)))] sz)) 0 0 (va_A [(hm, .inr (6, [.int (iZ tw), .int (iZ w), .int (iZ h), .int (iZ mn), .ref zd, .ref zb, .ref zt, .int (iZ n), .ref zs, .ref zc, .int (iZ fx), .int (iZ fy), .int (iZ fa), .int (iZ fb), .int (iZ fc), .int (iZ qr), .int (iZ fo), .ref zo])), (zd, .inl (cI, 32768, .inl (aI Dk)))] sz) := by
  refine Met.ofW (cc := c_yMo_run) (maxL := 11) (ret := (some .int)) (by decide) rfl ?_
  intro p e s m args below meth c s₁ B hml hv
  obtain ⟨rfl, hsz, hP, hK, hD0⟩ := hv
  have hx := B.exec
  have hb := B.bytes
  have hr := B.returns
  have hts0 := atoms_spec (ws := w_Mo_run) B.pre
  have hts : ∀ w ∈ gT, w.before _ s = true := fun w h => hts0 w (List.mem_cons_of_mem _ h)
  have hown : s.vm.findClass R_Mo = some m.cls := findClass_of_methodNamed B.named
  have hlocks := B.notSynchronized
  subst hsz
  have hD := hD0.self (sz := s.heap.size)
  generalize hAe : va_A [(hm, .inr (6, [.int (iZ tw), .int (iZ w), .int (iZ h), .int (iZ mn), .ref zd, .ref zb, .ref zt, .int (iZ n), .ref zs, .ref zc, .int (iZ fx), .int (iZ fy), .int (iZ fa), .int (iZ fb), .int (iZ fc), .int (iZ qr), .int (iZ fo), .ref zo])), (zd, .inl (cI, 32768, .inl (aI Dk)))] s.heap.size = A at hD ⊢
  have hA : ∀ q : Nat, s.heap.size ≤ q → A q := fun q h => by rw [← hAe]; exact Or.inr h
  obtain ⟨H, hH⟩ : ∃ H, s.heap = H := ⟨_, rfl⟩
  have hS : va_S A s.heap H [] := by rw [← hH]; exact va_S.rf
  rw [hH] at hP
  rw [hH]
  have hl := lv_entry ([.ref hm, .int (iZ x), .int (iZ y), .int (iZ i), .int (bI dw)]) (n := 11) (Nat.le_of_ble_eq_true rfl)
  rw [lg_entry_eq]
  generalize (lg_sl ([.ref hm, .int (iZ x), .int (iZ y), .int (iZ i), .int (bI dw)]) ++ List.replicate (11 - (lg_sl ([.ref hm, .int (iZ x), .int (iZ y), .int (iZ i), .int (bI dw)])).length) Slot.unset).toArray = ls at hl ⊢
  have hl : lv_has ls 11 [(0, .ref hm), (1, .int (iZ x)), (2, .int (iZ y)), (3, .int (iZ i)), (4, .int (bI dw))] := hl
  refine lv_aload_n hx hb d_Mo_run_0 rfl (lv_at hl 0 rfl) ?_
  refine lv_iload_n hx hb d_Mo_run_1 rfl (lv_at hl 1 rfl) ?_
  refine lv_iload_n hx hb d_Mo_run_2 rfl (lv_at hl 2 rfl) ?_
  refine vp_callSi (va_runS (As := [.int (iZ x), .int (iZ y)]) (rest := [.ref hm]) ⟨hx, hb, hml, hown, hts⟩ (c_Model_noPlace l dC dI x y (by first | omega | assumption) (by first | omega | assumption) (by first | omega | assumption) (by first | omega | assumption)) (va_cwS 2 hts (gS t_765 t_766 t_6 t_767) rfl rfl rfl (by decide +kernel) ⟨Nat.le_of_ble_eq_true rfl, Nat.le_of_ble_eq_true rfl⟩) ⟨zPr_blind, zPr_pre hP hK [] [] rfl rfl⟩ rfl rfl hl.1 rfl (lv_room (Nat.le_of_ble_eq_true rfl)) d_Mo_run_3 ⟨Nat.le_of_ble_eq_true rfl, Nat.le_of_ble_eq_true rfl⟩).run (fun r_3 q_3 => ?_)
  obtain rfl := q_3
  refine zb_if_eq (tgt := 13) hx hb d_Mo_run_6 (by decide) (fun c_6 => ?_) (fun c_6 => ?_)
  · have c_6 := of_decide_eq_false c_6
    refine lv_aload_n hx hb d_Mo_run_13 rfl (lv_at hl 0 rfl) ?_
    refine lv_iload_n hx hb d_Mo_run_14 rfl (lv_at hl 1 rfl) ?_
    refine lv_iload_n hx hb d_Mo_run_15 rfl (lv_at hl 2 rfl) ?_
    refine vp_callSi (va_runV (As := [.int (iZ x), .int (iZ y)]) (rest := [.ref hm]) ⟨hx, hb, hml, hown, hts⟩ (c_Model_isOn l dC dI hm zd zb zt zs zc zo tw w h mn n fx fy fa fb fc qr fo x y (by first | omega | assumption) (by first | omega | assumption) (by first | omega | assumption) (by first | omega | assumption) (by first | omega | assumption) (by first | omega | assumption) (by first | omega | assumption) (by first | omega | assumption)) (cwV 2 hts (gV t_831 t_833 s_28 t_6 t_834) rfl rfl rfl (by decide +kernel) ⟨Nat.le_of_ble_eq_true rfl, Nat.le_of_ble_eq_true rfl⟩) ⟨zPr_blind, va_recv hK hP (ci := 6) (q0 := 0) rfl rfl, zPr_pre hP hK [0] [] rfl rfl⟩ rfl rfl hl.1 rfl (lv_room (Nat.le_of_ble_eq_true rfl)) d_Mo_run_16 ⟨Nat.le_of_ble_eq_true rfl, Nat.le_of_ble_eq_true rfl⟩).run (fun r_16 q_16 => ?_)
    obtain rfl := q_16
    refine zb_if_eq (tgt := 26) hx hb d_Mo_run_19 (by decide) (fun c_19 => ?_) (fun c_19 => ?_)
    · have c_19 := of_decide_eq_false c_19
      refine lv_iconst (v := iZ (2)) hx hb d_Mo_run_26 rfl ?_
      refine va_put (D := (dC, dI)) (ci := 6) (v := .int (iZ 2)) (ty := .int) (C := R_Mo) (T := T_Mo) (N := 18) hx hb hts wi_Mo ty_Mo ty_Mo_ok nd_Mo hown hK hP hD hS 0 rfl rfl 0 (by decide) (hts _ t_684) (fun _ h9 => h9) rfl (by decide +kernel) rfl rfl (Nat.le_of_ble_eq_true rfl) d_Mo_run_27 (fun H locs hP hD hS => ?_)
      have hP : va_P (dC, dI) vwCl [(hm, .inr (6, [.int (iZ 2), .int (iZ w), .int (iZ h), .int (iZ mn), .ref zd, .ref zb, .ref zt, .int (iZ n), .ref zs, .ref zc, .int (iZ fx), .int (iZ fy), .int (iZ fa), .int (iZ fb), .int (iZ fc), .int (iZ qr), .int (iZ fo), .ref zo])), (zd, .inl (cI, 32768, .inl (aI Dk)))] H := hP
      have hD : va_D A [(hm, .inr (6, [.int (iZ 2), .int (iZ w), .int (iZ h), .int (iZ mn), .ref zd, .ref zb, .ref zt, .int (iZ n), .ref zs, .ref zc, .int (iZ fx), .int (iZ fy), .int (iZ fa), .int (iZ fb), .int (iZ fc), .int (iZ qr), .int (iZ fo), .ref zo])), (zd, .inl (cI, 32768, .inl (aI Dk)))] := hD
      refine lv_aload_n hx hb d_Mo_run_30 rfl (lv_at hl 0 rfl) ?_
      refine va_get (D := (dC, dI)) (ci := 6) (v := .int (iZ 2)) (C := R_Mo) (T := T_Mo) (N := 18) hx hb hts wi_Mo hown hK hP 0 rfl rfl 0 (by decide) (hts _ t_684) (fun _ h9 => h9) rfl d_Mo_run_31 ?_
      refine zi_if_le (tgt := 39) hx hb d_Mo_run_34 (by decide) (by omega) (by omega) (fun c_34 => ?_) (fun c_34 => ?_)
      · exact absurd c_34 (by omega)
      · refine lv_iconst (v := iZ (0)) hx hb d_Mo_run_37 rfl ?_
        exact W.iret hx hb hr (fun t ht hW => ⟨⟨_, 2, rfl, ⟨_, rfl, Or.inr (Or.inr ⟨by omega, decide_eq_false c_19, rfl⟩)⟩, by rw [ht]; exact hP, va_K.moved hW.alike hK, hD⟩, hS.F ht⟩) hS.2.2 d_Mo_run_38
    · have c_19 := of_decide_eq_true c_19
      refine lv_iconst (v := iZ (0)) hx hb d_Mo_run_22 rfl ?_
      refine lv_goto (tgt := 27) hx hb d_Mo_run_23 (by decide) ?_
      refine va_put (D := (dC, dI)) (ci := 6) (v := .int (iZ 0)) (ty := .int) (C := R_Mo) (T := T_Mo) (N := 18) hx hb hts wi_Mo ty_Mo ty_Mo_ok nd_Mo hown hK hP hD hS 0 rfl rfl 0 (by decide) (hts _ t_684) (fun _ h9 => h9) rfl (by decide +kernel) rfl rfl (Nat.le_of_ble_eq_true rfl) d_Mo_run_27 (fun H locs hP hD hS => ?_)
      have hP : va_P (dC, dI) vwCl [(hm, .inr (6, [.int (iZ 0), .int (iZ w), .int (iZ h), .int (iZ mn), .ref zd, .ref zb, .ref zt, .int (iZ n), .ref zs, .ref zc, .int (iZ fx), .int (iZ fy), .int (iZ fa), .int (iZ fb), .int (iZ fc), .int (iZ qr), .int (iZ fo), .ref zo])), (zd, .inl (cI, 32768, .inl (aI Dk)))] H := hP
      have hD : va_D A [(hm, .inr (6, [.int (iZ 0), .int (iZ w), .int (iZ h), .int (iZ mn), .ref zd, .ref zb, .ref zt, .int (iZ n), .ref zs, .ref zc, .int (iZ fx), .int (iZ fy), .int (iZ fa), .int (iZ fb), .int (iZ fc), .int (iZ qr), .int (iZ fo), .ref zo])), (zd, .inl (cI, 32768, .inl (aI Dk)))] := hD
      refine lv_aload_n hx hb d_Mo_run_30 rfl (lv_at hl 0 rfl) ?_
      refine va_get (D := (dC, dI)) (ci := 6) (v := .int (iZ 0)) (C := R_Mo) (T := T_Mo) (N := 18) hx hb hts wi_Mo hown hK hP 0 rfl rfl 0 (by decide) (hts _ t_684) (fun _ h9 => h9) rfl d_Mo_run_31 ?_
      refine zi_if_le (tgt := 39) hx hb d_Mo_run_34 (by decide) (by omega) (by omega) (fun c_34 => ?_) (fun c_34 => ?_)
      · refine lv_iload hx hb d_Mo_run_39 (lv_at hl 4 rfl) ?_
        refine zb_if_eq (tgt := 48) hx hb d_Mo_run_41 (by decide) (fun c_41 => ?_) (fun c_41 => ?_)
        · refine lv_iconst (v := iZ (1)) hx hb d_Mo_run_48 rfl ?_
          refine lv_istore (lv' := [(5, .int (iZ 1)), (0, .ref hm), (1, .int (iZ x)), (2, .int (iZ y)), (3, .int (iZ i)), (4, .int (bI dw))]) hx hb d_Mo_run_49 hl (by decide) rfl (fun ls hl => ?_)
          refine lv_iload hx hb d_Mo_run_51 (lv_at hl 5 rfl) ?_
          refine zb_if_eq (tgt := 60) hx hb d_Mo_run_53 (by decide) (fun c_53 => ?_) (fun c_53 => ?_)
          · refine lv_iconst (v := iZ (0)) hx hb d_Mo_run_60 rfl ?_
            refine lv_istore (lv' := [(6, .int (iZ 0)), (5, .int (iZ 1)), (0, .ref hm), (1, .int (iZ x)), (2, .int (iZ y)), (3, .int (iZ i)), (4, .int (bI dw))]) hx hb d_Mo_run_61 hl (by decide) rfl (fun ls hl => ?_)
            refine lv_iconst (v := iZ (0)) hx hb d_Mo_run_63 rfl ?_
            refine lv_istore (lv' := [(7, .int (iZ 0)), (6, .int (iZ 0)), (5, .int (iZ 1)), (0, .ref hm), (1, .int (iZ x)), (2, .int (iZ y)), (3, .int (iZ i)), (4, .int (bI dw))]) hx hb d_Mo_run_64 hl (by decide) rfl (fun ls hl => ?_)
            refine lv_iconst (v := iZ (0)) hx hb d_Mo_run_66 rfl ?_
            refine lv_istore (lv' := [(8, .int (iZ 0)), (7, .int (iZ 0)), (6, .int (iZ 0)), (5, .int (iZ 1)), (0, .ref hm), (1, .int (iZ x)), (2, .int (iZ y)), (3, .int (iZ i)), (4, .int (bI dw))]) hx hb d_Mo_run_67 hl (by decide) rfl (fun ls hl => ?_)
            refine lv_iconst (v := iZ (0)) hx hb d_Mo_run_69 rfl ?_
            refine lv_istore (lv' := [(9, .int (iZ 0)), (8, .int (iZ 0)), (7, .int (iZ 0)), (6, .int (iZ 0)), (5, .int (iZ 1)), (0, .ref hm), (1, .int (iZ x)), (2, .int (iZ y)), (3, .int (iZ i)), (4, .int (bI dw))]) hx hb d_Mo_run_70 hl (by decide) rfl (fun ls hl => ?_)
            have LP_72 : ∀ (n_72 : Nat) (k_ : Int) (rn : Int) (nn : Int) (k : Nat), (k_ = k) → (k_ ≤ w - x) → (rn = riN (fun k => pic (x + k * 1) (y + k * 0)) (k - 1)) → (nn = rcN (fun k => pic (x + k * 1) (y + k * 0)) i k) → (0 ≤ rn ∧ rn ≤ k_ ∧ 0 ≤ nn ∧ nn ≤ k_) → (w - x - k_).toNat < n_72 → ∀ (H : Heap) (locs : List Loc), va_P (dC, dI) vwCl [(hm, .inr (6, [.int (iZ 0), .int (iZ w), .int (iZ h), .int (iZ mn), .ref zd, .ref zb, .ref zt, .int (iZ n), .ref zs, .ref zc, .int (iZ fx), .int (iZ fy), .int (iZ fa), .int (iZ fb), .int (iZ fc), .int (iZ qr), .int (iZ fo), .ref zo])), (zd, .inl (cI, 32768, .inl (aI Dk)))] H → va_D A [(hm, .inr (6, [.int (iZ 0), .int (iZ w), .int (iZ h), .int (iZ mn), .ref zd, .ref zb, .ref zt, .int (iZ n), .ref zs, .ref zc, .int (iZ fx), .int (iZ fy), .int (iZ fa), .int (iZ fb), .int (iZ fc), .int (iZ qr), .int (iZ fo), .ref zo])), (zd, .inl (cI, 32768, .inl (aI Dk)))] → va_S A s.heap H locs → ∀ (ls : Array Slot), lv_has ls 11 [(0, .ref hm), (1, .int (iZ x)), (2, .int (iZ y)), (3, .int (iZ i)), (5, .int (iZ 1)), (6, .int (iZ 0)), (7, .int (iZ rn)), (8, .int (iZ nn)), (9, .int (iZ k_))] → W p l e ({ frames := 2, cells := 0, slots := 0, locals := 44 } : Room) s m ([.ref hm, .int (iZ x), .int (iZ y), .int (iZ i), .int (bI dw)] : List Value).toArray below meth c H locs 0 0 (MQ below (va_Qi (fun (r : Int32) (u : Int) => ∃ z : Int, r = iZ z ∧ (((-4096 ≤ x ∧ x ≤ 4096 ∧ -4096 ≤ y ∧ y ≤ 4096) ∧ onB w h x y = true ∧ u = 0 ∧ z = (if dw then runS (fun k => pic (x + k * 0) (y + k * 1)) (h - y) i else runS (fun k => pic (x + k * 1) (y + k * 0)) (w - x) i)) ∨ (¬ (-4096 ≤ x ∧ x ≤ 4096 ∧ -4096 ≤ y ∧ y ≤ 4096) ∧ u = 1) ∨ ((-4096 ≤ x ∧ x ≤ 4096 ∧ -4096 ≤ y ∧ y ≤ 4096) ∧ onB w h x y = false ∧ u = 2))) (fun u => zB (dC, dI) vwCl [(cI, .int)] A [(hm, .inr (6, [.int (iZ u), .int (iZ w), .int (iZ h), .int (iZ mn), .ref zd, .ref zb, .ref zt, .int (iZ n), .ref zs, .ref zc, .int (iZ fx), .int (iZ fy), .int (iZ fa), .int (iZ fb), .int (iZ fc), .int (iZ qr), .int (iZ fo), .ref zo])), (zd, .inl (cI, 32768, .inl (aI Dk)))]) A) ([.ref hm, .int (iZ x), .int (iZ y), .int (iZ i), .int (bI dw)] : List Value).toArray s 0 0 A) (F0 m 72 ls []) := by
              intro n_72
              induction n_72 with
              | zero => intro k_ rn nn k i1 i2 i3 i4 i5 hm; exact absurd hm (by omega)
              | succ n_72 ih_72 =>
                intro k_ rn nn k i1 i2 i3 i4 i5 hm_72 H locs hP hD hS ls hl
                refine lv_aload_n hx hb d_Mo_run_72 rfl (lv_at hl 0 rfl) ?_
                refine lv_iload_n hx hb d_Mo_run_73 rfl (lv_at hl 1 rfl) ?_
                refine lv_iload hx hb d_Mo_run_74 (lv_at hl 8 rfl) ?_
                refine lv_iload hx hb d_Mo_run_76 (lv_at hl 4 rfl) ?_
                refine zi_mul hx hb d_Mo_run_78 ?_
                refine zi_add hx hb d_Mo_run_79 ?_
                refine lv_iload_n hx hb d_Mo_run_80 rfl (lv_at hl 2 rfl) ?_
                refine lv_iload hx hb d_Mo_run_81 (lv_at hl 8 rfl) ?_
                refine lv_iload hx hb d_Mo_run_83 (lv_at hl 5 rfl) ?_
                refine zi_mul hx hb d_Mo_run_85 ?_
                refine zi_add hx hb d_Mo_run_86 ?_
                refine vp_callSi (va_runV (As := [.int (iZ (x + (k_ * 1))), .int (iZ (y + (k_ * 0)))]) (rest := []) ⟨hx, hb, hml, hown, hts⟩ (c_Model_isOn l dC dI hm zd zb zt zs zc zo 0 w h mn n fx fy fa fb fc qr fo (x + (k_ * 1)) (y + (k_ * 0)) (by first | omega | assumption) (by first | omega | assumption) (by first | omega | assumption) (by first | omega | assumption) (by first | omega | assumption) (by first | omega | assumption) (by first | omega | assumption) (by first | omega | assumption)) (cwV 2 hts (gV t_831 t_833 s_28 t_6 t_834) rfl rfl rfl (by decide +kernel) ⟨Nat.le_of_ble_eq_true rfl, Nat.le_of_ble_eq_true rfl⟩) ⟨zPr_blind, va_recv hK hP (ci := 6) (q0 := 0) rfl rfl, zPr_pre hP hK [0] [] rfl rfl⟩ rfl rfl hl.1 rfl (lv_room (Nat.le_of_ble_eq_true rfl)) d_Mo_run_87 ⟨Nat.le_of_ble_eq_true rfl, Nat.le_of_ble_eq_true rfl⟩).run (fun r_87 q_87 => ?_)
                obtain rfl := q_87
                refine zb_if_eq (tgt := 170) hx hb d_Mo_run_90 (by decide) (fun c_90 => ?_) (fun c_90 => ?_)
                · have c_90 := of_decide_eq_false c_90
                  refine lv_iload hx hb d_Mo_run_170 (lv_at hl 7 rfl) ?_
                  refine zi_if_ne (tgt := 179) hx hb d_Mo_run_172 (by decide) (by omega) (by omega) (fun c_172 => ?_) (fun c_172 => ?_)
                  · refine lv_iload hx hb d_Mo_run_179 (lv_at hl 7 rfl) ?_
                    exact W.iret hx hb hr (fun t ht hW => ⟨⟨_, 0, rfl, ⟨_, rfl, Or.inl ⟨by omega, decide_eq_true (by omega), rfl, by rw [if_neg (by rw [c_41]; decide)]; unfold runS; rw [show (w - x).toNat = k by omega, ← i4, if_neg c_172]⟩⟩, by rw [ht]; exact hP, va_K.moved hW.alike hK, hD⟩, hS.F ht⟩) hS.2.2 d_Mo_run_181
                  · refine lv_iconst (v := iZ (-1)) hx hb d_Mo_run_175 rfl ?_
                    refine lv_goto (tgt := 181) hx hb d_Mo_run_176 (by decide) ?_
                    exact W.iret hx hb hr (fun t ht hW => ⟨⟨_, 0, rfl, ⟨_, rfl, Or.inl ⟨by omega, decide_eq_true (by omega), rfl, by rw [if_neg (by rw [c_41]; decide)]; unfold runS; rw [show (w - x).toNat = k by omega, ← i4, if_pos c_172]⟩⟩, by rw [ht]; exact hP, va_K.moved hW.alike hK, hD⟩, hS.F ht⟩) hS.2.2 d_Mo_run_181
                · have c_90 := of_decide_eq_true c_90
                  refine lv_aload_n hx hb d_Mo_run_93 rfl (lv_at hl 0 rfl) ?_
                  refine lv_iload_n hx hb d_Mo_run_94 rfl (lv_at hl 1 rfl) ?_
                  refine lv_iload hx hb d_Mo_run_95 (lv_at hl 8 rfl) ?_
                  refine lv_iload hx hb d_Mo_run_97 (lv_at hl 4 rfl) ?_
                  refine zi_mul hx hb d_Mo_run_99 ?_
                  refine zi_add hx hb d_Mo_run_100 ?_
                  refine lv_iload_n hx hb d_Mo_run_101 rfl (lv_at hl 2 rfl) ?_
                  refine lv_iload hx hb d_Mo_run_102 (lv_at hl 8 rfl) ?_
                  refine lv_iload hx hb d_Mo_run_104 (lv_at hl 5 rfl) ?_
                  refine zi_mul hx hb d_Mo_run_106 ?_
                  refine zi_add hx hb d_Mo_run_107 ?_
                  refine vp_callSi (va_runV (As := [.int (iZ (x + (k_ * 1))), .int (iZ (y + (k_ * 0)))]) (rest := []) ⟨hx, hb, hml, hown, hts⟩ (c_Model_isDark l dC dI hm zd zb zt zs zc zo 0 w h mn n fx fy fa fb fc qr fo cI Dk pic (x + (k_ * 1)) (y + (k_ * 0)) (by first | omega | assumption) (by first | omega | assumption) (by first | omega | assumption) (by first | omega | assumption) (by first | omega | assumption) (by first | omega | assumption) (by first | omega | assumption) (by first | omega | assumption) (by first | omega | assumption) (by first | omega | assumption)) (cwV 2 hts (gV t_827 t_829 s_27 t_6 t_830) rfl rfl rfl (by decide +kernel) ⟨Nat.le_of_ble_eq_true rfl, Nat.le_of_ble_eq_true rfl⟩) ⟨zPr_blind, va_recv hK hP (ci := 6) (q0 := 0) rfl rfl, zPr_pre hP hK [0, 1] [0] rfl rfl⟩ rfl rfl hl.1 rfl (lv_room (Nat.le_of_ble_eq_true rfl)) d_Mo_run_108 ⟨Nat.le_of_ble_eq_true rfl, Nat.le_of_ble_eq_true rfl⟩).run (fun r_108 q_108 => ?_)
                  obtain rfl := q_108
                  refine lv_istore (lv' := [(10, .int (bI (pic (x + (k_ * 1)) (y + (k_ * 0))))), (0, .ref hm), (1, .int (iZ x)), (2, .int (iZ y)), (3, .int (iZ i)), (5, .int (iZ 1)), (6, .int (iZ 0)), (7, .int (iZ rn)), (8, .int (iZ nn)), (9, .int (iZ k_))]) hx hb d_Mo_run_111 hl (by decide) rfl (fun ls hl => ?_)
                  refine lv_iload hx hb d_Mo_run_113 (lv_at hl 9 rfl) ?_
                  refine zi_if_le (tgt := 148) hx hb d_Mo_run_115 (by decide) (by omega) (by omega) (fun c_115 => ?_) (fun c_115 => ?_)
                  · refine lv_iload hx hb d_Mo_run_148 (lv_at hl 8 rfl) ?_
                    refine lv_iload hx hb d_Mo_run_150 (lv_at hl 7 rfl) ?_
                    refine lv_iload_n hx hb d_Mo_run_152 rfl (lv_at hl 4 rfl) ?_
                    refine zi_ne (tgt := 160) hx hb d_Mo_run_153 (by decide) (by omega) (by omega) (by omega) (by omega) (fun c_153 => ?_) (fun c_153 => ?_)
                    · refine lv_iconst (v := iZ (0)) hx hb d_Mo_run_160 rfl ?_
                      refine zi_add hx hb d_Mo_run_161 ?_
                      refine zn_z (fun v8_162 e_v8_162 => ?_)
                      refine lv_istore (lv' := [(8, .int (iZ v8_162)), (10, .int (bI (pic (x + (k_ * 1)) (y + (k_ * 0))))), (0, .ref hm), (1, .int (iZ x)), (2, .int (iZ y)), (3, .int (iZ i)), (5, .int (iZ 1)), (6, .int (iZ 0)), (7, .int (iZ rn)), (9, .int (iZ k_))]) hx hb d_Mo_run_162 hl (by decide) rfl (fun ls hl => ?_)
                      refine lv_iinc (v := iZ (k_ + 1)) (lv' := [(9, .int (iZ (k_ + 1))), (8, .int (iZ v8_162)), (10, .int (bI (pic (x + (k_ * 1)) (y + (k_ * 0))))), (0, .ref hm), (1, .int (iZ x)), (2, .int (iZ y)), (3, .int (iZ i)), (5, .int (iZ 1)), (6, .int (iZ 0)), (7, .int (iZ rn))]) hx hb d_Mo_run_164 hl (k := 9) rfl (iZ_add _ _) (by decide) rfl (fun ls hl => ?_)
                      refine lv_goto (tgt := 72) hx hb d_Mo_run_167 (by decide) ?_
                      exact ih_72 (k_ + 1) rn v8_162 (k + 1) (by omega) (by omega) (by first | exact rk_0 (q := (fun k => pic (x + k * 1) (y + k * 0))) i3 (by omega) | exact rk_eq (q := (fun k => pic (x + k * 1) (y + k * 0))) i3 (by omega) (by rw [← i1]; exact bI_inj.mp c_142) | exact rk_ne (q := (fun k => pic (x + k * 1) (y + k * 0))) i3 (by omega) (by rw [← i1]; exact fun z9 => c_142 (congrArg bI z9))) (by rw [e_v8_162]; first | exact rc_y (q := (fun k => pic (x + k * 1) (y + k * 0))) (by first | exact rk_0 (q := (fun k => pic (x + k * 1) (y + k * 0))) i3 (by omega) | exact rk_eq (q := (fun k => pic (x + k * 1) (y + k * 0))) i3 (by omega) (by rw [← i1]; exact bI_inj.mp c_142) | exact rk_ne (q := (fun k => pic (x + k * 1) (y + k * 0))) i3 (by omega) (by rw [← i1]; exact fun z9 => c_142 (congrArg bI z9))) (by omega) i4 | exact rc_n (q := (fun k => pic (x + k * 1) (y + k * 0))) (by first | exact rk_0 (q := (fun k => pic (x + k * 1) (y + k * 0))) i3 (by omega) | exact rk_eq (q := (fun k => pic (x + k * 1) (y + k * 0))) i3 (by omega) (by rw [← i1]; exact bI_inj.mp c_142) | exact rk_ne (q := (fun k => pic (x + k * 1) (y + k * 0))) i3 (by omega) (by rw [← i1]; exact fun z9 => c_142 (congrArg bI z9))) (by omega) i4) (by omega) (by omega) _ _ hP hD hS ls (lv_sub hl [3, 4, 5, 6, 7, 8, 9, 1, 0] rfl)
                    · refine lv_iconst (v := iZ (1)) hx hb d_Mo_run_156 rfl ?_
                      refine lv_goto (tgt := 161) hx hb d_Mo_run_157 (by decide) ?_
                      refine zi_add hx hb d_Mo_run_161 ?_
                      refine zn_z (fun v8_162 e_v8_162 => ?_)
                      refine lv_istore (lv' := [(8, .int (iZ v8_162)), (10, .int (bI (pic (x + (k_ * 1)) (y + (k_ * 0))))), (0, .ref hm), (1, .int (iZ x)), (2, .int (iZ y)), (3, .int (iZ i)), (5, .int (iZ 1)), (6, .int (iZ 0)), (7, .int (iZ rn)), (9, .int (iZ k_))]) hx hb d_Mo_run_162 hl (by decide) rfl (fun ls hl => ?_)
                      refine lv_iinc (v := iZ (k_ + 1)) (lv' := [(9, .int (iZ (k_ + 1))), (8, .int (iZ v8_162)), (10, .int (bI (pic (x + (k_ * 1)) (y + (k_ * 0))))), (0, .ref hm), (1, .int (iZ x)), (2, .int (iZ y)), (3, .int (iZ i)), (5, .int (iZ 1)), (6, .int (iZ 0)), (7, .int (iZ rn))]) hx hb d_Mo_run_164 hl (k := 9) rfl (iZ_add _ _) (by decide) rfl (fun ls hl => ?_)
                      refine lv_goto (tgt := 72) hx hb d_Mo_run_167 (by decide) ?_
                      exact ih_72 (k_ + 1) rn v8_162 (k + 1) (by omega) (by omega) (by first | exact rk_0 (q := (fun k => pic (x + k * 1) (y + k * 0))) i3 (by omega) | exact rk_eq (q := (fun k => pic (x + k * 1) (y + k * 0))) i3 (by omega) (by rw [← i1]; exact bI_inj.mp c_142) | exact rk_ne (q := (fun k => pic (x + k * 1) (y + k * 0))) i3 (by omega) (by rw [← i1]; exact fun z9 => c_142 (congrArg bI z9))) (by rw [e_v8_162]; first | exact rc_y (q := (fun k => pic (x + k * 1) (y + k * 0))) (by first | exact rk_0 (q := (fun k => pic (x + k * 1) (y + k * 0))) i3 (by omega) | exact rk_eq (q := (fun k => pic (x + k * 1) (y + k * 0))) i3 (by omega) (by rw [← i1]; exact bI_inj.mp c_142) | exact rk_ne (q := (fun k => pic (x + k * 1) (y + k * 0))) i3 (by omega) (by rw [← i1]; exact fun z9 => c_142 (congrArg bI z9))) (by omega) i4 | exact rc_n (q := (fun k => pic (x + k * 1) (y + k * 0))) (by first | exact rk_0 (q := (fun k => pic (x + k * 1) (y + k * 0))) i3 (by omega) | exact rk_eq (q := (fun k => pic (x + k * 1) (y + k * 0))) i3 (by omega) (by rw [← i1]; exact bI_inj.mp c_142) | exact rk_ne (q := (fun k => pic (x + k * 1) (y + k * 0))) i3 (by omega) (by rw [← i1]; exact fun z9 => c_142 (congrArg bI z9))) (by omega) i4) (by omega) (by omega) _ _ hP hD hS ls (lv_sub hl [3, 4, 5, 6, 7, 8, 9, 1, 0] rfl)
                  · refine lv_iload hx hb d_Mo_run_118 (lv_at hl 0 rfl) ?_
                    refine lv_aload_n hx hb d_Mo_run_120 rfl (lv_at hl 1 rfl) ?_
                    refine lv_iload_n hx hb d_Mo_run_121 rfl (lv_at hl 2 rfl) ?_
                    refine lv_iload hx hb d_Mo_run_122 (lv_at hl 9 rfl) ?_
                    refine lv_iconst (v := iZ (1)) hx hb d_Mo_run_124 rfl ?_
                    refine zi_sub hx hb d_Mo_run_125 ?_
                    refine lv_iload hx hb d_Mo_run_126 (lv_at hl 5 rfl) ?_
                    refine zi_mul hx hb d_Mo_run_128 ?_
                    refine zi_add hx hb d_Mo_run_129 ?_
                    refine lv_iload_n hx hb d_Mo_run_130 rfl (lv_at hl 3 rfl) ?_
                    refine lv_iload hx hb d_Mo_run_131 (lv_at hl 9 rfl) ?_
                    refine lv_iconst (v := iZ (1)) hx hb d_Mo_run_133 rfl ?_
                    refine zi_sub hx hb d_Mo_run_134 ?_
                    refine lv_iload hx hb d_Mo_run_135 (lv_at hl 6 rfl) ?_
                    refine zi_mul hx hb d_Mo_run_137 ?_
                    refine zi_add hx hb d_Mo_run_138 ?_
                    refine vp_callSi (va_runV (As := [.int (iZ (x + ((k_ - 1) * 1))), .int (iZ (y + ((k_ - 1) * 0)))]) (rest := [.int (bI (pic (x + (k_ * 1)) (y + (k_ * 0))))]) ⟨hx, hb, hml, hown, hts⟩ (c_Model_isDark l dC dI hm zd zb zt zs zc zo 0 w h mn n fx fy fa fb fc qr fo cI Dk pic (x + ((k_ - 1) * 1)) (y + ((k_ - 1) * 0)) (by first | omega | assumption) (by first | omega | assumption) (by first | omega | assumption) (by first | omega | assumption) (by first | omega | assumption) (by first | omega | assumption) (by first | omega | assumption) (by first | omega | assumption) (by first | omega | assumption) (by first | omega | assumption)) (cwV 2 hts (gV t_827 t_829 s_27 t_6 t_830) rfl rfl rfl (by decide +kernel) ⟨Nat.le_of_ble_eq_true rfl, Nat.le_of_ble_eq_true rfl⟩) ⟨zPr_blind, va_recv hK hP (ci := 6) (q0 := 0) rfl rfl, zPr_pre hP hK [0, 1] [0] rfl rfl⟩ rfl rfl hl.1 rfl (lv_room (Nat.le_of_ble_eq_true rfl)) d_Mo_run_139 ⟨Nat.le_of_ble_eq_true rfl, Nat.le_of_ble_eq_true rfl⟩).run (fun r_139 q_139 => ?_)
                    obtain rfl := q_139
                    refine lv_icmp_eq (tgt := 148) hx hb d_Mo_run_142 (by decide) (fun c_142 => ?_) (fun c_142 => ?_)
                    · refine lv_iload hx hb d_Mo_run_148 (lv_at hl 8 rfl) ?_
                      refine lv_iload hx hb d_Mo_run_150 (lv_at hl 7 rfl) ?_
                      refine lv_iload_n hx hb d_Mo_run_152 rfl (lv_at hl 4 rfl) ?_
                      refine zi_ne (tgt := 160) hx hb d_Mo_run_153 (by decide) (by omega) (by omega) (by omega) (by omega) (fun c_153 => ?_) (fun c_153 => ?_)
                      · refine lv_iconst (v := iZ (0)) hx hb d_Mo_run_160 rfl ?_
                        refine zi_add hx hb d_Mo_run_161 ?_
                        refine zn_z (fun v8_162 e_v8_162 => ?_)
                        refine lv_istore (lv' := [(8, .int (iZ v8_162)), (10, .int (bI (pic (x + (k_ * 1)) (y + (k_ * 0))))), (0, .ref hm), (1, .int (iZ x)), (2, .int (iZ y)), (3, .int (iZ i)), (5, .int (iZ 1)), (6, .int (iZ 0)), (7, .int (iZ rn)), (9, .int (iZ k_))]) hx hb d_Mo_run_162 hl (by decide) rfl (fun ls hl => ?_)
                        refine lv_iinc (v := iZ (k_ + 1)) (lv' := [(9, .int (iZ (k_ + 1))), (8, .int (iZ v8_162)), (10, .int (bI (pic (x + (k_ * 1)) (y + (k_ * 0))))), (0, .ref hm), (1, .int (iZ x)), (2, .int (iZ y)), (3, .int (iZ i)), (5, .int (iZ 1)), (6, .int (iZ 0)), (7, .int (iZ rn))]) hx hb d_Mo_run_164 hl (k := 9) rfl (iZ_add _ _) (by decide) rfl (fun ls hl => ?_)
                        refine lv_goto (tgt := 72) hx hb d_Mo_run_167 (by decide) ?_
                        exact ih_72 (k_ + 1) rn v8_162 (k + 1) (by omega) (by omega) (by first | exact rk_0 (q := (fun k => pic (x + k * 1) (y + k * 0))) i3 (by omega) | exact rk_eq (q := (fun k => pic (x + k * 1) (y + k * 0))) i3 (by omega) (by rw [← i1]; exact bI_inj.mp c_142) | exact rk_ne (q := (fun k => pic (x + k * 1) (y + k * 0))) i3 (by omega) (by rw [← i1]; exact fun z9 => c_142 (congrArg bI z9))) (by rw [e_v8_162]; first | exact rc_y (q := (fun k => pic (x + k * 1) (y + k * 0))) (by first | exact rk_0 (q := (fun k => pic (x + k * 1) (y + k * 0))) i3 (by omega) | exact rk_eq (q := (fun k => pic (x + k * 1) (y + k * 0))) i3 (by omega) (by rw [← i1]; exact bI_inj.mp c_142) | exact rk_ne (q := (fun k => pic (x + k * 1) (y + k * 0))) i3 (by omega) (by rw [← i1]; exact fun z9 => c_142 (congrArg bI z9))) (by omega) i4 | exact rc_n (q := (fun k => pic (x + k * 1) (y + k * 0))) (by first | exact rk_0 (q := (fun k => pic (x + k * 1) (y + k * 0))) i3 (by omega) | exact rk_eq (q := (fun k => pic (x + k * 1) (y + k * 0))) i3 (by omega) (by rw [← i1]; exact bI_inj.mp c_142) | exact rk_ne (q := (fun k => pic (x + k * 1) (y + k * 0))) i3 (by omega) (by rw [← i1]; exact fun z9 => c_142 (congrArg bI z9))) (by omega) i4) (by omega) (by omega) _ _ hP hD hS ls (lv_sub hl [3, 4, 5, 6, 7, 8, 9, 1, 0] rfl)
                      · refine lv_iconst (v := iZ (1)) hx hb d_Mo_run_156 rfl ?_
                        refine lv_goto (tgt := 161) hx hb d_Mo_run_157 (by decide) ?_
                        refine zi_add hx hb d_Mo_run_161 ?_
                        refine zn_z (fun v8_162 e_v8_162 => ?_)
                        refine lv_istore (lv' := [(8, .int (iZ v8_162)), (10, .int (bI (pic (x + (k_ * 1)) (y + (k_ * 0))))), (0, .ref hm), (1, .int (iZ x)), (2, .int (iZ y)), (3, .int (iZ i)), (5, .int (iZ 1)), (6, .int (iZ 0)), (7, .int (iZ rn)), (9, .int (iZ k_))]) hx hb d_Mo_run_162 hl (by decide) rfl (fun ls hl => ?_)
                        refine lv_iinc (v := iZ (k_ + 1)) (lv' := [(9, .int (iZ (k_ + 1))), (8, .int (iZ v8_162)), (10, .int (bI (pic (x + (k_ * 1)) (y + (k_ * 0))))), (0, .ref hm), (1, .int (iZ x)), (2, .int (iZ y)), (3, .int (iZ i)), (5, .int (iZ 1)), (6, .int (iZ 0)), (7, .int (iZ rn))]) hx hb d_Mo_run_164 hl (k := 9) rfl (iZ_add _ _) (by decide) rfl (fun ls hl => ?_)
                        refine lv_goto (tgt := 72) hx hb d_Mo_run_167 (by decide) ?_
                        exact ih_72 (k_ + 1) rn v8_162 (k + 1) (by omega) (by omega) (by first | exact rk_0 (q := (fun k => pic (x + k * 1) (y + k * 0))) i3 (by omega) | exact rk_eq (q := (fun k => pic (x + k * 1) (y + k * 0))) i3 (by omega) (by rw [← i1]; exact bI_inj.mp c_142) | exact rk_ne (q := (fun k => pic (x + k * 1) (y + k * 0))) i3 (by omega) (by rw [← i1]; exact fun z9 => c_142 (congrArg bI z9))) (by rw [e_v8_162]; first | exact rc_y (q := (fun k => pic (x + k * 1) (y + k * 0))) (by first | exact rk_0 (q := (fun k => pic (x + k * 1) (y + k * 0))) i3 (by omega) | exact rk_eq (q := (fun k => pic (x + k * 1) (y + k * 0))) i3 (by omega) (by rw [← i1]; exact bI_inj.mp c_142) | exact rk_ne (q := (fun k => pic (x + k * 1) (y + k * 0))) i3 (by omega) (by rw [← i1]; exact fun z9 => c_142 (congrArg bI z9))) (by omega) i4 | exact rc_n (q := (fun k => pic (x + k * 1) (y + k * 0))) (by first | exact rk_0 (q := (fun k => pic (x + k * 1) (y + k * 0))) i3 (by omega) | exact rk_eq (q := (fun k => pic (x + k * 1) (y + k * 0))) i3 (by omega) (by rw [← i1]; exact bI_inj.mp c_142) | exact rk_ne (q := (fun k => pic (x + k * 1) (y + k * 0))) i3 (by omega) (by rw [← i1]; exact fun z9 => c_142 (congrArg bI z9))) (by omega) i4) (by omega) (by omega) _ _ hP hD hS ls (lv_sub hl [3, 4, 5, 6, 7, 8, 9, 1, 0] rfl)
                    · refine lv_iinc (v := iZ (rn + 1)) (lv' := [(7, .int (iZ (rn + 1))), (10, .int (bI (pic (x + (k_ * 1)) (y + (k_ * 0))))), (0, .ref hm), (1, .int (iZ x)), (2, .int (iZ y)), (3, .int (iZ i)), (5, .int (iZ 1)), (6, .int (iZ 0)), (8, .int (iZ nn)), (9, .int (iZ k_))]) hx hb d_Mo_run_145 hl (k := 7) rfl (iZ_add _ _) (by decide) rfl (fun ls hl => ?_)
                      refine lv_iload hx hb d_Mo_run_148 (lv_at hl 8 rfl) ?_
                      refine lv_iload hx hb d_Mo_run_150 (lv_at hl 0 rfl) ?_
                      refine lv_iload_n hx hb d_Mo_run_152 rfl (lv_at hl 5 rfl) ?_
                      refine zi_ne (tgt := 160) hx hb d_Mo_run_153 (by decide) (by omega) (by omega) (by omega) (by omega) (fun c_153 => ?_) (fun c_153 => ?_)
                      · refine lv_iconst (v := iZ (0)) hx hb d_Mo_run_160 rfl ?_
                        refine zi_add hx hb d_Mo_run_161 ?_
                        refine zn_z (fun v8_162 e_v8_162 => ?_)
                        refine lv_istore (lv' := [(8, .int (iZ v8_162)), (7, .int (iZ (rn + 1))), (10, .int (bI (pic (x + (k_ * 1)) (y + (k_ * 0))))), (0, .ref hm), (1, .int (iZ x)), (2, .int (iZ y)), (3, .int (iZ i)), (5, .int (iZ 1)), (6, .int (iZ 0)), (9, .int (iZ k_))]) hx hb d_Mo_run_162 hl (by decide) rfl (fun ls hl => ?_)
                        refine lv_iinc (v := iZ (k_ + 1)) (lv' := [(9, .int (iZ (k_ + 1))), (8, .int (iZ v8_162)), (7, .int (iZ (rn + 1))), (10, .int (bI (pic (x + (k_ * 1)) (y + (k_ * 0))))), (0, .ref hm), (1, .int (iZ x)), (2, .int (iZ y)), (3, .int (iZ i)), (5, .int (iZ 1)), (6, .int (iZ 0))]) hx hb d_Mo_run_164 hl (k := 9) rfl (iZ_add _ _) (by decide) rfl (fun ls hl => ?_)
                        refine lv_goto (tgt := 72) hx hb d_Mo_run_167 (by decide) ?_
                        exact ih_72 (k_ + 1) (rn + 1) v8_162 (k + 1) (by omega) (by omega) (by first | exact rk_0 (q := (fun k => pic (x + k * 1) (y + k * 0))) i3 (by omega) | exact rk_eq (q := (fun k => pic (x + k * 1) (y + k * 0))) i3 (by omega) (by rw [← i1]; exact bI_inj.mp c_142) | exact rk_ne (q := (fun k => pic (x + k * 1) (y + k * 0))) i3 (by omega) (by rw [← i1]; exact fun z9 => c_142 (congrArg bI z9))) (by rw [e_v8_162]; first | exact rc_y (q := (fun k => pic (x + k * 1) (y + k * 0))) (by first | exact rk_0 (q := (fun k => pic (x + k * 1) (y + k * 0))) i3 (by omega) | exact rk_eq (q := (fun k => pic (x + k * 1) (y + k * 0))) i3 (by omega) (by rw [← i1]; exact bI_inj.mp c_142) | exact rk_ne (q := (fun k => pic (x + k * 1) (y + k * 0))) i3 (by omega) (by rw [← i1]; exact fun z9 => c_142 (congrArg bI z9))) (by omega) i4 | exact rc_n (q := (fun k => pic (x + k * 1) (y + k * 0))) (by first | exact rk_0 (q := (fun k => pic (x + k * 1) (y + k * 0))) i3 (by omega) | exact rk_eq (q := (fun k => pic (x + k * 1) (y + k * 0))) i3 (by omega) (by rw [← i1]; exact bI_inj.mp c_142) | exact rk_ne (q := (fun k => pic (x + k * 1) (y + k * 0))) i3 (by omega) (by rw [← i1]; exact fun z9 => c_142 (congrArg bI z9))) (by omega) i4) (by omega) (by omega) _ _ hP hD hS ls (lv_sub hl [4, 5, 6, 7, 8, 9, 2, 1, 0] rfl)
                      · refine lv_iconst (v := iZ (1)) hx hb d_Mo_run_156 rfl ?_
                        refine lv_goto (tgt := 161) hx hb d_Mo_run_157 (by decide) ?_
                        refine zi_add hx hb d_Mo_run_161 ?_
                        refine zn_z (fun v8_162 e_v8_162 => ?_)
                        refine lv_istore (lv' := [(8, .int (iZ v8_162)), (7, .int (iZ (rn + 1))), (10, .int (bI (pic (x + (k_ * 1)) (y + (k_ * 0))))), (0, .ref hm), (1, .int (iZ x)), (2, .int (iZ y)), (3, .int (iZ i)), (5, .int (iZ 1)), (6, .int (iZ 0)), (9, .int (iZ k_))]) hx hb d_Mo_run_162 hl (by decide) rfl (fun ls hl => ?_)
                        refine lv_iinc (v := iZ (k_ + 1)) (lv' := [(9, .int (iZ (k_ + 1))), (8, .int (iZ v8_162)), (7, .int (iZ (rn + 1))), (10, .int (bI (pic (x + (k_ * 1)) (y + (k_ * 0))))), (0, .ref hm), (1, .int (iZ x)), (2, .int (iZ y)), (3, .int (iZ i)), (5, .int (iZ 1)), (6, .int (iZ 0))]) hx hb d_Mo_run_164 hl (k := 9) rfl (iZ_add _ _) (by decide) rfl (fun ls hl => ?_)
                        refine lv_goto (tgt := 72) hx hb d_Mo_run_167 (by decide) ?_
                        exact ih_72 (k_ + 1) (rn + 1) v8_162 (k + 1) (by omega) (by omega) (by first | exact rk_0 (q := (fun k => pic (x + k * 1) (y + k * 0))) i3 (by omega) | exact rk_eq (q := (fun k => pic (x + k * 1) (y + k * 0))) i3 (by omega) (by rw [← i1]; exact bI_inj.mp c_142) | exact rk_ne (q := (fun k => pic (x + k * 1) (y + k * 0))) i3 (by omega) (by rw [← i1]; exact fun z9 => c_142 (congrArg bI z9))) (by rw [e_v8_162]; first | exact rc_y (q := (fun k => pic (x + k * 1) (y + k * 0))) (by first | exact rk_0 (q := (fun k => pic (x + k * 1) (y + k * 0))) i3 (by omega) | exact rk_eq (q := (fun k => pic (x + k * 1) (y + k * 0))) i3 (by omega) (by rw [← i1]; exact bI_inj.mp c_142) | exact rk_ne (q := (fun k => pic (x + k * 1) (y + k * 0))) i3 (by omega) (by rw [← i1]; exact fun z9 => c_142 (congrArg bI z9))) (by omega) i4 | exact rc_n (q := (fun k => pic (x + k * 1) (y + k * 0))) (by first | exact rk_0 (q := (fun k => pic (x + k * 1) (y + k * 0))) i3 (by omega) | exact rk_eq (q := (fun k => pic (x + k * 1) (y + k * 0))) i3 (by omega) (by rw [← i1]; exact bI_inj.mp c_142) | exact rk_ne (q := (fun k => pic (x + k * 1) (y + k * 0))) i3 (by omega) (by rw [← i1]; exact fun z9 => c_142 (congrArg bI z9))) (by omega) i4) (by omega) (by omega) _ _ hP hD hS ls (lv_sub hl [4, 5, 6, 7, 8, 9, 2, 1, 0] rfl)
            exact LP_72 _ 0 0 0 0 (rfl) (by omega) (rfl) (rfl) (by omega) (Nat.lt_succ_self _) _ _ hP hD hS ls (lv_sub hl [5, 6, 7, 8, 4, 3, 2, 1, 0] rfl)
          · exact absurd (c_41.symm.trans c_53) (by decide)
        · refine lv_iconst (v := iZ (0)) hx hb d_Mo_run_44 rfl ?_
          refine lv_goto (tgt := 49) hx hb d_Mo_run_45 (by decide) ?_
          refine lv_istore (lv' := [(5, .int (iZ 0)), (0, .ref hm), (1, .int (iZ x)), (2, .int (iZ y)), (3, .int (iZ i)), (4, .int (bI dw))]) hx hb d_Mo_run_49 hl (by decide) rfl (fun ls hl => ?_)
          refine lv_iload hx hb d_Mo_run_51 (lv_at hl 5 rfl) ?_
          refine zb_if_eq (tgt := 60) hx hb d_Mo_run_53 (by decide) (fun c_53 => ?_) (fun c_53 => ?_)
          · exact absurd (c_41.symm.trans c_53) (by decide)
          · refine lv_iconst (v := iZ (1)) hx hb d_Mo_run_56 rfl ?_
            refine lv_goto (tgt := 61) hx hb d_Mo_run_57 (by decide) ?_
            refine lv_istore (lv' := [(6, .int (iZ 1)), (5, .int (iZ 0)), (0, .ref hm), (1, .int (iZ x)), (2, .int (iZ y)), (3, .int (iZ i)), (4, .int (bI dw))]) hx hb d_Mo_run_61 hl (by decide) rfl (fun ls hl => ?_)
            refine lv_iconst (v := iZ (0)) hx hb d_Mo_run_63 rfl ?_
            refine lv_istore (lv' := [(7, .int (iZ 0)), (6, .int (iZ 1)), (5, .int (iZ 0)), (0, .ref hm), (1, .int (iZ x)), (2, .int (iZ y)), (3, .int (iZ i)), (4, .int (bI dw))]) hx hb d_Mo_run_64 hl (by decide) rfl (fun ls hl => ?_)
            refine lv_iconst (v := iZ (0)) hx hb d_Mo_run_66 rfl ?_
            refine lv_istore (lv' := [(8, .int (iZ 0)), (7, .int (iZ 0)), (6, .int (iZ 1)), (5, .int (iZ 0)), (0, .ref hm), (1, .int (iZ x)), (2, .int (iZ y)), (3, .int (iZ i)), (4, .int (bI dw))]) hx hb d_Mo_run_67 hl (by decide) rfl (fun ls hl => ?_)
            refine lv_iconst (v := iZ (0)) hx hb d_Mo_run_69 rfl ?_
            refine lv_istore (lv' := [(9, .int (iZ 0)), (8, .int (iZ 0)), (7, .int (iZ 0)), (6, .int (iZ 1)), (5, .int (iZ 0)), (0, .ref hm), (1, .int (iZ x)), (2, .int (iZ y)), (3, .int (iZ i)), (4, .int (bI dw))]) hx hb d_Mo_run_70 hl (by decide) rfl (fun ls hl => ?_)
            have LP_72 : ∀ (n_72 : Nat) (k_ : Int) (rn : Int) (nn : Int) (k : Nat), (k_ = k) → (k_ ≤ h - y) → (rn = riN (fun k => pic (x + k * 0) (y + k * 1)) (k - 1)) → (nn = rcN (fun k => pic (x + k * 0) (y + k * 1)) i k) → (0 ≤ rn ∧ rn ≤ k_ ∧ 0 ≤ nn ∧ nn ≤ k_) → (h - y - k_).toNat < n_72 → ∀ (H : Heap) (locs : List Loc), va_P (dC, dI) vwCl [(hm, .inr (6, [.int (iZ 0), .int (iZ w), .int (iZ h), .int (iZ mn), .ref zd, .ref zb, .ref zt, .int (iZ n), .ref zs, .ref zc, .int (iZ fx), .int (iZ fy), .int (iZ fa), .int (iZ fb), .int (iZ fc), .int (iZ qr), .int (iZ fo), .ref zo])), (zd, .inl (cI, 32768, .inl (aI Dk)))] H → va_D A [(hm, .inr (6, [.int (iZ 0), .int (iZ w), .int (iZ h), .int (iZ mn), .ref zd, .ref zb, .ref zt, .int (iZ n), .ref zs, .ref zc, .int (iZ fx), .int (iZ fy), .int (iZ fa), .int (iZ fb), .int (iZ fc), .int (iZ qr), .int (iZ fo), .ref zo])), (zd, .inl (cI, 32768, .inl (aI Dk)))] → va_S A s.heap H locs → ∀ (ls : Array Slot), lv_has ls 11 [(0, .ref hm), (1, .int (iZ x)), (2, .int (iZ y)), (3, .int (iZ i)), (5, .int (iZ 0)), (6, .int (iZ 1)), (7, .int (iZ rn)), (8, .int (iZ nn)), (9, .int (iZ k_))] → W p l e ({ frames := 2, cells := 0, slots := 0, locals := 44 } : Room) s m ([.ref hm, .int (iZ x), .int (iZ y), .int (iZ i), .int (bI dw)] : List Value).toArray below meth c H locs 0 0 (MQ below (va_Qi (fun (r : Int32) (u : Int) => ∃ z : Int, r = iZ z ∧ (((-4096 ≤ x ∧ x ≤ 4096 ∧ -4096 ≤ y ∧ y ≤ 4096) ∧ onB w h x y = true ∧ u = 0 ∧ z = (if dw then runS (fun k => pic (x + k * 0) (y + k * 1)) (h - y) i else runS (fun k => pic (x + k * 1) (y + k * 0)) (w - x) i)) ∨ (¬ (-4096 ≤ x ∧ x ≤ 4096 ∧ -4096 ≤ y ∧ y ≤ 4096) ∧ u = 1) ∨ ((-4096 ≤ x ∧ x ≤ 4096 ∧ -4096 ≤ y ∧ y ≤ 4096) ∧ onB w h x y = false ∧ u = 2))) (fun u => zB (dC, dI) vwCl [(cI, .int)] A [(hm, .inr (6, [.int (iZ u), .int (iZ w), .int (iZ h), .int (iZ mn), .ref zd, .ref zb, .ref zt, .int (iZ n), .ref zs, .ref zc, .int (iZ fx), .int (iZ fy), .int (iZ fa), .int (iZ fb), .int (iZ fc), .int (iZ qr), .int (iZ fo), .ref zo])), (zd, .inl (cI, 32768, .inl (aI Dk)))]) A) ([.ref hm, .int (iZ x), .int (iZ y), .int (iZ i), .int (bI dw)] : List Value).toArray s 0 0 A) (F0 m 72 ls []) := by
              intro n_72
              induction n_72 with
              | zero => intro k_ rn nn k i1 i2 i3 i4 i5 hm; exact absurd hm (by omega)
              | succ n_72 ih_72 =>
                intro k_ rn nn k i1 i2 i3 i4 i5 hm_72 H locs hP hD hS ls hl
                refine lv_aload_n hx hb d_Mo_run_72 rfl (lv_at hl 0 rfl) ?_
                refine lv_iload_n hx hb d_Mo_run_73 rfl (lv_at hl 1 rfl) ?_
                refine lv_iload hx hb d_Mo_run_74 (lv_at hl 8 rfl) ?_
                refine lv_iload hx hb d_Mo_run_76 (lv_at hl 4 rfl) ?_
                refine zi_mul hx hb d_Mo_run_78 ?_
                refine zi_add hx hb d_Mo_run_79 ?_
                refine lv_iload_n hx hb d_Mo_run_80 rfl (lv_at hl 2 rfl) ?_
                refine lv_iload hx hb d_Mo_run_81 (lv_at hl 8 rfl) ?_
                refine lv_iload hx hb d_Mo_run_83 (lv_at hl 5 rfl) ?_
                refine zi_mul hx hb d_Mo_run_85 ?_
                refine zi_add hx hb d_Mo_run_86 ?_
                refine vp_callSi (va_runV (As := [.int (iZ (x + (k_ * 0))), .int (iZ (y + (k_ * 1)))]) (rest := []) ⟨hx, hb, hml, hown, hts⟩ (c_Model_isOn l dC dI hm zd zb zt zs zc zo 0 w h mn n fx fy fa fb fc qr fo (x + (k_ * 0)) (y + (k_ * 1)) (by first | omega | assumption) (by first | omega | assumption) (by first | omega | assumption) (by first | omega | assumption) (by first | omega | assumption) (by first | omega | assumption) (by first | omega | assumption) (by first | omega | assumption)) (cwV 2 hts (gV t_831 t_833 s_28 t_6 t_834) rfl rfl rfl (by decide +kernel) ⟨Nat.le_of_ble_eq_true rfl, Nat.le_of_ble_eq_true rfl⟩) ⟨zPr_blind, va_recv hK hP (ci := 6) (q0 := 0) rfl rfl, zPr_pre hP hK [0] [] rfl rfl⟩ rfl rfl hl.1 rfl (lv_room (Nat.le_of_ble_eq_true rfl)) d_Mo_run_87 ⟨Nat.le_of_ble_eq_true rfl, Nat.le_of_ble_eq_true rfl⟩).run (fun r_87 q_87 => ?_)
                obtain rfl := q_87
                refine zb_if_eq (tgt := 170) hx hb d_Mo_run_90 (by decide) (fun c_90 => ?_) (fun c_90 => ?_)
                · have c_90 := of_decide_eq_false c_90
                  refine lv_iload hx hb d_Mo_run_170 (lv_at hl 7 rfl) ?_
                  refine zi_if_ne (tgt := 179) hx hb d_Mo_run_172 (by decide) (by omega) (by omega) (fun c_172 => ?_) (fun c_172 => ?_)
                  · refine lv_iload hx hb d_Mo_run_179 (lv_at hl 7 rfl) ?_
                    exact W.iret hx hb hr (fun t ht hW => ⟨⟨_, 0, rfl, ⟨_, rfl, Or.inl ⟨by omega, decide_eq_true (by omega), rfl, by rw [if_pos c_41]; unfold runS; rw [show (h - y).toNat = k by omega, ← i4, if_neg c_172]⟩⟩, by rw [ht]; exact hP, va_K.moved hW.alike hK, hD⟩, hS.F ht⟩) hS.2.2 d_Mo_run_181
                  · refine lv_iconst (v := iZ (-1)) hx hb d_Mo_run_175 rfl ?_
                    refine lv_goto (tgt := 181) hx hb d_Mo_run_176 (by decide) ?_
                    exact W.iret hx hb hr (fun t ht hW => ⟨⟨_, 0, rfl, ⟨_, rfl, Or.inl ⟨by omega, decide_eq_true (by omega), rfl, by rw [if_pos c_41]; unfold runS; rw [show (h - y).toNat = k by omega, ← i4, if_pos c_172]⟩⟩, by rw [ht]; exact hP, va_K.moved hW.alike hK, hD⟩, hS.F ht⟩) hS.2.2 d_Mo_run_181
                · have c_90 := of_decide_eq_true c_90
                  refine lv_aload_n hx hb d_Mo_run_93 rfl (lv_at hl 0 rfl) ?_
                  refine lv_iload_n hx hb d_Mo_run_94 rfl (lv_at hl 1 rfl) ?_
                  refine lv_iload hx hb d_Mo_run_95 (lv_at hl 8 rfl) ?_
                  refine lv_iload hx hb d_Mo_run_97 (lv_at hl 4 rfl) ?_
                  refine zi_mul hx hb d_Mo_run_99 ?_
                  refine zi_add hx hb d_Mo_run_100 ?_
                  refine lv_iload_n hx hb d_Mo_run_101 rfl (lv_at hl 2 rfl) ?_
                  refine lv_iload hx hb d_Mo_run_102 (lv_at hl 8 rfl) ?_
                  refine lv_iload hx hb d_Mo_run_104 (lv_at hl 5 rfl) ?_
                  refine zi_mul hx hb d_Mo_run_106 ?_
                  refine zi_add hx hb d_Mo_run_107 ?_
                  refine vp_callSi (va_runV (As := [.int (iZ (x + (k_ * 0))), .int (iZ (y + (k_ * 1)))]) (rest := []) ⟨hx, hb, hml, hown, hts⟩ (c_Model_isDark l dC dI hm zd zb zt zs zc zo 0 w h mn n fx fy fa fb fc qr fo cI Dk pic (x + (k_ * 0)) (y + (k_ * 1)) (by first | omega | assumption) (by first | omega | assumption) (by first | omega | assumption) (by first | omega | assumption) (by first | omega | assumption) (by first | omega | assumption) (by first | omega | assumption) (by first | omega | assumption) (by first | omega | assumption) (by first | omega | assumption)) (cwV 2 hts (gV t_827 t_829 s_27 t_6 t_830) rfl rfl rfl (by decide +kernel) ⟨Nat.le_of_ble_eq_true rfl, Nat.le_of_ble_eq_true rfl⟩) ⟨zPr_blind, va_recv hK hP (ci := 6) (q0 := 0) rfl rfl, zPr_pre hP hK [0, 1] [0] rfl rfl⟩ rfl rfl hl.1 rfl (lv_room (Nat.le_of_ble_eq_true rfl)) d_Mo_run_108 ⟨Nat.le_of_ble_eq_true rfl, Nat.le_of_ble_eq_true rfl⟩).run (fun r_108 q_108 => ?_)
                  obtain rfl := q_108
                  refine lv_istore (lv' := [(10, .int (bI (pic (x + (k_ * 0)) (y + (k_ * 1))))), (0, .ref hm), (1, .int (iZ x)), (2, .int (iZ y)), (3, .int (iZ i)), (5, .int (iZ 0)), (6, .int (iZ 1)), (7, .int (iZ rn)), (8, .int (iZ nn)), (9, .int (iZ k_))]) hx hb d_Mo_run_111 hl (by decide) rfl (fun ls hl => ?_)
                  refine lv_iload hx hb d_Mo_run_113 (lv_at hl 9 rfl) ?_
                  refine zi_if_le (tgt := 148) hx hb d_Mo_run_115 (by decide) (by omega) (by omega) (fun c_115 => ?_) (fun c_115 => ?_)
                  · refine lv_iload hx hb d_Mo_run_148 (lv_at hl 8 rfl) ?_
                    refine lv_iload hx hb d_Mo_run_150 (lv_at hl 7 rfl) ?_
                    refine lv_iload_n hx hb d_Mo_run_152 rfl (lv_at hl 4 rfl) ?_
                    refine zi_ne (tgt := 160) hx hb d_Mo_run_153 (by decide) (by omega) (by omega) (by omega) (by omega) (fun c_153 => ?_) (fun c_153 => ?_)
                    · refine lv_iconst (v := iZ (0)) hx hb d_Mo_run_160 rfl ?_
                      refine zi_add hx hb d_Mo_run_161 ?_
                      refine zn_z (fun v8_162 e_v8_162 => ?_)
                      refine lv_istore (lv' := [(8, .int (iZ v8_162)), (10, .int (bI (pic (x + (k_ * 0)) (y + (k_ * 1))))), (0, .ref hm), (1, .int (iZ x)), (2, .int (iZ y)), (3, .int (iZ i)), (5, .int (iZ 0)), (6, .int (iZ 1)), (7, .int (iZ rn)), (9, .int (iZ k_))]) hx hb d_Mo_run_162 hl (by decide) rfl (fun ls hl => ?_)
                      refine lv_iinc (v := iZ (k_ + 1)) (lv' := [(9, .int (iZ (k_ + 1))), (8, .int (iZ v8_162)), (10, .int (bI (pic (x + (k_ * 0)) (y + (k_ * 1))))), (0, .ref hm), (1, .int (iZ x)), (2, .int (iZ y)), (3, .int (iZ i)), (5, .int (iZ 0)), (6, .int (iZ 1)), (7, .int (iZ rn))]) hx hb d_Mo_run_164 hl (k := 9) rfl (iZ_add _ _) (by decide) rfl (fun ls hl => ?_)
                      refine lv_goto (tgt := 72) hx hb d_Mo_run_167 (by decide) ?_
                      exact ih_72 (k_ + 1) rn v8_162 (k + 1) (by omega) (by omega) (by first | exact rk_0 (q := (fun k => pic (x + k * 0) (y + k * 1))) i3 (by omega) | exact rk_eq (q := (fun k => pic (x + k * 0) (y + k * 1))) i3 (by omega) (by rw [← i1]; exact bI_inj.mp c_142) | exact rk_ne (q := (fun k => pic (x + k * 0) (y + k * 1))) i3 (by omega) (by rw [← i1]; exact fun z9 => c_142 (congrArg bI z9))) (by rw [e_v8_162]; first | exact rc_y (q := (fun k => pic (x + k * 0) (y + k * 1))) (by first | exact rk_0 (q := (fun k => pic (x + k * 0) (y + k * 1))) i3 (by omega) | exact rk_eq (q := (fun k => pic (x + k * 0) (y + k * 1))) i3 (by omega) (by rw [← i1]; exact bI_inj.mp c_142) | exact rk_ne (q := (fun k => pic (x + k * 0) (y + k * 1))) i3 (by omega) (by rw [← i1]; exact fun z9 => c_142 (congrArg bI z9))) (by omega) i4 | exact rc_n (q := (fun k => pic (x + k * 0) (y + k * 1))) (by first | exact rk_0 (q := (fun k => pic (x + k * 0) (y + k * 1))) i3 (by omega) | exact rk_eq (q := (fun k => pic (x + k * 0) (y + k * 1))) i3 (by omega) (by rw [← i1]; exact bI_inj.mp c_142) | exact rk_ne (q := (fun k => pic (x + k * 0) (y + k * 1))) i3 (by omega) (by rw [← i1]; exact fun z9 => c_142 (congrArg bI z9))) (by omega) i4) (by omega) (by omega) _ _ hP hD hS ls (lv_sub hl [3, 4, 5, 6, 7, 8, 9, 1, 0] rfl)
                    · refine lv_iconst (v := iZ (1)) hx hb d_Mo_run_156 rfl ?_
                      refine lv_goto (tgt := 161) hx hb d_Mo_run_157 (by decide) ?_
                      refine zi_add hx hb d_Mo_run_161 ?_
                      refine zn_z (fun v8_162 e_v8_162 => ?_)
                      refine lv_istore (lv' := [(8, .int (iZ v8_162)), (10, .int (bI (pic (x + (k_ * 0)) (y + (k_ * 1))))), (0, .ref hm), (1, .int (iZ x)), (2, .int (iZ y)), (3, .int (iZ i)), (5, .int (iZ 0)), (6, .int (iZ 1)), (7, .int (iZ rn)), (9, .int (iZ k_))]) hx hb d_Mo_run_162 hl (by decide) rfl (fun ls hl => ?_)
                      refine lv_iinc (v := iZ (k_ + 1)) (lv' := [(9, .int (iZ (k_ + 1))), (8, .int (iZ v8_162)), (10, .int (bI (pic (x + (k_ * 0)) (y + (k_ * 1))))), (0, .ref hm), (1, .int (iZ x)), (2, .int (iZ y)), (3, .int (iZ i)), (5, .int (iZ 0)), (6, .int (iZ 1)), (7, .int (iZ rn))]) hx hb d_Mo_run_164 hl (k := 9) rfl (iZ_add _ _) (by decide) rfl (fun ls hl => ?_)
                      refine lv_goto (tgt := 72) hx hb d_Mo_run_167 (by decide) ?_
                      exact ih_72 (k_ + 1) rn v8_162 (k + 1) (by omega) (by omega) (by first | exact rk_0 (q := (fun k => pic (x + k * 0) (y + k * 1))) i3 (by omega) | exact rk_eq (q := (fun k => pic (x + k * 0) (y + k * 1))) i3 (by omega) (by rw [← i1]; exact bI_inj.mp c_142) | exact rk_ne (q := (fun k => pic (x + k * 0) (y + k * 1))) i3 (by omega) (by rw [← i1]; exact fun z9 => c_142 (congrArg bI z9))) (by rw [e_v8_162]; first | exact rc_y (q := (fun k => pic (x + k * 0) (y + k * 1))) (by first | exact rk_0 (q := (fun k => pic (x + k * 0) (y + k * 1))) i3 (by omega) | exact rk_eq (q := (fun k => pic (x + k * 0) (y + k * 1))) i3 (by omega) (by rw [← i1]; exact bI_inj.mp c_142) | exact rk_ne (q := (fun k => pic (x + k * 0) (y + k * 1))) i3 (by omega) (by rw [← i1]; exact fun z9 => c_142 (congrArg bI z9))) (by omega) i4 | exact rc_n (q := (fun k => pic (x + k * 0) (y + k * 1))) (by first | exact rk_0 (q := (fun k => pic (x + k * 0) (y + k * 1))) i3 (by omega) | exact rk_eq (q := (fun k => pic (x + k * 0) (y + k * 1))) i3 (by omega) (by rw [← i1]; exact bI_inj.mp c_142) | exact rk_ne (q := (fun k => pic (x + k * 0) (y + k * 1))) i3 (by omega) (by rw [← i1]; exact fun z9 => c_142 (congrArg bI z9))) (by omega) i4) (by omega) (by omega) _ _ hP hD hS ls (lv_sub hl [3, 4, 5, 6, 7, 8, 9, 1, 0] rfl)
                  · refine lv_iload hx hb d_Mo_run_118 (lv_at hl 0 rfl) ?_
                    refine lv_aload_n hx hb d_Mo_run_120 rfl (lv_at hl 1 rfl) ?_
                    refine lv_iload_n hx hb d_Mo_run_121 rfl (lv_at hl 2 rfl) ?_
                    refine lv_iload hx hb d_Mo_run_122 (lv_at hl 9 rfl) ?_
                    refine lv_iconst (v := iZ (1)) hx hb d_Mo_run_124 rfl ?_
                    refine zi_sub hx hb d_Mo_run_125 ?_
                    refine lv_iload hx hb d_Mo_run_126 (lv_at hl 5 rfl) ?_
                    refine zi_mul hx hb d_Mo_run_128 ?_
                    refine zi_add hx hb d_Mo_run_129 ?_
                    refine lv_iload_n hx hb d_Mo_run_130 rfl (lv_at hl 3 rfl) ?_
                    refine lv_iload hx hb d_Mo_run_131 (lv_at hl 9 rfl) ?_
                    refine lv_iconst (v := iZ (1)) hx hb d_Mo_run_133 rfl ?_
                    refine zi_sub hx hb d_Mo_run_134 ?_
                    refine lv_iload hx hb d_Mo_run_135 (lv_at hl 6 rfl) ?_
                    refine zi_mul hx hb d_Mo_run_137 ?_
                    refine zi_add hx hb d_Mo_run_138 ?_
                    refine vp_callSi (va_runV (As := [.int (iZ (x + ((k_ - 1) * 0))), .int (iZ (y + ((k_ - 1) * 1)))]) (rest := [.int (bI (pic (x + (k_ * 0)) (y + (k_ * 1))))]) ⟨hx, hb, hml, hown, hts⟩ (c_Model_isDark l dC dI hm zd zb zt zs zc zo 0 w h mn n fx fy fa fb fc qr fo cI Dk pic (x + ((k_ - 1) * 0)) (y + ((k_ - 1) * 1)) (by first | omega | assumption) (by first | omega | assumption) (by first | omega | assumption) (by first | omega | assumption) (by first | omega | assumption) (by first | omega | assumption) (by first | omega | assumption) (by first | omega | assumption) (by first | omega | assumption) (by first | omega | assumption)) (cwV 2 hts (gV t_827 t_829 s_27 t_6 t_830) rfl rfl rfl (by decide +kernel) ⟨Nat.le_of_ble_eq_true rfl, Nat.le_of_ble_eq_true rfl⟩) ⟨zPr_blind, va_recv hK hP (ci := 6) (q0 := 0) rfl rfl, zPr_pre hP hK [0, 1] [0] rfl rfl⟩ rfl rfl hl.1 rfl (lv_room (Nat.le_of_ble_eq_true rfl)) d_Mo_run_139 ⟨Nat.le_of_ble_eq_true rfl, Nat.le_of_ble_eq_true rfl⟩).run (fun r_139 q_139 => ?_)
                    obtain rfl := q_139
                    refine lv_icmp_eq (tgt := 148) hx hb d_Mo_run_142 (by decide) (fun c_142 => ?_) (fun c_142 => ?_)
                    · refine lv_iload hx hb d_Mo_run_148 (lv_at hl 8 rfl) ?_
                      refine lv_iload hx hb d_Mo_run_150 (lv_at hl 7 rfl) ?_
                      refine lv_iload_n hx hb d_Mo_run_152 rfl (lv_at hl 4 rfl) ?_
                      refine zi_ne (tgt := 160) hx hb d_Mo_run_153 (by decide) (by omega) (by omega) (by omega) (by omega) (fun c_153 => ?_) (fun c_153 => ?_)
                      · refine lv_iconst (v := iZ (0)) hx hb d_Mo_run_160 rfl ?_
                        refine zi_add hx hb d_Mo_run_161 ?_
                        refine zn_z (fun v8_162 e_v8_162 => ?_)
                        refine lv_istore (lv' := [(8, .int (iZ v8_162)), (10, .int (bI (pic (x + (k_ * 0)) (y + (k_ * 1))))), (0, .ref hm), (1, .int (iZ x)), (2, .int (iZ y)), (3, .int (iZ i)), (5, .int (iZ 0)), (6, .int (iZ 1)), (7, .int (iZ rn)), (9, .int (iZ k_))]) hx hb d_Mo_run_162 hl (by decide) rfl (fun ls hl => ?_)
                        refine lv_iinc (v := iZ (k_ + 1)) (lv' := [(9, .int (iZ (k_ + 1))), (8, .int (iZ v8_162)), (10, .int (bI (pic (x + (k_ * 0)) (y + (k_ * 1))))), (0, .ref hm), (1, .int (iZ x)), (2, .int (iZ y)), (3, .int (iZ i)), (5, .int (iZ 0)), (6, .int (iZ 1)), (7, .int (iZ rn))]) hx hb d_Mo_run_164 hl (k := 9) rfl (iZ_add _ _) (by decide) rfl (fun ls hl => ?_)
                        refine lv_goto (tgt := 72) hx hb d_Mo_run_167 (by decide) ?_
                        exact ih_72 (k_ + 1) rn v8_162 (k + 1) (by omega) (by omega) (by first | exact rk_0 (q := (fun k => pic (x + k * 0) (y + k * 1))) i3 (by omega) | exact rk_eq (q := (fun k => pic (x + k * 0) (y + k * 1))) i3 (by omega) (by rw [← i1]; exact bI_inj.mp c_142) | exact rk_ne (q := (fun k => pic (x + k * 0) (y + k * 1))) i3 (by omega) (by rw [← i1]; exact fun z9 => c_142 (congrArg bI z9))) (by rw [e_v8_162]; first | exact rc_y (q := (fun k => pic (x + k * 0) (y + k * 1))) (by first | exact rk_0 (q := (fun k => pic (x + k * 0) (y + k * 1))) i3 (by omega) | exact rk_eq (q := (fun k => pic (x + k * 0) (y + k * 1))) i3 (by omega) (by rw [← i1]; exact bI_inj.mp c_142) | exact rk_ne (q := (fun k => pic (x + k * 0) (y + k * 1))) i3 (by omega) (by rw [← i1]; exact fun z9 => c_142 (congrArg bI z9))) (by omega) i4 | exact rc_n (q := (fun k => pic (x + k * 0) (y + k * 1))) (by first | exact rk_0 (q := (fun k => pic (x + k * 0) (y + k * 1))) i3 (by omega) | exact rk_eq (q := (fun k => pic (x + k * 0) (y + k * 1))) i3 (by omega) (by rw [← i1]; exact bI_inj.mp c_142) | exact rk_ne (q := (fun k => pic (x + k * 0) (y + k * 1))) i3 (by omega) (by rw [← i1]; exact fun z9 => c_142 (congrArg bI z9))) (by omega) i4) (by omega) (by omega) _ _ hP hD hS ls (lv_sub hl [3, 4, 5, 6, 7, 8, 9, 1, 0] rfl)
                      · refine lv_iconst (v := iZ (1)) hx hb d_Mo_run_156 rfl ?_
                        refine lv_goto (tgt := 161) hx hb d_Mo_run_157 (by decide) ?_
                        refine zi_add hx hb d_Mo_run_161 ?_
                        refine zn_z (fun v8_162 e_v8_162 => ?_)
                        refine lv_istore (lv' := [(8, .int (iZ v8_162)), (10, .int (bI (pic (x + (k_ * 0)) (y + (k_ * 1))))), (0, .ref hm), (1, .int (iZ x)), (2, .int (iZ y)), (3, .int (iZ i)), (5, .int (iZ 0)), (6, .int (iZ 1)), (7, .int (iZ rn)), (9, .int (iZ k_))]) hx hb d_Mo_run_162 hl (by decide) rfl (fun ls hl => ?_)
                        refine lv_iinc (v := iZ (k_ + 1)) (lv' := [(9, .int (iZ (k_ + 1))), (8, .int (iZ v8_162)), (10, .int (bI (pic (x + (k_ * 0)) (y + (k_ * 1))))), (0, .ref hm), (1, .int (iZ x)), (2, .int (iZ y)), (3, .int (iZ i)), (5, .int (iZ 0)), (6, .int (iZ 1)), (7, .int (iZ rn))]) hx hb d_Mo_run_164 hl (k := 9) rfl (iZ_add _ _) (by decide) rfl (fun ls hl => ?_)
                        refine lv_goto (tgt := 72) hx hb d_Mo_run_167 (by decide) ?_
                        exact ih_72 (k_ + 1) rn v8_162 (k + 1) (by omega) (by omega) (by first | exact rk_0 (q := (fun k => pic (x + k * 0) (y + k * 1))) i3 (by omega) | exact rk_eq (q := (fun k => pic (x + k * 0) (y + k * 1))) i3 (by omega) (by rw [← i1]; exact bI_inj.mp c_142) | exact rk_ne (q := (fun k => pic (x + k * 0) (y + k * 1))) i3 (by omega) (by rw [← i1]; exact fun z9 => c_142 (congrArg bI z9))) (by rw [e_v8_162]; first | exact rc_y (q := (fun k => pic (x + k * 0) (y + k * 1))) (by first | exact rk_0 (q := (fun k => pic (x + k * 0) (y + k * 1))) i3 (by omega) | exact rk_eq (q := (fun k => pic (x + k * 0) (y + k * 1))) i3 (by omega) (by rw [← i1]; exact bI_inj.mp c_142) | exact rk_ne (q := (fun k => pic (x + k * 0) (y + k * 1))) i3 (by omega) (by rw [← i1]; exact fun z9 => c_142 (congrArg bI z9))) (by omega) i4 | exact rc_n (q := (fun k => pic (x + k * 0) (y + k * 1))) (by first | exact rk_0 (q := (fun k => pic (x + k * 0) (y + k * 1))) i3 (by omega) | exact rk_eq (q := (fun k => pic (x + k * 0) (y + k * 1))) i3 (by omega) (by rw [← i1]; exact bI_inj.mp c_142) | exact rk_ne (q := (fun k => pic (x + k * 0) (y + k * 1))) i3 (by omega) (by rw [← i1]; exact fun z9 => c_142 (congrArg bI z9))) (by omega) i4) (by omega) (by omega) _ _ hP hD hS ls (lv_sub hl [3, 4, 5, 6, 7, 8, 9, 1, 0] rfl)
                    · refine lv_iinc (v := iZ (rn + 1)) (lv' := [(7, .int (iZ (rn + 1))), (10, .int (bI (pic (x + (k_ * 0)) (y + (k_ * 1))))), (0, .ref hm), (1, .int (iZ x)), (2, .int (iZ y)), (3, .int (iZ i)), (5, .int (iZ 0)), (6, .int (iZ 1)), (8, .int (iZ nn)), (9, .int (iZ k_))]) hx hb d_Mo_run_145 hl (k := 7) rfl (iZ_add _ _) (by decide) rfl (fun ls hl => ?_)
                      refine lv_iload hx hb d_Mo_run_148 (lv_at hl 8 rfl) ?_
                      refine lv_iload hx hb d_Mo_run_150 (lv_at hl 0 rfl) ?_
                      refine lv_iload_n hx hb d_Mo_run_152 rfl (lv_at hl 5 rfl) ?_
                      refine zi_ne (tgt := 160) hx hb d_Mo_run_153 (by decide) (by omega) (by omega) (by omega) (by omega) (fun c_153 => ?_) (fun c_153 => ?_)
                      · refine lv_iconst (v := iZ (0)) hx hb d_Mo_run_160 rfl ?_
                        refine zi_add hx hb d_Mo_run_161 ?_
                        refine zn_z (fun v8_162 e_v8_162 => ?_)
                        refine lv_istore (lv' := [(8, .int (iZ v8_162)), (7, .int (iZ (rn + 1))), (10, .int (bI (pic (x + (k_ * 0)) (y + (k_ * 1))))), (0, .ref hm), (1, .int (iZ x)), (2, .int (iZ y)), (3, .int (iZ i)), (5, .int (iZ 0)), (6, .int (iZ 1)), (9, .int (iZ k_))]) hx hb d_Mo_run_162 hl (by decide) rfl (fun ls hl => ?_)
                        refine lv_iinc (v := iZ (k_ + 1)) (lv' := [(9, .int (iZ (k_ + 1))), (8, .int (iZ v8_162)), (7, .int (iZ (rn + 1))), (10, .int (bI (pic (x + (k_ * 0)) (y + (k_ * 1))))), (0, .ref hm), (1, .int (iZ x)), (2, .int (iZ y)), (3, .int (iZ i)), (5, .int (iZ 0)), (6, .int (iZ 1))]) hx hb d_Mo_run_164 hl (k := 9) rfl (iZ_add _ _) (by decide) rfl (fun ls hl => ?_)
                        refine lv_goto (tgt := 72) hx hb d_Mo_run_167 (by decide) ?_
                        exact ih_72 (k_ + 1) (rn + 1) v8_162 (k + 1) (by omega) (by omega) (by first | exact rk_0 (q := (fun k => pic (x + k * 0) (y + k * 1))) i3 (by omega) | exact rk_eq (q := (fun k => pic (x + k * 0) (y + k * 1))) i3 (by omega) (by rw [← i1]; exact bI_inj.mp c_142) | exact rk_ne (q := (fun k => pic (x + k * 0) (y + k * 1))) i3 (by omega) (by rw [← i1]; exact fun z9 => c_142 (congrArg bI z9))) (by rw [e_v8_162]; first | exact rc_y (q := (fun k => pic (x + k * 0) (y + k * 1))) (by first | exact rk_0 (q := (fun k => pic (x + k * 0) (y + k * 1))) i3 (by omega) | exact rk_eq (q := (fun k => pic (x + k * 0) (y + k * 1))) i3 (by omega) (by rw [← i1]; exact bI_inj.mp c_142) | exact rk_ne (q := (fun k => pic (x + k * 0) (y + k * 1))) i3 (by omega) (by rw [← i1]; exact fun z9 => c_142 (congrArg bI z9))) (by omega) i4 | exact rc_n (q := (fun k => pic (x + k * 0) (y + k * 1))) (by first | exact rk_0 (q := (fun k => pic (x + k * 0) (y + k * 1))) i3 (by omega) | exact rk_eq (q := (fun k => pic (x + k * 0) (y + k * 1))) i3 (by omega) (by rw [← i1]; exact bI_inj.mp c_142) | exact rk_ne (q := (fun k => pic (x + k * 0) (y + k * 1))) i3 (by omega) (by rw [← i1]; exact fun z9 => c_142 (congrArg bI z9))) (by omega) i4) (by omega) (by omega) _ _ hP hD hS ls (lv_sub hl [4, 5, 6, 7, 8, 9, 2, 1, 0] rfl)
                      · refine lv_iconst (v := iZ (1)) hx hb d_Mo_run_156 rfl ?_
                        refine lv_goto (tgt := 161) hx hb d_Mo_run_157 (by decide) ?_
                        refine zi_add hx hb d_Mo_run_161 ?_
                        refine zn_z (fun v8_162 e_v8_162 => ?_)
                        refine lv_istore (lv' := [(8, .int (iZ v8_162)), (7, .int (iZ (rn + 1))), (10, .int (bI (pic (x + (k_ * 0)) (y + (k_ * 1))))), (0, .ref hm), (1, .int (iZ x)), (2, .int (iZ y)), (3, .int (iZ i)), (5, .int (iZ 0)), (6, .int (iZ 1)), (9, .int (iZ k_))]) hx hb d_Mo_run_162 hl (by decide) rfl (fun ls hl => ?_)
                        refine lv_iinc (v := iZ (k_ + 1)) (lv' := [(9, .int (iZ (k_ + 1))), (8, .int (iZ v8_162)), (7, .int (iZ (rn + 1))), (10, .int (bI (pic (x + (k_ * 0)) (y + (k_ * 1))))), (0, .ref hm), (1, .int (iZ x)), (2, .int (iZ y)), (3, .int (iZ i)), (5, .int (iZ 0)), (6, .int (iZ 1))]) hx hb d_Mo_run_164 hl (k := 9) rfl (iZ_add _ _) (by decide) rfl (fun ls hl => ?_)
                        refine lv_goto (tgt := 72) hx hb d_Mo_run_167 (by decide) ?_
                        exact ih_72 (k_ + 1) (rn + 1) v8_162 (k + 1) (by omega) (by omega) (by first | exact rk_0 (q := (fun k => pic (x + k * 0) (y + k * 1))) i3 (by omega) | exact rk_eq (q := (fun k => pic (x + k * 0) (y + k * 1))) i3 (by omega) (by rw [← i1]; exact bI_inj.mp c_142) | exact rk_ne (q := (fun k => pic (x + k * 0) (y + k * 1))) i3 (by omega) (by rw [← i1]; exact fun z9 => c_142 (congrArg bI z9))) (by rw [e_v8_162]; first | exact rc_y (q := (fun k => pic (x + k * 0) (y + k * 1))) (by first | exact rk_0 (q := (fun k => pic (x + k * 0) (y + k * 1))) i3 (by omega) | exact rk_eq (q := (fun k => pic (x + k * 0) (y + k * 1))) i3 (by omega) (by rw [← i1]; exact bI_inj.mp c_142) | exact rk_ne (q := (fun k => pic (x + k * 0) (y + k * 1))) i3 (by omega) (by rw [← i1]; exact fun z9 => c_142 (congrArg bI z9))) (by omega) i4 | exact rc_n (q := (fun k => pic (x + k * 0) (y + k * 1))) (by first | exact rk_0 (q := (fun k => pic (x + k * 0) (y + k * 1))) i3 (by omega) | exact rk_eq (q := (fun k => pic (x + k * 0) (y + k * 1))) i3 (by omega) (by rw [← i1]; exact bI_inj.mp c_142) | exact rk_ne (q := (fun k => pic (x + k * 0) (y + k * 1))) i3 (by omega) (by rw [← i1]; exact fun z9 => c_142 (congrArg bI z9))) (by omega) i4) (by omega) (by omega) _ _ hP hD hS ls (lv_sub hl [4, 5, 6, 7, 8, 9, 2, 1, 0] rfl)
            exact LP_72 _ 0 0 0 0 (rfl) (by omega) (rfl) (rfl) (by omega) (Nat.lt_succ_self _) _ _ hP hD hS ls (lv_sub hl [5, 6, 7, 8, 4, 3, 2, 1, 0] rfl)
      · exact absurd c_34 (by omega)
  · have c_6 := of_decide_eq_true c_6
    refine lv_iconst (v := iZ (1)) hx hb d_Mo_run_9 rfl ?_
    refine lv_goto (tgt := 27) hx hb d_Mo_run_10 (by decide) ?_
    refine va_put (D := (dC, dI)) (ci := 6) (v := .int (iZ 1)) (ty := .int) (C := R_Mo) (T := T_Mo) (N := 18) hx hb hts wi_Mo ty_Mo ty_Mo_ok nd_Mo hown hK hP hD hS 0 rfl rfl 0 (by decide) (hts _ t_684) (fun _ h9 => h9) rfl (by decide +kernel) rfl rfl (Nat.le_of_ble_eq_true rfl) d_Mo_run_27 (fun H locs hP hD hS => ?_)
    have hP : va_P (dC, dI) vwCl [(hm, .inr (6, [.int (iZ 1), .int (iZ w), .int (iZ h), .int (iZ mn), .ref zd, .ref zb, .ref zt, .int (iZ n), .ref zs, .ref zc, .int (iZ fx), .int (iZ fy), .int (iZ fa), .int (iZ fb), .int (iZ fc), .int (iZ qr), .int (iZ fo), .ref zo])), (zd, .inl (cI, 32768, .inl (aI Dk)))] H := hP
    have hD : va_D A [(hm, .inr (6, [.int (iZ 1), .int (iZ w), .int (iZ h), .int (iZ mn), .ref zd, .ref zb, .ref zt, .int (iZ n), .ref zs, .ref zc, .int (iZ fx), .int (iZ fy), .int (iZ fa), .int (iZ fb), .int (iZ fc), .int (iZ qr), .int (iZ fo), .ref zo])), (zd, .inl (cI, 32768, .inl (aI Dk)))] := hD
    refine lv_aload_n hx hb d_Mo_run_30 rfl (lv_at hl 0 rfl) ?_
    refine va_get (D := (dC, dI)) (ci := 6) (v := .int (iZ 1)) (C := R_Mo) (T := T_Mo) (N := 18) hx hb hts wi_Mo hown hK hP 0 rfl rfl 0 (by decide) (hts _ t_684) (fun _ h9 => h9) rfl d_Mo_run_31 ?_
    refine zi_if_le (tgt := 39) hx hb d_Mo_run_34 (by decide) (by omega) (by omega) (fun c_34 => ?_) (fun c_34 => ?_)
    · exact absurd c_34 (by omega)
    · refine lv_iconst (v := iZ (0)) hx hb d_Mo_run_37 rfl ?_
      exact W.iret hx hb hr (fun t ht hW => ⟨⟨_, 1, rfl, ⟨_, rfl, Or.inr (Or.inl ⟨by omega, rfl⟩)⟩, by rw [ht]; exact hP, va_K.moved hW.alike hK, hD⟩, hS.F ht⟩) hS.2.2 d_Mo_run_38
theorem d_Mo_init_0 : decode c_yMo_init 0 = .ok (.aload_n 0, 1) := by decide +kernel
theorem d_Mo_init_1 : decode c_yMo_init 1 = .ok (.invokespecial 1, 3) := by decide +kernel
theorem d_Mo_init_4 : decode c_yMo_init 4 = .ok (.aload_n 0, 1) := by decide +kernel
theorem d_Mo_init_5 : decode c_yMo_init 5 = .ok (.bipush 64, 2) := by decide +kernel
theorem d_Mo_init_7 : decode c_yMo_init 7 = .ok (.putfield 7, 3) := by decide +kernel
theorem d_Mo_init_10 : decode c_yMo_init 10 = .ok (.aload_n 0, 1) := by decide +kernel
theorem d_Mo_init_11 : decode c_yMo_init 11 = .ok (.bipush 64, 2) := by decide +kernel
theorem d_Mo_init_13 : decode c_yMo_init 13 = .ok (.putfield 13, 3) := by decide +kernel
theorem d_Mo_init_16 : decode c_yMo_init 16 = .ok (.aload_n 0, 1) := by decide +kernel
theorem d_Mo_init_17 : decode c_yMo_init 17 = .ok (.ldc 16, 2) := by decide +kernel
theorem d_Mo_init_19 : decode c_yMo_init 19 = .ok (.newarray .int, 2) := by decide +kernel
theorem d_Mo_init_21 : decode c_yMo_init 21 = .ok (.putfield 17, 3) := by decide +kernel
theorem d_Mo_init_24 : decode c_yMo_init 24 = .ok (.aload_n 0, 1) := by decide +kernel
theorem d_Mo_init_25 : decode c_yMo_init 25 = .ok (.ldc 16, 2) := by decide +kernel
theorem d_Mo_init_27 : decode c_yMo_init 27 = .ok (.newarray .int, 2) := by decide +kernel
theorem d_Mo_init_29 : decode c_yMo_init 29 = .ok (.putfield 21, 3) := by decide +kernel
theorem d_Mo_init_32 : decode c_yMo_init 32 = .ok (.aload_n 0, 1) := by decide +kernel
theorem d_Mo_init_33 : decode c_yMo_init 33 = .ok (.sipush 4096, 3) := by decide +kernel
theorem d_Mo_init_36 : decode c_yMo_init 36 = .ok (.newarray .int, 2) := by decide +kernel
theorem d_Mo_init_38 : decode c_yMo_init 38 = .ok (.putfield 24, 3) := by decide +kernel
theorem d_Mo_init_41 : decode c_yMo_init 41 = .ok (.aload_n 0, 1) := by decide +kernel
theorem d_Mo_init_42 : decode c_yMo_init 42 = .ok (.bipush 12, 2) := by decide +kernel
theorem d_Mo_init_44 : decode c_yMo_init 44 = .ok (.newarray .int, 2) := by decide +kernel
theorem d_Mo_init_46 : decode c_yMo_init 46 = .ok (.dup, 1) := by decide +kernel
theorem d_Mo_init_47 : decode c_yMo_init 47 = .ok (.iconst 0, 1) := by decide +kernel
theorem d_Mo_init_48 : decode c_yMo_init 48 = .ok (.bipush 8, 2) := by decide +kernel
theorem d_Mo_init_50 : decode c_yMo_init 50 = .ok (.iastore, 1) := by decide +kernel
theorem d_Mo_init_51 : decode c_yMo_init 51 = .ok (.dup, 1) := by decide +kernel
theorem d_Mo_init_52 : decode c_yMo_init 52 = .ok (.iconst 1, 1) := by decide +kernel
theorem d_Mo_init_53 : decode c_yMo_init 53 = .ok (.bipush 8, 2) := by decide +kernel
theorem d_Mo_init_55 : decode c_yMo_init 55 = .ok (.iastore, 1) := by decide +kernel
theorem d_Mo_init_56 : decode c_yMo_init 56 = .ok (.dup, 1) := by decide +kernel
theorem d_Mo_init_57 : decode c_yMo_init 57 = .ok (.iconst 2, 1) := by decide +kernel
theorem d_Mo_init_58 : decode c_yMo_init 58 = .ok (.iconst 0, 1) := by decide +kernel
theorem d_Mo_init_59 : decode c_yMo_init 59 = .ok (.iastore, 1) := by decide +kernel
theorem d_Mo_init_60 : decode c_yMo_init 60 = .ok (.dup, 1) := by decide +kernel
theorem d_Mo_init_61 : decode c_yMo_init 61 = .ok (.iconst 3, 1) := by decide +kernel
theorem d_Mo_init_62 : decode c_yMo_init 62 = .ok (.bipush 8, 2) := by decide +kernel
theorem d_Mo_init_64 : decode c_yMo_init 64 = .ok (.iastore, 1) := by decide +kernel
theorem d_Mo_init_65 : decode c_yMo_init 65 = .ok (.dup, 1) := by decide +kernel
theorem d_Mo_init_66 : decode c_yMo_init 66 = .ok (.iconst 4, 1) := by decide +kernel
theorem d_Mo_init_67 : decode c_yMo_init 67 = .ok (.bipush 8, 2) := by decide +kernel
theorem d_Mo_init_69 : decode c_yMo_init 69 = .ok (.iastore, 1) := by decide +kernel
theorem d_Mo_init_70 : decode c_yMo_init 70 = .ok (.dup, 1) := by decide +kernel
theorem d_Mo_init_71 : decode c_yMo_init 71 = .ok (.iconst 5, 1) := by decide +kernel
theorem d_Mo_init_72 : decode c_yMo_init 72 = .ok (.iconst 0, 1) := by decide +kernel
theorem d_Mo_init_73 : decode c_yMo_init 73 = .ok (.iastore, 1) := by decide +kernel
theorem d_Mo_init_74 : decode c_yMo_init 74 = .ok (.dup, 1) := by decide +kernel
theorem d_Mo_init_75 : decode c_yMo_init 75 = .ok (.bipush 6, 2) := by decide +kernel
theorem d_Mo_init_77 : decode c_yMo_init 77 = .ok (.bipush 8, 2) := by decide +kernel
theorem d_Mo_init_79 : decode c_yMo_init 79 = .ok (.iastore, 1) := by decide +kernel
theorem d_Mo_init_80 : decode c_yMo_init 80 = .ok (.dup, 1) := by decide +kernel
theorem d_Mo_init_81 : decode c_yMo_init 81 = .ok (.bipush 7, 2) := by decide +kernel
theorem d_Mo_init_83 : decode c_yMo_init 83 = .ok (.bipush 8, 2) := by decide +kernel
theorem d_Mo_init_85 : decode c_yMo_init 85 = .ok (.iastore, 1) := by decide +kernel
theorem d_Mo_init_86 : decode c_yMo_init 86 = .ok (.dup, 1) := by decide +kernel
theorem d_Mo_init_87 : decode c_yMo_init 87 = .ok (.bipush 8, 2) := by decide +kernel
theorem d_Mo_init_89 : decode c_yMo_init 89 = .ok (.iconst 0, 1) := by decide +kernel
theorem d_Mo_init_90 : decode c_yMo_init 90 = .ok (.iastore, 1) := by decide +kernel
theorem d_Mo_init_91 : decode c_yMo_init 91 = .ok (.dup, 1) := by decide +kernel
theorem d_Mo_init_92 : decode c_yMo_init 92 = .ok (.bipush 9, 2) := by decide +kernel
theorem d_Mo_init_94 : decode c_yMo_init 94 = .ok (.bipush 8, 2) := by decide +kernel
theorem d_Mo_init_96 : decode c_yMo_init 96 = .ok (.iastore, 1) := by decide +kernel
theorem d_Mo_init_97 : decode c_yMo_init 97 = .ok (.dup, 1) := by decide +kernel
theorem d_Mo_init_98 : decode c_yMo_init 98 = .ok (.bipush 10, 2) := by decide +kernel
theorem d_Mo_init_100 : decode c_yMo_init 100 = .ok (.bipush 8, 2) := by decide +kernel
theorem d_Mo_init_102 : decode c_yMo_init 102 = .ok (.iastore, 1) := by decide +kernel
theorem d_Mo_init_103 : decode c_yMo_init 103 = .ok (.dup, 1) := by decide +kernel
theorem d_Mo_init_104 : decode c_yMo_init 104 = .ok (.bipush 11, 2) := by decide +kernel
theorem d_Mo_init_106 : decode c_yMo_init 106 = .ok (.iconst 0, 1) := by decide +kernel
theorem d_Mo_init_107 : decode c_yMo_init 107 = .ok (.iastore, 1) := by decide +kernel
theorem d_Mo_init_108 : decode c_yMo_init 108 = .ok (.putfield 27, 3) := by decide +kernel
theorem d_Mo_init_111 : decode c_yMo_init 111 = .ok (.aload_n 0, 1) := by decide +kernel
theorem d_Mo_init_112 : decode c_yMo_init 112 = .ok (.ldc 16, 2) := by decide +kernel
theorem d_Mo_init_114 : decode c_yMo_init 114 = .ok (.newarray .int, 2) := by decide +kernel
theorem d_Mo_init_116 : decode c_yMo_init 116 = .ok (.putfield 30, 3) := by decide +kernel
theorem d_Mo_init_119 : decode c_yMo_init 119 = .ok (.aload_n 0, 1) := by decide +kernel
theorem d_Mo_init_120 : decode c_yMo_init 120 = .ok (.sipush 5200, 3) := by decide +kernel
theorem d_Mo_init_123 : decode c_yMo_init 123 = .ok (.newarray .boolean, 2) := by decide +kernel
theorem d_Mo_init_125 : decode c_yMo_init 125 = .ok (.putfield 33, 3) := by decide +kernel
theorem d_Mo_init_128 : decode c_yMo_init 128 = .ok (.return_, 1) := by decide +kernel
set_option maxHeartbeats 4000000 in
set_option maxRecDepth 100000 in
theorem c_Model_init (l : Launch) (dC : Nat → ClassId) (dI : Nat → Nat → Nat) (hm : Nat) (cI cZ : ClassId) (sz : Nat)  : Met l y_Mo_init w_Mo_init ({ frames := 1, cells := 6, slots := 107612, locals := 40 }) (va_Pc [.ref hm] (zPm (dC, dI) vwCl [(hm, .inr (6, [.int (iZ 0), .int (iZ 0), .int (iZ 0), .int (iZ 0), .null, .null, .null, .int (iZ 0), .null, .null, .int (iZ 0), .int (iZ 0), .int (iZ 0), .int (iZ 0), .int (iZ 0), .int (iZ 0), .int (iZ 0), .null]))] [(cI, .int), (cZ, .boolean)] sz)) (va_Qv (fun (u : (Nat → Nat) × (Int → Int32)) => ∀ f : Int, 0 ≤ f → f ≤ 3 → u.2 (3 * f) = iZ 8 ∧ u.2 (3 * f + 1) = iZ 8 ∧ u.2 (3 * f + 2) = iZ 0) (fun u => zB (dC, dI) vwCl [(cI, .int), (cZ, .boolean)] (va_A [(hm, .inr (6, [.int (iZ 0), .int (iZ 0), .int (iZ 0), .int (iZ 0), .null, .null, .null, .int (iZ 0), .null, .null, .int (iZ 0), .int (iZ 0), .int (iZ 0), .int (iZ 0), .int (iZ 0), .int (iZ 0), .int (iZ 0), .null]))] sz) [(hm, .inr (6, [.int (iZ 0), .int (iZ 64), .int (iZ 64), .int (iZ 0), .ref (u.1 0), .ref (u.1 1), .ref (u.1 2), .int (iZ 0), .ref (u.1 3), .ref (u.1 4), .int (iZ 0), .int (iZ 0), .int (iZ 0), .int (iZ 0), .int (iZ 0), .int (iZ 0), .int (iZ 0), .ref (u.1 5)])), ((u.1 0), .inl (cI, 32768, .inl (aI (fun _ => iZ 0)))), ((u.1 1), .inl (cI, 32768, .inl (aI (fun _ => iZ 0)))), ((u.1 2), .inl (cI, 4096, .inl (aI (fun _ => iZ 0)))), ((u.1 3), .inl (cI, 12, .inl (aI u.2))), ((u.1 4), .inl (cI, 32768, .inl (aI (fun _ => iZ 0)))), ((u.1 5), .inl (cZ, 5200, .inl (aI (fun _ => iZ 0))))]) (va_A [(hm, .inr (6, [.int (iZ 0), .int (iZ 0), .int (iZ 0), .int (iZ 0), .null, .null, .null, .int (iZ 0), .null, .null, .int (iZ 0), .int (iZ 0), .int (iZ 0), .int (iZ 0), .int (iZ 0), .int (iZ 0), .int (iZ 0), .null]))] sz)) 6 107612 (va_A [(hm, .inr (6, [.int (iZ 0), .int (iZ 0), .int (iZ 0), .int (iZ 0), .null, .null, .null, .int (iZ 0), .null, .null, .int (iZ 0), .int (iZ 0), .int (iZ 0), .int (iZ 0), .int (iZ 0), .int (iZ 0), .int (iZ 0), .null]))] sz) := by
  refine Met.ofW (cc := c_yMo_init) (maxL := 1) (ret := none) (by decide) rfl ?_
  intro p e s m args below meth c s₁ B hml hv
  obtain ⟨rfl, hsz, hP, hK, hD0⟩ := hv
  have hx := B.exec
  have hb := B.bytes
  have hr := B.returns
  have hts0 := atoms_spec (ws := w_Mo_init) B.pre
  have hts : ∀ w ∈ gT, w.before _ s = true := fun w h => hts0 w (List.mem_cons_of_mem _ h)
  have hown : s.vm.findClass R_Mo = some m.cls := findClass_of_methodNamed B.named
  have hlocks := B.notSynchronized
  have hin : meth.name = "<init>" := (name_of_methodNamed B.named B.method).1
  subst hsz
  have hD := hD0.self (sz := s.heap.size)
  generalize hAe : va_A [(hm, .inr (6, [.int (iZ 0), .int (iZ 0), .int (iZ 0), .int (iZ 0), .null, .null, .null, .int (iZ 0), .null, .null, .int (iZ 0), .int (iZ 0), .int (iZ 0), .int (iZ 0), .int (iZ 0), .int (iZ 0), .int (iZ 0), .null]))] s.heap.size = A at hD ⊢
  have hA : ∀ q : Nat, s.heap.size ≤ q → A q := fun q h => by rw [← hAe]; exact Or.inr h
  obtain ⟨H, hH⟩ : ∃ H, s.heap = H := ⟨_, rfl⟩
  have hS : va_S A s.heap H [] := by rw [← hH]; exact va_S.rf
  rw [hH] at hP
  rw [hH]
  have hl := lv_entry ([.ref hm]) (n := 1) (Nat.le_of_ble_eq_true rfl)
  rw [lg_entry_eq]
  generalize (lg_sl ([.ref hm]) ++ List.replicate (1 - (lg_sl ([.ref hm])).length) Slot.unset).toArray = ls at hl ⊢
  have hl : lv_has ls 1 [(0, .ref hm)] := hl
  refine lv_aload_n hx hb d_Mo_init_0 rfl (lv_at hl 0 rfl) ?_
  refine W.objInit hx hb hown (hts _ t_682) (hts _ t_25) (hts _ t_26) rfl (by rw [hml]; exact hl.1) rfl d_Mo_init_1 (Nat.le_of_ble_eq_true rfl) (Nat.le_of_ble_eq_true rfl) ?_
  refine W.eq (g2 := F0 m 4 ls []) rfl ?_
  refine lv_aload_n hx hb d_Mo_init_4 rfl (lv_at hl 0 rfl) ?_
  refine lv_bipush (v := iZ (64)) hx hb d_Mo_init_5 (by decide) ?_
  refine va_put (D := (dC, dI)) (ci := 6) (v := .int (iZ 64)) (ty := .int) (C := R_Mo) (T := T_Mo) (N := 18) hx hb hts wi_Mo ty_Mo ty_Mo_ok nd_Mo hown hK hP hD hS 0 rfl rfl 1 (by decide) (hts _ t_685) (fun _ h9 => h9) rfl (by decide +kernel) rfl rfl (Nat.le_of_ble_eq_true rfl) d_Mo_init_7 (fun H locs hP hD hS => ?_)
  have hP : va_P (dC, dI) vwCl [(hm, .inr (6, [.int (iZ 0), .int (iZ 64), .int (iZ 0), .int (iZ 0), .null, .null, .null, .int (iZ 0), .null, .null, .int (iZ 0), .int (iZ 0), .int (iZ 0), .int (iZ 0), .int (iZ 0), .int (iZ 0), .int (iZ 0), .null]))] H := hP
  have hD : va_D A [(hm, .inr (6, [.int (iZ 0), .int (iZ 64), .int (iZ 0), .int (iZ 0), .null, .null, .null, .int (iZ 0), .null, .null, .int (iZ 0), .int (iZ 0), .int (iZ 0), .int (iZ 0), .int (iZ 0), .int (iZ 0), .int (iZ 0), .null]))] := hD
  refine lv_aload_n hx hb d_Mo_init_10 rfl (lv_at hl 0 rfl) ?_
  refine lv_bipush (v := iZ (64)) hx hb d_Mo_init_11 (by decide) ?_
  refine va_put (D := (dC, dI)) (ci := 6) (v := .int (iZ 64)) (ty := .int) (C := R_Mo) (T := T_Mo) (N := 18) hx hb hts wi_Mo ty_Mo ty_Mo_ok nd_Mo hown hK hP hD hS 0 rfl rfl 2 (by decide) (hts _ t_686) (fun _ h9 => h9) rfl (by decide +kernel) rfl rfl (Nat.le_of_ble_eq_true rfl) d_Mo_init_13 (fun H locs hP hD hS => ?_)
  have hP : va_P (dC, dI) vwCl [(hm, .inr (6, [.int (iZ 0), .int (iZ 64), .int (iZ 64), .int (iZ 0), .null, .null, .null, .int (iZ 0), .null, .null, .int (iZ 0), .int (iZ 0), .int (iZ 0), .int (iZ 0), .int (iZ 0), .int (iZ 0), .int (iZ 0), .null]))] H := hP
  have hD : va_D A [(hm, .inr (6, [.int (iZ 0), .int (iZ 64), .int (iZ 64), .int (iZ 0), .null, .null, .null, .int (iZ 0), .null, .null, .int (iZ 0), .int (iZ 0), .int (iZ 0), .int (iZ 0), .int (iZ 0), .int (iZ 0), .int (iZ 0), .null]))] := hD
  refine lv_aload_n hx hb d_Mo_init_16 rfl (lv_at hl 0 rfl) ?_
  refine lv_ldc (v := iZ (32768)) hx hb hown (hts _ t_683) d_Mo_init_17 ?_
  refine z_newa (atype := .int) (a0 := (32768, .inl (aI (fun _ => iZ 0)))) hx hb (hts _ t_125) rfl ra_I hK hP hD hS hA 0 rfl (fun _ => rfl) (by omega) (by omega) rfl (Nat.le_of_ble_eq_true rfl) (Nat.le_of_ble_eq_true rfl) (Nat.le_of_ble_eq_true rfl) d_Mo_init_19 (fun q_19 H hP hD hS => ?_)
  have hP : va_P (dC, dI) vwCl [(hm, .inr (6, [.int (iZ 0), .int (iZ 64), .int (iZ 64), .int (iZ 0), .null, .null, .null, .int (iZ 0), .null, .null, .int (iZ 0), .int (iZ 0), .int (iZ 0), .int (iZ 0), .int (iZ 0), .int (iZ 0), .int (iZ 0), .null])), (q_19, .inl (cI, 32768, .inl (aI (fun _ => iZ 0))))] H := hP
  have hD : va_D A [(hm, .inr (6, [.int (iZ 0), .int (iZ 64), .int (iZ 64), .int (iZ 0), .null, .null, .null, .int (iZ 0), .null, .null, .int (iZ 0), .int (iZ 0), .int (iZ 0), .int (iZ 0), .int (iZ 0), .int (iZ 0), .int (iZ 0), .null])), (q_19, .inl (cI, 32768, .inl (aI (fun _ => iZ 0))))] := hD
  refine va_putF (D := (dC, dI)) (ci := 6) (v := .ref q_19) (ty := .array .int) (C := R_Mo) (T := T_Mo) (N := 18) hx hb hts wi_Mo ty_Mo ty_Mo_ok nd_Mo hown hK hP hD hS 0 rfl rfl 4 (by decide) (hts _ t_688) (fun _ h9 => h9) rfl hin rfl (by decide +kernel) rfl rfl (Nat.le_of_ble_eq_true rfl) d_Mo_init_21 (fun H locs hP hD hS => ?_)
  have hP : va_P (dC, dI) vwCl [(hm, .inr (6, [.int (iZ 0), .int (iZ 64), .int (iZ 64), .int (iZ 0), .ref q_19, .null, .null, .int (iZ 0), .null, .null, .int (iZ 0), .int (iZ 0), .int (iZ 0), .int (iZ 0), .int (iZ 0), .int (iZ 0), .int (iZ 0), .null])), (q_19, .inl (cI, 32768, .inl (aI (fun _ => iZ 0))))] H := hP
  have hD : va_D A [(hm, .inr (6, [.int (iZ 0), .int (iZ 64), .int (iZ 64), .int (iZ 0), .ref q_19, .null, .null, .int (iZ 0), .null, .null, .int (iZ 0), .int (iZ 0), .int (iZ 0), .int (iZ 0), .int (iZ 0), .int (iZ 0), .int (iZ 0), .null])), (q_19, .inl (cI, 32768, .inl (aI (fun _ => iZ 0))))] := hD
  refine lv_aload_n hx hb d_Mo_init_24 rfl (lv_at hl 0 rfl) ?_
  refine lv_ldc (v := iZ (32768)) hx hb hown (hts _ t_683) d_Mo_init_25 ?_
  refine z_newa (atype := .int) (a0 := (32768, .inl (aI (fun _ => iZ 0)))) hx hb (hts _ t_125) rfl ra_I hK hP hD hS hA 0 rfl (fun _ => rfl) (by omega) (by omega) rfl (Nat.le_of_ble_eq_true rfl) (Nat.le_of_ble_eq_true rfl) (Nat.le_of_ble_eq_true rfl) d_Mo_init_27 (fun q_27 H hP hD hS => ?_)
  have hP : va_P (dC, dI) vwCl [(hm, .inr (6, [.int (iZ 0), .int (iZ 64), .int (iZ 64), .int (iZ 0), .ref q_19, .null, .null, .int (iZ 0), .null, .null, .int (iZ 0), .int (iZ 0), .int (iZ 0), .int (iZ 0), .int (iZ 0), .int (iZ 0), .int (iZ 0), .null])), (q_19, .inl (cI, 32768, .inl (aI (fun _ => iZ 0)))), (q_27, .inl (cI, 32768, .inl (aI (fun _ => iZ 0))))] H := hP
  have hD : va_D A [(hm, .inr (6, [.int (iZ 0), .int (iZ 64), .int (iZ 64), .int (iZ 0), .ref q_19, .null, .null, .int (iZ 0), .null, .null, .int (iZ 0), .int (iZ 0), .int (iZ 0), .int (iZ 0), .int (iZ 0), .int (iZ 0), .int (iZ 0), .null])), (q_19, .inl (cI, 32768, .inl (aI (fun _ => iZ 0)))), (q_27, .inl (cI, 32768, .inl (aI (fun _ => iZ 0))))] := hD
  refine va_putF (D := (dC, dI)) (ci := 6) (v := .ref q_27) (ty := .array .int) (C := R_Mo) (T := T_Mo) (N := 18) hx hb hts wi_Mo ty_Mo ty_Mo_ok nd_Mo hown hK hP hD hS 0 rfl rfl 5 (by decide) (hts _ t_689) (fun _ h9 => h9) rfl hin rfl (by decide +kernel) rfl rfl (Nat.le_of_ble_eq_true rfl) d_Mo_init_29 (fun H locs hP hD hS => ?_)
  have hP : va_P (dC, dI) vwCl [(hm, .inr (6, [.int (iZ 0), .int (iZ 64), .int (iZ 64), .int (iZ 0), .ref q_19, .ref q_27, .null, .int (iZ 0), .null, .null, .int (iZ 0), .int (iZ 0), .int (iZ 0), .int (iZ 0), .int (iZ 0), .int (iZ 0), .int (iZ 0), .null])), (q_19, .inl (cI, 32768, .inl (aI (fun _ => iZ 0)))), (q_27, .inl (cI, 32768, .inl (aI (fun _ => iZ 0))))] H := hP
  have hD : va_D A [(hm, .inr (6, [.int (iZ 0), .int (iZ 64), .int (iZ 64), .int (iZ 0), .ref q_19, .ref q_27, .null, .int (iZ 0), .null, .null, .int (iZ 0), .int (iZ 0), .int (iZ 0), .int (iZ 0), .int (iZ 0), .int (iZ 0), .int (iZ 0), .null])), (q_19, .inl (cI, 32768, .inl (aI (fun _ => iZ 0)))), (q_27, .inl (cI, 32768, .inl (aI (fun _ => iZ 0))))] := hD
  refine lv_aload_n hx hb d_Mo_init_32 rfl (lv_at hl 0 rfl) ?_
  refine lv_sipush (v := iZ (4096)) hx hb d_Mo_init_33 (by decide) ?_
  refine z_newa (atype := .int) (a0 := (4096, .inl (aI (fun _ => iZ 0)))) hx hb (hts _ t_125) rfl ra_I hK hP hD hS hA 0 rfl (fun _ => rfl) (by omega) (by omega) rfl (Nat.le_of_ble_eq_true rfl) (Nat.le_of_ble_eq_true rfl) (Nat.le_of_ble_eq_true rfl) d_Mo_init_36 (fun q_36 H hP hD hS => ?_)
  have hP : va_P (dC, dI) vwCl [(hm, .inr (6, [.int (iZ 0), .int (iZ 64), .int (iZ 64), .int (iZ 0), .ref q_19, .ref q_27, .null, .int (iZ 0), .null, .null, .int (iZ 0), .int (iZ 0), .int (iZ 0), .int (iZ 0), .int (iZ 0), .int (iZ 0), .int (iZ 0), .null])), (q_19, .inl (cI, 32768, .inl (aI (fun _ => iZ 0)))), (q_27, .inl (cI, 32768, .inl (aI (fun _ => iZ 0)))), (q_36, .inl (cI, 4096, .inl (aI (fun _ => iZ 0))))] H := hP
  have hD : va_D A [(hm, .inr (6, [.int (iZ 0), .int (iZ 64), .int (iZ 64), .int (iZ 0), .ref q_19, .ref q_27, .null, .int (iZ 0), .null, .null, .int (iZ 0), .int (iZ 0), .int (iZ 0), .int (iZ 0), .int (iZ 0), .int (iZ 0), .int (iZ 0), .null])), (q_19, .inl (cI, 32768, .inl (aI (fun _ => iZ 0)))), (q_27, .inl (cI, 32768, .inl (aI (fun _ => iZ 0)))), (q_36, .inl (cI, 4096, .inl (aI (fun _ => iZ 0))))] := hD
  refine va_putF (D := (dC, dI)) (ci := 6) (v := .ref q_36) (ty := .array .int) (C := R_Mo) (T := T_Mo) (N := 18) hx hb hts wi_Mo ty_Mo ty_Mo_ok nd_Mo hown hK hP hD hS 0 rfl rfl 6 (by decide) (hts _ t_690) (fun _ h9 => h9) rfl hin rfl (by decide +kernel) rfl rfl (Nat.le_of_ble_eq_true rfl) d_Mo_init_38 (fun H locs hP hD hS => ?_)
  have hP : va_P (dC, dI) vwCl [(hm, .inr (6, [.int (iZ 0), .int (iZ 64), .int (iZ 64), .int (iZ 0), .ref q_19, .ref q_27, .ref q_36, .int (iZ 0), .null, .null, .int (iZ 0), .int (iZ 0), .int (iZ 0), .int (iZ 0), .int (iZ 0), .int (iZ 0), .int (iZ 0), .null])), (q_19, .inl (cI, 32768, .inl (aI (fun _ => iZ 0)))), (q_27, .inl (cI, 32768, .inl (aI (fun _ => iZ 0)))), (q_36, .inl (cI, 4096, .inl (aI (fun _ => iZ 0))))] H := hP
  have hD : va_D A [(hm, .inr (6, [.int (iZ 0), .int (iZ 64), .int (iZ 64), .int (iZ 0), .ref q_19, .ref q_27, .ref q_36, .int (iZ 0), .null, .null, .int (iZ 0), .int (iZ 0), .int (iZ 0), .int (iZ 0), .int (iZ 0), .int (iZ 0), .int (iZ 0), .null])), (q_19, .inl (cI, 32768, .inl (aI (fun _ => iZ 0)))), (q_27, .inl (cI, 32768, .inl (aI (fun _ => iZ 0)))), (q_36, .inl (cI, 4096, .inl (aI (fun _ => iZ 0))))] := hD
  refine lv_aload_n hx hb d_Mo_init_41 rfl (lv_at hl 0 rfl) ?_
  refine lv_bipush (v := iZ (12)) hx hb d_Mo_init_42 (by decide) ?_
  refine z_newa (atype := .int) (a0 := (12, .inl (aI (fun _ => iZ 0)))) hx hb (hts _ t_125) rfl ra_I hK hP hD hS hA 0 rfl (fun _ => rfl) (by omega) (by omega) rfl (Nat.le_of_ble_eq_true rfl) (Nat.le_of_ble_eq_true rfl) (Nat.le_of_ble_eq_true rfl) d_Mo_init_44 (fun q_44 H hP hD hS => ?_)
  have hP : va_P (dC, dI) vwCl [(hm, .inr (6, [.int (iZ 0), .int (iZ 64), .int (iZ 64), .int (iZ 0), .ref q_19, .ref q_27, .ref q_36, .int (iZ 0), .null, .null, .int (iZ 0), .int (iZ 0), .int (iZ 0), .int (iZ 0), .int (iZ 0), .int (iZ 0), .int (iZ 0), .null])), (q_19, .inl (cI, 32768, .inl (aI (fun _ => iZ 0)))), (q_27, .inl (cI, 32768, .inl (aI (fun _ => iZ 0)))), (q_36, .inl (cI, 4096, .inl (aI (fun _ => iZ 0)))), (q_44, .inl (cI, 12, .inl (aI (fun _ => iZ 0))))] H := hP
  have hD : va_D A [(hm, .inr (6, [.int (iZ 0), .int (iZ 64), .int (iZ 64), .int (iZ 0), .ref q_19, .ref q_27, .ref q_36, .int (iZ 0), .null, .null, .int (iZ 0), .int (iZ 0), .int (iZ 0), .int (iZ 0), .int (iZ 0), .int (iZ 0), .int (iZ 0), .null])), (q_19, .inl (cI, 32768, .inl (aI (fun _ => iZ 0)))), (q_27, .inl (cI, 32768, .inl (aI (fun _ => iZ 0)))), (q_36, .inl (cI, 4096, .inl (aI (fun _ => iZ 0)))), (q_44, .inl (cI, 12, .inl (aI (fun _ => iZ 0))))] := hD
  refine lv_dup hx hb d_Mo_init_46 rfl ?_
  refine lv_iconst (v := iZ (0)) hx hb d_Mo_init_47 rfl ?_
  refine lv_bipush (v := iZ (8)) hx hb d_Mo_init_48 (by decide) ?_
  refine z_iast hx hb hK hP hD hS 4 0 rfl rfl (by omega) (by omega) (by omega) d_Mo_init_50 (fun H locs hP hD hS => ?_)
  have hP : va_P (dC, dI) vwCl [(hm, .inr (6, [.int (iZ 0), .int (iZ 64), .int (iZ 64), .int (iZ 0), .ref q_19, .ref q_27, .ref q_36, .int (iZ 0), .null, .null, .int (iZ 0), .int (iZ 0), .int (iZ 0), .int (iZ 0), .int (iZ 0), .int (iZ 0), .int (iZ 0), .null])), (q_19, .inl (cI, 32768, .inl (aI (fun _ => iZ 0)))), (q_27, .inl (cI, 32768, .inl (aI (fun _ => iZ 0)))), (q_36, .inl (cI, 4096, .inl (aI (fun _ => iZ 0)))), (q_44, .inl (cI, 12, .inl (aI (upZ (fun _ => iZ 0) 0 (iZ 8)))))] H := hP
  have hD : va_D A [(hm, .inr (6, [.int (iZ 0), .int (iZ 64), .int (iZ 64), .int (iZ 0), .ref q_19, .ref q_27, .ref q_36, .int (iZ 0), .null, .null, .int (iZ 0), .int (iZ 0), .int (iZ 0), .int (iZ 0), .int (iZ 0), .int (iZ 0), .int (iZ 0), .null])), (q_19, .inl (cI, 32768, .inl (aI (fun _ => iZ 0)))), (q_27, .inl (cI, 32768, .inl (aI (fun _ => iZ 0)))), (q_36, .inl (cI, 4096, .inl (aI (fun _ => iZ 0)))), (q_44, .inl (cI, 12, .inl (aI (upZ (fun _ => iZ 0) 0 (iZ 8)))))] := hD
  refine lv_dup hx hb d_Mo_init_51 rfl ?_
  refine lv_iconst (v := iZ (1)) hx hb d_Mo_init_52 rfl ?_
  refine lv_bipush (v := iZ (8)) hx hb d_Mo_init_53 (by decide) ?_
  refine z_iast hx hb hK hP hD hS 4 0 rfl rfl (by omega) (by omega) (by omega) d_Mo_init_55 (fun H locs hP hD hS => ?_)
  have hP : va_P (dC, dI) vwCl [(hm, .inr (6, [.int (iZ 0), .int (iZ 64), .int (iZ 64), .int (iZ 0), .ref q_19, .ref q_27, .ref q_36, .int (iZ 0), .null, .null, .int (iZ 0), .int (iZ 0), .int (iZ 0), .int (iZ 0), .int (iZ 0), .int (iZ 0), .int (iZ 0), .null])), (q_19, .inl (cI, 32768, .inl (aI (fun _ => iZ 0)))), (q_27, .inl (cI, 32768, .inl (aI (fun _ => iZ 0)))), (q_36, .inl (cI, 4096, .inl (aI (fun _ => iZ 0)))), (q_44, .inl (cI, 12, .inl (aI (upZ (upZ (fun _ => iZ 0) 0 (iZ 8)) 1 (iZ 8)))))] H := hP
  have hD : va_D A [(hm, .inr (6, [.int (iZ 0), .int (iZ 64), .int (iZ 64), .int (iZ 0), .ref q_19, .ref q_27, .ref q_36, .int (iZ 0), .null, .null, .int (iZ 0), .int (iZ 0), .int (iZ 0), .int (iZ 0), .int (iZ 0), .int (iZ 0), .int (iZ 0), .null])), (q_19, .inl (cI, 32768, .inl (aI (fun _ => iZ 0)))), (q_27, .inl (cI, 32768, .inl (aI (fun _ => iZ 0)))), (q_36, .inl (cI, 4096, .inl (aI (fun _ => iZ 0)))), (q_44, .inl (cI, 12, .inl (aI (upZ (upZ (fun _ => iZ 0) 0 (iZ 8)) 1 (iZ 8)))))] := hD
  refine lv_dup hx hb d_Mo_init_56 rfl ?_
  refine lv_iconst (v := iZ (2)) hx hb d_Mo_init_57 rfl ?_
  refine lv_iconst (v := iZ (0)) hx hb d_Mo_init_58 rfl ?_
  refine z_iast hx hb hK hP hD hS 4 0 rfl rfl (by omega) (by omega) (by omega) d_Mo_init_59 (fun H locs hP hD hS => ?_)
  have hP : va_P (dC, dI) vwCl [(hm, .inr (6, [.int (iZ 0), .int (iZ 64), .int (iZ 64), .int (iZ 0), .ref q_19, .ref q_27, .ref q_36, .int (iZ 0), .null, .null, .int (iZ 0), .int (iZ 0), .int (iZ 0), .int (iZ 0), .int (iZ 0), .int (iZ 0), .int (iZ 0), .null])), (q_19, .inl (cI, 32768, .inl (aI (fun _ => iZ 0)))), (q_27, .inl (cI, 32768, .inl (aI (fun _ => iZ 0)))), (q_36, .inl (cI, 4096, .inl (aI (fun _ => iZ 0)))), (q_44, .inl (cI, 12, .inl (aI (upZ (upZ (upZ (fun _ => iZ 0) 0 (iZ 8)) 1 (iZ 8)) 2 (iZ 0)))))] H := hP
  have hD : va_D A [(hm, .inr (6, [.int (iZ 0), .int (iZ 64), .int (iZ 64), .int (iZ 0), .ref q_19, .ref q_27, .ref q_36, .int (iZ 0), .null, .null, .int (iZ 0), .int (iZ 0), .int (iZ 0), .int (iZ 0), .int (iZ 0), .int (iZ 0), .int (iZ 0), .null])), (q_19, .inl (cI, 32768, .inl (aI (fun _ => iZ 0)))), (q_27, .inl (cI, 32768, .inl (aI (fun _ => iZ 0)))), (q_36, .inl (cI, 4096, .inl (aI (fun _ => iZ 0)))), (q_44, .inl (cI, 12, .inl (aI (upZ (upZ (upZ (fun _ => iZ 0) 0 (iZ 8)) 1 (iZ 8)) 2 (iZ 0)))))] := hD
  refine lv_dup hx hb d_Mo_init_60 rfl ?_
  refine lv_iconst (v := iZ (3)) hx hb d_Mo_init_61 rfl ?_
  refine lv_bipush (v := iZ (8)) hx hb d_Mo_init_62 (by decide) ?_
  refine z_iast hx hb hK hP hD hS 4 0 rfl rfl (by omega) (by omega) (by omega) d_Mo_init_64 (fun H locs hP hD hS => ?_)
  have hP : va_P (dC, dI) vwCl [(hm, .inr (6, [.int (iZ 0), .int (iZ 64), .int (iZ 64), .int (iZ 0), .ref q_19, .ref q_27, .ref q_36, .int (iZ 0), .null, .null, .int (iZ 0), .int (iZ 0), .int (iZ 0), .int (iZ 0), .int (iZ 0), .int (iZ 0), .int (iZ 0), .null])), (q_19, .inl (cI, 32768, .inl (aI (fun _ => iZ 0)))), (q_27, .inl (cI, 32768, .inl (aI (fun _ => iZ 0)))), (q_36, .inl (cI, 4096, .inl (aI (fun _ => iZ 0)))), (q_44, .inl (cI, 12, .inl (aI (upZ (upZ (upZ (upZ (fun _ => iZ 0) 0 (iZ 8)) 1 (iZ 8)) 2 (iZ 0)) 3 (iZ 8)))))] H := hP
  have hD : va_D A [(hm, .inr (6, [.int (iZ 0), .int (iZ 64), .int (iZ 64), .int (iZ 0), .ref q_19, .ref q_27, .ref q_36, .int (iZ 0), .null, .null, .int (iZ 0), .int (iZ 0), .int (iZ 0), .int (iZ 0), .int (iZ 0), .int (iZ 0), .int (iZ 0), .null])), (q_19, .inl (cI, 32768, .inl (aI (fun _ => iZ 0)))), (q_27, .inl (cI, 32768, .inl (aI (fun _ => iZ 0)))), (q_36, .inl (cI, 4096, .inl (aI (fun _ => iZ 0)))), (q_44, .inl (cI, 12, .inl (aI (upZ (upZ (upZ (upZ (fun _ => iZ 0) 0 (iZ 8)) 1 (iZ 8)) 2 (iZ 0)) 3 (iZ 8)))))] := hD
  refine lv_dup hx hb d_Mo_init_65 rfl ?_
  refine lv_iconst (v := iZ (4)) hx hb d_Mo_init_66 rfl ?_
  refine lv_bipush (v := iZ (8)) hx hb d_Mo_init_67 (by decide) ?_
  refine z_iast hx hb hK hP hD hS 4 0 rfl rfl (by omega) (by omega) (by omega) d_Mo_init_69 (fun H locs hP hD hS => ?_)
  have hP : va_P (dC, dI) vwCl [(hm, .inr (6, [.int (iZ 0), .int (iZ 64), .int (iZ 64), .int (iZ 0), .ref q_19, .ref q_27, .ref q_36, .int (iZ 0), .null, .null, .int (iZ 0), .int (iZ 0), .int (iZ 0), .int (iZ 0), .int (iZ 0), .int (iZ 0), .int (iZ 0), .null])), (q_19, .inl (cI, 32768, .inl (aI (fun _ => iZ 0)))), (q_27, .inl (cI, 32768, .inl (aI (fun _ => iZ 0)))), (q_36, .inl (cI, 4096, .inl (aI (fun _ => iZ 0)))), (q_44, .inl (cI, 12, .inl (aI (upZ (upZ (upZ (upZ (upZ (fun _ => iZ 0) 0 (iZ 8)) 1 (iZ 8)) 2 (iZ 0)) 3 (iZ 8)) 4 (iZ 8)))))] H := hP
  have hD : va_D A [(hm, .inr (6, [.int (iZ 0), .int (iZ 64), .int (iZ 64), .int (iZ 0), .ref q_19, .ref q_27, .ref q_36, .int (iZ 0), .null, .null, .int (iZ 0), .int (iZ 0), .int (iZ 0), .int (iZ 0), .int (iZ 0), .int (iZ 0), .int (iZ 0), .null])), (q_19, .inl (cI, 32768, .inl (aI (fun _ => iZ 0)))), (q_27, .inl (cI, 32768, .inl (aI (fun _ => iZ 0)))), (q_36, .inl (cI, 4096, .inl (aI (fun _ => iZ 0)))), (q_44, .inl (cI, 12, .inl (aI (upZ (upZ (upZ (upZ (upZ (fun _ => iZ 0) 0 (iZ 8)) 1 (iZ 8)) 2 (iZ 0)) 3 (iZ 8)) 4 (iZ 8)))))] := hD
  refine lv_dup hx hb d_Mo_init_70 rfl ?_
  refine lv_iconst (v := iZ (5)) hx hb d_Mo_init_71 rfl ?_
  refine lv_iconst (v := iZ (0)) hx hb d_Mo_init_72 rfl ?_
  refine z_iast hx hb hK hP hD hS 4 0 rfl rfl (by omega) (by omega) (by omega) d_Mo_init_73 (fun H locs hP hD hS => ?_)
  have hP : va_P (dC, dI) vwCl [(hm, .inr (6, [.int (iZ 0), .int (iZ 64), .int (iZ 64), .int (iZ 0), .ref q_19, .ref q_27, .ref q_36, .int (iZ 0), .null, .null, .int (iZ 0), .int (iZ 0), .int (iZ 0), .int (iZ 0), .int (iZ 0), .int (iZ 0), .int (iZ 0), .null])), (q_19, .inl (cI, 32768, .inl (aI (fun _ => iZ 0)))), (q_27, .inl (cI, 32768, .inl (aI (fun _ => iZ 0)))), (q_36, .inl (cI, 4096, .inl (aI (fun _ => iZ 0)))), (q_44, .inl (cI, 12, .inl (aI (upZ (upZ (upZ (upZ (upZ (upZ (fun _ => iZ 0) 0 (iZ 8)) 1 (iZ 8)) 2 (iZ 0)) 3 (iZ 8)) 4 (iZ 8)) 5 (iZ 0)))))] H := hP
  have hD : va_D A [(hm, .inr (6, [.int (iZ 0), .int (iZ 64), .int (iZ 64), .int (iZ 0), .ref q_19, .ref q_27, .ref q_36, .int (iZ 0), .null, .null, .int (iZ 0), .int (iZ 0), .int (iZ 0), .int (iZ 0), .int (iZ 0), .int (iZ 0), .int (iZ 0), .null])), (q_19, .inl (cI, 32768, .inl (aI (fun _ => iZ 0)))), (q_27, .inl (cI, 32768, .inl (aI (fun _ => iZ 0)))), (q_36, .inl (cI, 4096, .inl (aI (fun _ => iZ 0)))), (q_44, .inl (cI, 12, .inl (aI (upZ (upZ (upZ (upZ (upZ (upZ (fun _ => iZ 0) 0 (iZ 8)) 1 (iZ 8)) 2 (iZ 0)) 3 (iZ 8)) 4 (iZ 8)) 5 (iZ 0)))))] := hD
  refine lv_dup hx hb d_Mo_init_74 rfl ?_
  refine lv_bipush (v := iZ (6)) hx hb d_Mo_init_75 (by decide) ?_
  refine lv_bipush (v := iZ (8)) hx hb d_Mo_init_77 (by decide) ?_
  refine z_iast hx hb hK hP hD hS 4 0 rfl rfl (by omega) (by omega) (by omega) d_Mo_init_79 (fun H locs hP hD hS => ?_)
  have hP : va_P (dC, dI) vwCl [(hm, .inr (6, [.int (iZ 0), .int (iZ 64), .int (iZ 64), .int (iZ 0), .ref q_19, .ref q_27, .ref q_36, .int (iZ 0), .null, .null, .int (iZ 0), .int (iZ 0), .int (iZ 0), .int (iZ 0), .int (iZ 0), .int (iZ 0), .int (iZ 0), .null])), (q_19, .inl (cI, 32768, .inl (aI (fun _ => iZ 0)))), (q_27, .inl (cI, 32768, .inl (aI (fun _ => iZ 0)))), (q_36, .inl (cI, 4096, .inl (aI (fun _ => iZ 0)))), (q_44, .inl (cI, 12, .inl (aI (upZ (upZ (upZ (upZ (upZ (upZ (upZ (fun _ => iZ 0) 0 (iZ 8)) 1 (iZ 8)) 2 (iZ 0)) 3 (iZ 8)) 4 (iZ 8)) 5 (iZ 0)) 6 (iZ 8)))))] H := hP
  have hD : va_D A [(hm, .inr (6, [.int (iZ 0), .int (iZ 64), .int (iZ 64), .int (iZ 0), .ref q_19, .ref q_27, .ref q_36, .int (iZ 0), .null, .null, .int (iZ 0), .int (iZ 0), .int (iZ 0), .int (iZ 0), .int (iZ 0), .int (iZ 0), .int (iZ 0), .null])), (q_19, .inl (cI, 32768, .inl (aI (fun _ => iZ 0)))), (q_27, .inl (cI, 32768, .inl (aI (fun _ => iZ 0)))), (q_36, .inl (cI, 4096, .inl (aI (fun _ => iZ 0)))), (q_44, .inl (cI, 12, .inl (aI (upZ (upZ (upZ (upZ (upZ (upZ (upZ (fun _ => iZ 0) 0 (iZ 8)) 1 (iZ 8)) 2 (iZ 0)) 3 (iZ 8)) 4 (iZ 8)) 5 (iZ 0)) 6 (iZ 8)))))] := hD
  refine lv_dup hx hb d_Mo_init_80 rfl ?_
  refine lv_bipush (v := iZ (7)) hx hb d_Mo_init_81 (by decide) ?_
  refine lv_bipush (v := iZ (8)) hx hb d_Mo_init_83 (by decide) ?_
  refine z_iast hx hb hK hP hD hS 4 0 rfl rfl (by omega) (by omega) (by omega) d_Mo_init_85 (fun H locs hP hD hS => ?_)
  have hP : va_P (dC, dI) vwCl [(hm, .inr (6, [.int (iZ 0), .int (iZ 64), .int (iZ 64), .int (iZ 0), .ref q_19, .ref q_27, .ref q_36, .int (iZ 0), .null, .null, .int (iZ 0), .int (iZ 0), .int (iZ 0), .int (iZ 0), .int (iZ 0), .int (iZ 0), .int (iZ 0), .null])), (q_19, .inl (cI, 32768, .inl (aI (fun _ => iZ 0)))), (q_27, .inl (cI, 32768, .inl (aI (fun _ => iZ 0)))), (q_36, .inl (cI, 4096, .inl (aI (fun _ => iZ 0)))), (q_44, .inl (cI, 12, .inl (aI (upZ (upZ (upZ (upZ (upZ (upZ (upZ (upZ (fun _ => iZ 0) 0 (iZ 8)) 1 (iZ 8)) 2 (iZ 0)) 3 (iZ 8)) 4 (iZ 8)) 5 (iZ 0)) 6 (iZ 8)) 7 (iZ 8)))))] H := hP
  have hD : va_D A [(hm, .inr (6, [.int (iZ 0), .int (iZ 64), .int (iZ 64), .int (iZ 0), .ref q_19, .ref q_27, .ref q_36, .int (iZ 0), .null, .null, .int (iZ 0), .int (iZ 0), .int (iZ 0), .int (iZ 0), .int (iZ 0), .int (iZ 0), .int (iZ 0), .null])), (q_19, .inl (cI, 32768, .inl (aI (fun _ => iZ 0)))), (q_27, .inl (cI, 32768, .inl (aI (fun _ => iZ 0)))), (q_36, .inl (cI, 4096, .inl (aI (fun _ => iZ 0)))), (q_44, .inl (cI, 12, .inl (aI (upZ (upZ (upZ (upZ (upZ (upZ (upZ (upZ (fun _ => iZ 0) 0 (iZ 8)) 1 (iZ 8)) 2 (iZ 0)) 3 (iZ 8)) 4 (iZ 8)) 5 (iZ 0)) 6 (iZ 8)) 7 (iZ 8)))))] := hD
  refine lv_dup hx hb d_Mo_init_86 rfl ?_
  refine lv_bipush (v := iZ (8)) hx hb d_Mo_init_87 (by decide) ?_
  refine lv_iconst (v := iZ (0)) hx hb d_Mo_init_89 rfl ?_
  refine z_iast hx hb hK hP hD hS 4 0 rfl rfl (by omega) (by omega) (by omega) d_Mo_init_90 (fun H locs hP hD hS => ?_)
  have hP : va_P (dC, dI) vwCl [(hm, .inr (6, [.int (iZ 0), .int (iZ 64), .int (iZ 64), .int (iZ 0), .ref q_19, .ref q_27, .ref q_36, .int (iZ 0), .null, .null, .int (iZ 0), .int (iZ 0), .int (iZ 0), .int (iZ 0), .int (iZ 0), .int (iZ 0), .int (iZ 0), .null])), (q_19, .inl (cI, 32768, .inl (aI (fun _ => iZ 0)))), (q_27, .inl (cI, 32768, .inl (aI (fun _ => iZ 0)))), (q_36, .inl (cI, 4096, .inl (aI (fun _ => iZ 0)))), (q_44, .inl (cI, 12, .inl (aI (upZ (upZ (upZ (upZ (upZ (upZ (upZ (upZ (upZ (fun _ => iZ 0) 0 (iZ 8)) 1 (iZ 8)) 2 (iZ 0)) 3 (iZ 8)) 4 (iZ 8)) 5 (iZ 0)) 6 (iZ 8)) 7 (iZ 8)) 8 (iZ 0)))))] H := hP
  have hD : va_D A [(hm, .inr (6, [.int (iZ 0), .int (iZ 64), .int (iZ 64), .int (iZ 0), .ref q_19, .ref q_27, .ref q_36, .int (iZ 0), .null, .null, .int (iZ 0), .int (iZ 0), .int (iZ 0), .int (iZ 0), .int (iZ 0), .int (iZ 0), .int (iZ 0), .null])), (q_19, .inl (cI, 32768, .inl (aI (fun _ => iZ 0)))), (q_27, .inl (cI, 32768, .inl (aI (fun _ => iZ 0)))), (q_36, .inl (cI, 4096, .inl (aI (fun _ => iZ 0)))), (q_44, .inl (cI, 12, .inl (aI (upZ (upZ (upZ (upZ (upZ (upZ (upZ (upZ (upZ (fun _ => iZ 0) 0 (iZ 8)) 1 (iZ 8)) 2 (iZ 0)) 3 (iZ 8)) 4 (iZ 8)) 5 (iZ 0)) 6 (iZ 8)) 7 (iZ 8)) 8 (iZ 0)))))] := hD
  refine lv_dup hx hb d_Mo_init_91 rfl ?_
  refine lv_bipush (v := iZ (9)) hx hb d_Mo_init_92 (by decide) ?_
  refine lv_bipush (v := iZ (8)) hx hb d_Mo_init_94 (by decide) ?_
  refine z_iast hx hb hK hP hD hS 4 0 rfl rfl (by omega) (by omega) (by omega) d_Mo_init_96 (fun H locs hP hD hS => ?_)
  have hP : va_P (dC, dI) vwCl [(hm, .inr (6, [.int (iZ 0), .int (iZ 64), .int (iZ 64), .int (iZ 0), .ref q_19, .ref q_27, .ref q_36, .int (iZ 0), .null, .null, .int (iZ 0), .int (iZ 0), .int (iZ 0), .int (iZ 0), .int (iZ 0), .int (iZ 0), .int (iZ 0), .null])), (q_19, .inl (cI, 32768, .inl (aI (fun _ => iZ 0)))), (q_27, .inl (cI, 32768, .inl (aI (fun _ => iZ 0)))), (q_36, .inl (cI, 4096, .inl (aI (fun _ => iZ 0)))), (q_44, .inl (cI, 12, .inl (aI (upZ (upZ (upZ (upZ (upZ (upZ (upZ (upZ (upZ (upZ (fun _ => iZ 0) 0 (iZ 8)) 1 (iZ 8)) 2 (iZ 0)) 3 (iZ 8)) 4 (iZ 8)) 5 (iZ 0)) 6 (iZ 8)) 7 (iZ 8)) 8 (iZ 0)) 9 (iZ 8)))))] H := hP
  have hD : va_D A [(hm, .inr (6, [.int (iZ 0), .int (iZ 64), .int (iZ 64), .int (iZ 0), .ref q_19, .ref q_27, .ref q_36, .int (iZ 0), .null, .null, .int (iZ 0), .int (iZ 0), .int (iZ 0), .int (iZ 0), .int (iZ 0), .int (iZ 0), .int (iZ 0), .null])), (q_19, .inl (cI, 32768, .inl (aI (fun _ => iZ 0)))), (q_27, .inl (cI, 32768, .inl (aI (fun _ => iZ 0)))), (q_36, .inl (cI, 4096, .inl (aI (fun _ => iZ 0)))), (q_44, .inl (cI, 12, .inl (aI (upZ (upZ (upZ (upZ (upZ (upZ (upZ (upZ (upZ (upZ (fun _ => iZ 0) 0 (iZ 8)) 1 (iZ 8)) 2 (iZ 0)) 3 (iZ 8)) 4 (iZ 8)) 5 (iZ 0)) 6 (iZ 8)) 7 (iZ 8)) 8 (iZ 0)) 9 (iZ 8)))))] := hD
  refine lv_dup hx hb d_Mo_init_97 rfl ?_
  refine lv_bipush (v := iZ (10)) hx hb d_Mo_init_98 (by decide) ?_
  refine lv_bipush (v := iZ (8)) hx hb d_Mo_init_100 (by decide) ?_
  refine z_iast hx hb hK hP hD hS 4 0 rfl rfl (by omega) (by omega) (by omega) d_Mo_init_102 (fun H locs hP hD hS => ?_)
  have hP : va_P (dC, dI) vwCl [(hm, .inr (6, [.int (iZ 0), .int (iZ 64), .int (iZ 64), .int (iZ 0), .ref q_19, .ref q_27, .ref q_36, .int (iZ 0), .null, .null, .int (iZ 0), .int (iZ 0), .int (iZ 0), .int (iZ 0), .int (iZ 0), .int (iZ 0), .int (iZ 0), .null])), (q_19, .inl (cI, 32768, .inl (aI (fun _ => iZ 0)))), (q_27, .inl (cI, 32768, .inl (aI (fun _ => iZ 0)))), (q_36, .inl (cI, 4096, .inl (aI (fun _ => iZ 0)))), (q_44, .inl (cI, 12, .inl (aI (upZ (upZ (upZ (upZ (upZ (upZ (upZ (upZ (upZ (upZ (upZ (fun _ => iZ 0) 0 (iZ 8)) 1 (iZ 8)) 2 (iZ 0)) 3 (iZ 8)) 4 (iZ 8)) 5 (iZ 0)) 6 (iZ 8)) 7 (iZ 8)) 8 (iZ 0)) 9 (iZ 8)) 10 (iZ 8)))))] H := hP
  have hD : va_D A [(hm, .inr (6, [.int (iZ 0), .int (iZ 64), .int (iZ 64), .int (iZ 0), .ref q_19, .ref q_27, .ref q_36, .int (iZ 0), .null, .null, .int (iZ 0), .int (iZ 0), .int (iZ 0), .int (iZ 0), .int (iZ 0), .int (iZ 0), .int (iZ 0), .null])), (q_19, .inl (cI, 32768, .inl (aI (fun _ => iZ 0)))), (q_27, .inl (cI, 32768, .inl (aI (fun _ => iZ 0)))), (q_36, .inl (cI, 4096, .inl (aI (fun _ => iZ 0)))), (q_44, .inl (cI, 12, .inl (aI (upZ (upZ (upZ (upZ (upZ (upZ (upZ (upZ (upZ (upZ (upZ (fun _ => iZ 0) 0 (iZ 8)) 1 (iZ 8)) 2 (iZ 0)) 3 (iZ 8)) 4 (iZ 8)) 5 (iZ 0)) 6 (iZ 8)) 7 (iZ 8)) 8 (iZ 0)) 9 (iZ 8)) 10 (iZ 8)))))] := hD
  refine lv_dup hx hb d_Mo_init_103 rfl ?_
  refine lv_bipush (v := iZ (11)) hx hb d_Mo_init_104 (by decide) ?_
  refine lv_iconst (v := iZ (0)) hx hb d_Mo_init_106 rfl ?_
  refine z_iast hx hb hK hP hD hS 4 0 rfl rfl (by omega) (by omega) (by omega) d_Mo_init_107 (fun H locs hP hD hS => ?_)
  have hP : va_P (dC, dI) vwCl [(hm, .inr (6, [.int (iZ 0), .int (iZ 64), .int (iZ 64), .int (iZ 0), .ref q_19, .ref q_27, .ref q_36, .int (iZ 0), .null, .null, .int (iZ 0), .int (iZ 0), .int (iZ 0), .int (iZ 0), .int (iZ 0), .int (iZ 0), .int (iZ 0), .null])), (q_19, .inl (cI, 32768, .inl (aI (fun _ => iZ 0)))), (q_27, .inl (cI, 32768, .inl (aI (fun _ => iZ 0)))), (q_36, .inl (cI, 4096, .inl (aI (fun _ => iZ 0)))), (q_44, .inl (cI, 12, .inl (aI (upZ (upZ (upZ (upZ (upZ (upZ (upZ (upZ (upZ (upZ (upZ (upZ (fun _ => iZ 0) 0 (iZ 8)) 1 (iZ 8)) 2 (iZ 0)) 3 (iZ 8)) 4 (iZ 8)) 5 (iZ 0)) 6 (iZ 8)) 7 (iZ 8)) 8 (iZ 0)) 9 (iZ 8)) 10 (iZ 8)) 11 (iZ 0)))))] H := hP
  have hD : va_D A [(hm, .inr (6, [.int (iZ 0), .int (iZ 64), .int (iZ 64), .int (iZ 0), .ref q_19, .ref q_27, .ref q_36, .int (iZ 0), .null, .null, .int (iZ 0), .int (iZ 0), .int (iZ 0), .int (iZ 0), .int (iZ 0), .int (iZ 0), .int (iZ 0), .null])), (q_19, .inl (cI, 32768, .inl (aI (fun _ => iZ 0)))), (q_27, .inl (cI, 32768, .inl (aI (fun _ => iZ 0)))), (q_36, .inl (cI, 4096, .inl (aI (fun _ => iZ 0)))), (q_44, .inl (cI, 12, .inl (aI (upZ (upZ (upZ (upZ (upZ (upZ (upZ (upZ (upZ (upZ (upZ (upZ (fun _ => iZ 0) 0 (iZ 8)) 1 (iZ 8)) 2 (iZ 0)) 3 (iZ 8)) 4 (iZ 8)) 5 (iZ 0)) 6 (iZ 8)) 7 (iZ 8)) 8 (iZ 0)) 9 (iZ 8)) 10 (iZ 8)) 11 (iZ 0)))))] := hD
  refine va_putF (D := (dC, dI)) (ci := 6) (v := .ref q_44) (ty := .array .int) (C := R_Mo) (T := T_Mo) (N := 18) hx hb hts wi_Mo ty_Mo ty_Mo_ok nd_Mo hown hK hP hD hS 0 rfl rfl 8 (by decide) (hts _ t_692) (fun _ h9 => h9) rfl hin rfl (by decide +kernel) rfl rfl (Nat.le_of_ble_eq_true rfl) d_Mo_init_108 (fun H locs hP hD hS => ?_)
  have hP : va_P (dC, dI) vwCl [(hm, .inr (6, [.int (iZ 0), .int (iZ 64), .int (iZ 64), .int (iZ 0), .ref q_19, .ref q_27, .ref q_36, .int (iZ 0), .ref q_44, .null, .int (iZ 0), .int (iZ 0), .int (iZ 0), .int (iZ 0), .int (iZ 0), .int (iZ 0), .int (iZ 0), .null])), (q_19, .inl (cI, 32768, .inl (aI (fun _ => iZ 0)))), (q_27, .inl (cI, 32768, .inl (aI (fun _ => iZ 0)))), (q_36, .inl (cI, 4096, .inl (aI (fun _ => iZ 0)))), (q_44, .inl (cI, 12, .inl (aI (upZ (upZ (upZ (upZ (upZ (upZ (upZ (upZ (upZ (upZ (upZ (upZ (fun _ => iZ 0) 0 (iZ 8)) 1 (iZ 8)) 2 (iZ 0)) 3 (iZ 8)) 4 (iZ 8)) 5 (iZ 0)) 6 (iZ 8)) 7 (iZ 8)) 8 (iZ 0)) 9 (iZ 8)) 10 (iZ 8)) 11 (iZ 0)))))] H := hP
  have hD : va_D A [(hm, .inr (6, [.int (iZ 0), .int (iZ 64), .int (iZ 64), .int (iZ 0), .ref q_19, .ref q_27, .ref q_36, .int (iZ 0), .ref q_44, .null, .int (iZ 0), .int (iZ 0), .int (iZ 0), .int (iZ 0), .int (iZ 0), .int (iZ 0), .int (iZ 0), .null])), (q_19, .inl (cI, 32768, .inl (aI (fun _ => iZ 0)))), (q_27, .inl (cI, 32768, .inl (aI (fun _ => iZ 0)))), (q_36, .inl (cI, 4096, .inl (aI (fun _ => iZ 0)))), (q_44, .inl (cI, 12, .inl (aI (upZ (upZ (upZ (upZ (upZ (upZ (upZ (upZ (upZ (upZ (upZ (upZ (fun _ => iZ 0) 0 (iZ 8)) 1 (iZ 8)) 2 (iZ 0)) 3 (iZ 8)) 4 (iZ 8)) 5 (iZ 0)) 6 (iZ 8)) 7 (iZ 8)) 8 (iZ 0)) 9 (iZ 8)) 10 (iZ 8)) 11 (iZ 0)))))] := hD
  refine lv_aload_n hx hb d_Mo_init_111 rfl (lv_at hl 0 rfl) ?_
  refine lv_ldc (v := iZ (32768)) hx hb hown (hts _ t_683) d_Mo_init_112 ?_
  refine z_newa (atype := .int) (a0 := (32768, .inl (aI (fun _ => iZ 0)))) hx hb (hts _ t_125) rfl ra_I hK hP hD hS hA 0 rfl (fun _ => rfl) (by omega) (by omega) rfl (Nat.le_of_ble_eq_true rfl) (Nat.le_of_ble_eq_true rfl) (Nat.le_of_ble_eq_true rfl) d_Mo_init_114 (fun q_114 H hP hD hS => ?_)
  have hP : va_P (dC, dI) vwCl [(hm, .inr (6, [.int (iZ 0), .int (iZ 64), .int (iZ 64), .int (iZ 0), .ref q_19, .ref q_27, .ref q_36, .int (iZ 0), .ref q_44, .null, .int (iZ 0), .int (iZ 0), .int (iZ 0), .int (iZ 0), .int (iZ 0), .int (iZ 0), .int (iZ 0), .null])), (q_19, .inl (cI, 32768, .inl (aI (fun _ => iZ 0)))), (q_27, .inl (cI, 32768, .inl (aI (fun _ => iZ 0)))), (q_36, .inl (cI, 4096, .inl (aI (fun _ => iZ 0)))), (q_44, .inl (cI, 12, .inl (aI (upZ (upZ (upZ (upZ (upZ (upZ (upZ (upZ (upZ (upZ (upZ (upZ (fun _ => iZ 0) 0 (iZ 8)) 1 (iZ 8)) 2 (iZ 0)) 3 (iZ 8)) 4 (iZ 8)) 5 (iZ 0)) 6 (iZ 8)) 7 (iZ 8)) 8 (iZ 0)) 9 (iZ 8)) 10 (iZ 8)) 11 (iZ 0))))), (q_114, .inl (cI, 32768, .inl (aI (fun _ => iZ 0))))] H := hP
  have hD : va_D A [(hm, .inr (6, [.int (iZ 0), .int (iZ 64), .int (iZ 64), .int (iZ 0), .ref q_19, .ref q_27, .ref q_36, .int (iZ 0), .ref q_44, .null, .int (iZ 0), .int (iZ 0), .int (iZ 0), .int (iZ 0), .int (iZ 0), .int (iZ 0), .int (iZ 0), .null])), (q_19, .inl (cI, 32768, .inl (aI (fun _ => iZ 0)))), (q_27, .inl (cI, 32768, .inl (aI (fun _ => iZ 0)))), (q_36, .inl (cI, 4096, .inl (aI (fun _ => iZ 0)))), (q_44, .inl (cI, 12, .inl (aI (upZ (upZ (upZ (upZ (upZ (upZ (upZ (upZ (upZ (upZ (upZ (upZ (fun _ => iZ 0) 0 (iZ 8)) 1 (iZ 8)) 2 (iZ 0)) 3 (iZ 8)) 4 (iZ 8)) 5 (iZ 0)) 6 (iZ 8)) 7 (iZ 8)) 8 (iZ 0)) 9 (iZ 8)) 10 (iZ 8)) 11 (iZ 0))))), (q_114, .inl (cI, 32768, .inl (aI (fun _ => iZ 0))))] := hD
  refine va_putF (D := (dC, dI)) (ci := 6) (v := .ref q_114) (ty := .array .int) (C := R_Mo) (T := T_Mo) (N := 18) hx hb hts wi_Mo ty_Mo ty_Mo_ok nd_Mo hown hK hP hD hS 0 rfl rfl 9 (by decide) (hts _ t_693) (fun _ h9 => h9) rfl hin rfl (by decide +kernel) rfl rfl (Nat.le_of_ble_eq_true rfl) d_Mo_init_116 (fun H locs hP hD hS => ?_)
  have hP : va_P (dC, dI) vwCl [(hm, .inr (6, [.int (iZ 0), .int (iZ 64), .int (iZ 64), .int (iZ 0), .ref q_19, .ref q_27, .ref q_36, .int (iZ 0), .ref q_44, .ref q_114, .int (iZ 0), .int (iZ 0), .int (iZ 0), .int (iZ 0), .int (iZ 0), .int (iZ 0), .int (iZ 0), .null])), (q_19, .inl (cI, 32768, .inl (aI (fun _ => iZ 0)))), (q_27, .inl (cI, 32768, .inl (aI (fun _ => iZ 0)))), (q_36, .inl (cI, 4096, .inl (aI (fun _ => iZ 0)))), (q_44, .inl (cI, 12, .inl (aI (upZ (upZ (upZ (upZ (upZ (upZ (upZ (upZ (upZ (upZ (upZ (upZ (fun _ => iZ 0) 0 (iZ 8)) 1 (iZ 8)) 2 (iZ 0)) 3 (iZ 8)) 4 (iZ 8)) 5 (iZ 0)) 6 (iZ 8)) 7 (iZ 8)) 8 (iZ 0)) 9 (iZ 8)) 10 (iZ 8)) 11 (iZ 0))))), (q_114, .inl (cI, 32768, .inl (aI (fun _ => iZ 0))))] H := hP
  have hD : va_D A [(hm, .inr (6, [.int (iZ 0), .int (iZ 64), .int (iZ 64), .int (iZ 0), .ref q_19, .ref q_27, .ref q_36, .int (iZ 0), .ref q_44, .ref q_114, .int (iZ 0), .int (iZ 0), .int (iZ 0), .int (iZ 0), .int (iZ 0), .int (iZ 0), .int (iZ 0), .null])), (q_19, .inl (cI, 32768, .inl (aI (fun _ => iZ 0)))), (q_27, .inl (cI, 32768, .inl (aI (fun _ => iZ 0)))), (q_36, .inl (cI, 4096, .inl (aI (fun _ => iZ 0)))), (q_44, .inl (cI, 12, .inl (aI (upZ (upZ (upZ (upZ (upZ (upZ (upZ (upZ (upZ (upZ (upZ (upZ (fun _ => iZ 0) 0 (iZ 8)) 1 (iZ 8)) 2 (iZ 0)) 3 (iZ 8)) 4 (iZ 8)) 5 (iZ 0)) 6 (iZ 8)) 7 (iZ 8)) 8 (iZ 0)) 9 (iZ 8)) 10 (iZ 8)) 11 (iZ 0))))), (q_114, .inl (cI, 32768, .inl (aI (fun _ => iZ 0))))] := hD
  refine lv_aload_n hx hb d_Mo_init_119 rfl (lv_at hl 0 rfl) ?_
  refine lv_sipush (v := iZ (5200)) hx hb d_Mo_init_120 (by decide) ?_
  refine z_newa (atype := .boolean) (a0 := (5200, .inl (aI (fun _ => iZ 0)))) hx hb (hts _ t_739) rfl ra_Z hK hP hD hS hA 1 rfl (fun _ => rfl) (by omega) (by omega) rfl (Nat.le_of_ble_eq_true rfl) (Nat.le_of_ble_eq_true rfl) (Nat.le_of_ble_eq_true rfl) d_Mo_init_123 (fun q_123 H hP hD hS => ?_)
  have hP : va_P (dC, dI) vwCl [(hm, .inr (6, [.int (iZ 0), .int (iZ 64), .int (iZ 64), .int (iZ 0), .ref q_19, .ref q_27, .ref q_36, .int (iZ 0), .ref q_44, .ref q_114, .int (iZ 0), .int (iZ 0), .int (iZ 0), .int (iZ 0), .int (iZ 0), .int (iZ 0), .int (iZ 0), .null])), (q_19, .inl (cI, 32768, .inl (aI (fun _ => iZ 0)))), (q_27, .inl (cI, 32768, .inl (aI (fun _ => iZ 0)))), (q_36, .inl (cI, 4096, .inl (aI (fun _ => iZ 0)))), (q_44, .inl (cI, 12, .inl (aI (upZ (upZ (upZ (upZ (upZ (upZ (upZ (upZ (upZ (upZ (upZ (upZ (fun _ => iZ 0) 0 (iZ 8)) 1 (iZ 8)) 2 (iZ 0)) 3 (iZ 8)) 4 (iZ 8)) 5 (iZ 0)) 6 (iZ 8)) 7 (iZ 8)) 8 (iZ 0)) 9 (iZ 8)) 10 (iZ 8)) 11 (iZ 0))))), (q_114, .inl (cI, 32768, .inl (aI (fun _ => iZ 0)))), (q_123, .inl (cZ, 5200, .inl (aI (fun _ => iZ 0))))] H := hP
  have hD : va_D A [(hm, .inr (6, [.int (iZ 0), .int (iZ 64), .int (iZ 64), .int (iZ 0), .ref q_19, .ref q_27, .ref q_36, .int (iZ 0), .ref q_44, .ref q_114, .int (iZ 0), .int (iZ 0), .int (iZ 0), .int (iZ 0), .int (iZ 0), .int (iZ 0), .int (iZ 0), .null])), (q_19, .inl (cI, 32768, .inl (aI (fun _ => iZ 0)))), (q_27, .inl (cI, 32768, .inl (aI (fun _ => iZ 0)))), (q_36, .inl (cI, 4096, .inl (aI (fun _ => iZ 0)))), (q_44, .inl (cI, 12, .inl (aI (upZ (upZ (upZ (upZ (upZ (upZ (upZ (upZ (upZ (upZ (upZ (upZ (fun _ => iZ 0) 0 (iZ 8)) 1 (iZ 8)) 2 (iZ 0)) 3 (iZ 8)) 4 (iZ 8)) 5 (iZ 0)) 6 (iZ 8)) 7 (iZ 8)) 8 (iZ 0)) 9 (iZ 8)) 10 (iZ 8)) 11 (iZ 0))))), (q_114, .inl (cI, 32768, .inl (aI (fun _ => iZ 0)))), (q_123, .inl (cZ, 5200, .inl (aI (fun _ => iZ 0))))] := hD
  refine va_putF (D := (dC, dI)) (ci := 6) (v := .ref q_123) (ty := .array .boolean) (C := R_Mo) (T := T_Mo) (N := 18) hx hb hts wi_Mo ty_Mo ty_Mo_ok nd_Mo hown hK hP hD hS 0 rfl rfl 17 (by decide) (hts _ t_701) (fun _ h9 => h9) rfl hin rfl (by decide +kernel) rfl rfl (Nat.le_of_ble_eq_true rfl) d_Mo_init_125 (fun H locs hP hD hS => ?_)
  have hP : va_P (dC, dI) vwCl [(hm, .inr (6, [.int (iZ 0), .int (iZ 64), .int (iZ 64), .int (iZ 0), .ref q_19, .ref q_27, .ref q_36, .int (iZ 0), .ref q_44, .ref q_114, .int (iZ 0), .int (iZ 0), .int (iZ 0), .int (iZ 0), .int (iZ 0), .int (iZ 0), .int (iZ 0), .ref q_123])), (q_19, .inl (cI, 32768, .inl (aI (fun _ => iZ 0)))), (q_27, .inl (cI, 32768, .inl (aI (fun _ => iZ 0)))), (q_36, .inl (cI, 4096, .inl (aI (fun _ => iZ 0)))), (q_44, .inl (cI, 12, .inl (aI (upZ (upZ (upZ (upZ (upZ (upZ (upZ (upZ (upZ (upZ (upZ (upZ (fun _ => iZ 0) 0 (iZ 8)) 1 (iZ 8)) 2 (iZ 0)) 3 (iZ 8)) 4 (iZ 8)) 5 (iZ 0)) 6 (iZ 8)) 7 (iZ 8)) 8 (iZ 0)) 9 (iZ 8)) 10 (iZ 8)) 11 (iZ 0))))), (q_114, .inl (cI, 32768, .inl (aI (fun _ => iZ 0)))), (q_123, .inl (cZ, 5200, .inl (aI (fun _ => iZ 0))))] H := hP
  have hD : va_D A [(hm, .inr (6, [.int (iZ 0), .int (iZ 64), .int (iZ 64), .int (iZ 0), .ref q_19, .ref q_27, .ref q_36, .int (iZ 0), .ref q_44, .ref q_114, .int (iZ 0), .int (iZ 0), .int (iZ 0), .int (iZ 0), .int (iZ 0), .int (iZ 0), .int (iZ 0), .ref q_123])), (q_19, .inl (cI, 32768, .inl (aI (fun _ => iZ 0)))), (q_27, .inl (cI, 32768, .inl (aI (fun _ => iZ 0)))), (q_36, .inl (cI, 4096, .inl (aI (fun _ => iZ 0)))), (q_44, .inl (cI, 12, .inl (aI (upZ (upZ (upZ (upZ (upZ (upZ (upZ (upZ (upZ (upZ (upZ (upZ (fun _ => iZ 0) 0 (iZ 8)) 1 (iZ 8)) 2 (iZ 0)) 3 (iZ 8)) 4 (iZ 8)) 5 (iZ 0)) 6 (iZ 8)) 7 (iZ 8)) 8 (iZ 0)) 9 (iZ 8)) 10 (iZ 8)) 11 (iZ 0))))), (q_114, .inl (cI, 32768, .inl (aI (fun _ => iZ 0)))), (q_123, .inl (cZ, 5200, .inl (aI (fun _ => iZ 0))))] := hD
  exact W.vret hx hb hr (fun t ht hW => ⟨⟨((fun n => [q_19, q_27, q_36, q_44, q_114, q_123].getD n 0, upZ (upZ (upZ (upZ (upZ (upZ (upZ (upZ (upZ (upZ (upZ (upZ (fun _ => iZ 0) 0 (iZ 8)) 1 (iZ 8)) 2 (iZ 0)) 3 (iZ 8)) 4 (iZ 8)) 5 (iZ 0)) 6 (iZ 8)) 7 (iZ 8)) 8 (iZ 0)) 9 (iZ 8)) 10 (iZ 8)) 11 (iZ 0))), rfl, sz_init, by rw [ht]; exact hP, va_K.moved hW.alike hK, hD⟩, hS.F ht⟩) hS.2.2 d_Mo_init_128
