/-! making arrays of a class that is known by its name -/
section ZMK
variable {p : Program} {l : Launch} {e : Env} {R : Room} {s : State} {m : MethodId} {args : Array Value} {below : List Frame} {meth : Method} {c : Code} {H : Heap} {locs : List Loc} {cells slots : Nat} {Q : State → Prop}
variable {cc : ByteArray} {pc : Nat} {ls : Array Slot} {rest : List Value} {D : va_G} {cl : List vw_C} {A : Nat → Prop} {a : Nat} {tys : List (ClassId × FieldType)} {ws : va_W} {H0 : Heap}
theorem ra_J {s : State} (c1 c2 : ClassId) (h1 : va_RA s c1 .long) (h2 : va_RA s c2 .long) : c1 = c2 := Option.some.inj ((va_nm_long h1).symm.trans (va_nm_long h2))
theorem ra_I {s : State} (c1 c2 : ClassId) (h1 : va_RA s c1 .int) (h2 : va_RA s c2 .int) : c1 = c2 := Option.some.inj ((va_nm_int h1).symm.trans (va_nm_int h2))
theorem ra_B {s : State} (c1 c2 : ClassId) (h1 : va_RA s c1 .byte) (h2 : va_RA s c2 .byte) : c1 = c2 := Option.some.inj ((va_nm_byte h1).symm.trans (va_nm_byte h2))
theorem ra_Z {s : State} (c1 c2 : ClassId) (h1 : va_RA s c1 .boolean) (h2 : va_RA s c2 .boolean) : c1 = c2 := Option.some.inj ((va_nm_boolean h1).symm.trans (va_nm_boolean h2))
theorem ra_O {s : State} {C : String} (c1 c2 : ClassId) (h1 : va_RA s c1 (.object C)) (h2 : va_RA s c2 (.object C)) : c1 = c2 := Option.some.inj ((va_nmO h1 rfl).symm.trans (va_nmO h2 rfl))
theorem z_newa (hx : p.tables.exec = Jvm.exec) (hb : c.code = cc) {atype : ArrayType} (harr : (Cond.arrayClass (newarray.typeOf atype)).before args s = true) {ty : FieldType} (hty : newarray.typeOf atype = ty) (hu : ∀ c1 c2, va_RA s c1 ty → va_RA s c2 ty → c1 = c2) (hK : va_K D cl tys s) (hP : va_P D cl ws H) (hD : va_D A ws) (hS : va_S A H0 H locs) (hA : ∀ q, H0.size ≤ q → A q)
    (t0 : Nat) {cA : ClassId} (ht : tys[t0]? = some (cA, ty)) {n : Int} {N : Nat} {a0 : vp_A} (ha : ∀ cA : ClassId, vp_cell cA a0 = arrV cA N (fun _ => defaultValue ty)) (n0 : 0 ≤ n) (n1 : n ≤ 2147483647) (hN : n.toNat = N) (hbytes : N * componentBytes ty ≤ 536870912) (hcells : cells + 1 ≤ R.cells) (hslots : slots + N ≤ R.slots) (d : decode cc pc = .ok (.newarray atype, 2))
    (kk : ∀ (q : Nat) (H1 : Heap), va_P D cl (ws ++ [(q, .inl (cA, a0))]) H1 → va_D A (ws ++ [(q, .inl (cA, a0))]) → va_S A H0 H1 locs →
      W p l e R s m args below meth c H1 locs (cells + 1) (slots + N) Q (F0 m (pc + 2) ls (.ref q :: rest))) : W p l e R s m args below meth c H locs cells slots Q (F0 m pc ls (.int (iZ n) :: rest)) := by
  refine va_newa hx hb harr hty hK hP hD hS hA ha (fun h => absurd ((iZ_lt (by omega) n1 (by decide) (by decide)).mp (show iZ n < iZ 0 from h)) (by omega)) (by rw [iZ_nat n0 n1]; exact hN) hbytes hcells hslots d (fun q c1 H1 hK1 hP1 hD1 hS1 => ?_)
  have e1 : c1 = cA := hu _ _ (hK1.2 tys.length (c1, ty) (by simp)).2 (hK.2 t0 _ ht).2
  subst e1
  exact kk q H1 hP1 hD1 hS1
theorem z_newq (hx : p.tables.exec = Jvm.exec) (hb : c.code = cc) {own C : String} {index : Nat} (hown : s.vm.findClass own = some m.cls) (hclink : (Cond.classLink own index C).before args s = true) (hover : va_AO C s) (hK : va_K D cl tys s) (hP : va_P D cl ws H) (hD : va_D A ws) (hS : va_S A H0 H locs) (hA : ∀ q, H0.size ≤ q → A q)
    (t0 : Nat) {cA : ClassId} (ht : tys[t0]? = some (cA, .object C)) {n : Int} {N : Nat} (n0 : 0 ≤ n) (n1 : n ≤ 2147483647) (hN : n.toNat = N) (hbytes : N * 4 ≤ 536870912) (hcells : cells + 1 ≤ R.cells) (hslots : slots + N ≤ R.slots) (d : decode cc pc = .ok (.anewarray index, 3))
    (kk : ∀ (q : Nat) (H1 : Heap), va_P D cl (ws ++ [(q, .inl (cA, N, .inr (.inr (.inr (.inr (aQ (fun _ => none)))))))]) H1 → va_D A (ws ++ [(q, .inl (cA, N, .inr (.inr (.inr (.inr (aQ (fun _ => none)))))))]) → va_S A H0 H1 locs →
      W p l e R s m args below meth c H1 locs (cells + 1) (slots + N) Q (F0 m (pc + 3) ls (.ref q :: rest))) : W p l e R s m args below meth c H locs cells slots Q (F0 m pc ls (.int (iZ n) :: rest)) := by
  refine va_newq hx hb hown hclink hover hK hP hD hS hA (fun h => absurd ((iZ_lt (by omega) n1 (by decide) (by decide)).mp (show iZ n < iZ 0 from h)) (by omega)) (by rw [iZ_nat n0 n1]; exact hN) hbytes hcells hslots d (fun q c1 H1 hK1 hP1 hD1 hS1 => ?_)
  have e1 : c1 = cA := ra_O _ _ (hK1.2 tys.length (c1, .object C) (by simp)).2 (hK.2 t0 _ ht).2
  subst e1
  exact kk q H1 hP1 hD1 hS1
theorem aQ_up (F : Int → Option Nat) {i : Int} (x : Option Nat) (h1 : 0 ≤ i) (h2 : i ≤ 2147483647) : va_up (aQ F) (iZ i).toNatClampNeg x = aQ (upZ F i x) := by
  funext n
  rw [iZ_nat h1 h2]
  by_cases h : n = i.toNat
  · subst h; rw [va_up_self]; show x = upZ F i x (i.toNat : Int); rw [Int.toNat_of_nonneg h1, upZ_s]
  · rw [va_up_ne _ _ h]; show F n = upZ F i x n; rw [upZ_n _ _ (by omega)]
theorem z_astq (hx : p.tables.exec = Jvm.exec) (hb : c.code = cc) (hK : va_K D cl tys s) (hP : va_P D cl ws H) (hD : va_D A ws) (hS : va_S A H0 H locs) (q0 t0 qk ci : Nat) {cA : ClassId} {r : vw_C} {n v : Nat} {vs : List Value} {F : Int → Option Nat} (ha : ws[q0]? = some (a, .inl (cA, n, .inr (.inr (.inr (.inr (aQ F))))))) (ht : tys[t0]? = some (cA, .object r.1)) (hv : ws[qk]? = some (v, .inr (ci, vs))) (hc : cl[ci]? = some r) {i : Int} (h1 : 0 ≤ i) (h2 : i < n) (hn : n < 2147483648) (d : decode cc pc = .ok (.aastore, 1))
    (kk : ∀ (H1 : Heap) (locs1 : List Loc), va_P D cl (ws.set q0 (a, .inl (cA, n, .inr (.inr (.inr (.inr (aQ (upZ F i (some v)))))))) ) H1 → va_D A (ws.set q0 (a, .inl (cA, n, .inr (.inr (.inr (.inr (aQ (upZ F i (some v))))))))) → va_S A H0 H1 locs1 → W p l e R s m args below meth c H1 locs1 cells slots Q (F0 m (pc + 1) ls rest)) : W p l e R s m args below meth c H locs cells slots Q (F0 m pc ls (.ref v :: .int (iZ i) :: .ref a :: rest)) := by
  refine va_astq hx hb hK hP hD hS q0 t0 qk ci ha ht hv hc (iZ_in h1 h2 hn) d (fun H1 locs1 hP1 hD1 hS1 => ?_)
  rw [aQ_up F (some v) h1 (by omega)] at hP1 hD1
  exact kk H1 locs1 hP1 hD1 hS1
end ZMK
/-- what the constructor of the class asks for: its cell, and words of private members of its nest -/
def nW (U : State) : Prop := va_Nw (.methodLinkNest "DotSheet" 9 ⟨"DotSheet$Paper", "<init>", "()V"⟩ "DotSheet") U ∧ va_Nw (.methodLinkNest "DotSheet" 27 ⟨"DotSheet$Draft", "<init>", "()V"⟩ "DotSheet") U ∧ va_Nw (.methodLinkNest "DotSheet" 38 ⟨"DotSheet$Font", "<init>", "()V"⟩ "DotSheet") U ∧ va_AO "DotSheet$Font" U
def zPn (D : va_G) (cl : List vw_C) (ws : va_W) (tys : List (ClassId × FieldType)) (sz : Nat) (U : State) : Prop := zPm D cl ws tys sz U ∧ nW U
theorem nW.calling {U : State} {g : JFrame} {mk : MethodId} {a : Array Value} (h : nW U) : nW (U.calling g mk a) := ⟨va_Nw.same (u := U) (U := U.calling g mk a) rfl rfl h.1, va_Nw.same (u := U) (U := U.calling g mk a) rfl rfl h.2.1, va_Nw.same (u := U) (U := U.calling g mk a) rfl rfl h.2.2.1, va_AO.moved (Vm.Alike.refl U.vm) h.2.2.2⟩
theorem nW.warm {s U : State} (hW : s.WarmedH U.vm) (h : nW s) : nW U := ⟨va_Nw.warmM hW h.1, va_Nw.warmM hW h.2.1, va_Nw.warmM hW h.2.2.1, va_AO.moved hW.alike h.2.2.2⟩
theorem zPn_blind {D : va_G} {cl : List vw_C} {av : List Value} {ws : va_W} {tys : List (ClassId × FieldType)} {sz : Nat} : FrameBlind (va_Pc av (zPn D cl ws tys sz)) := fun a U g mk q => ⟨q.1, (zPm_blind (av := av) a U g mk ⟨q.1, q.2.1⟩).2, q.2.2.calling⟩
theorem zPn_pre {D : va_G} {cl : List vw_C} {A : Nat → Prop} {H : Heap} {s : State} {av : List Value} {ws ws' : va_W} {tys tys' : List (ClassId × FieldType)} (hn9 : nW s) (hP : va_P D cl ws H) (hD : va_D A ws) (hK : va_K D cl tys s) (is js : List Nat) (hn : va_nd is = true) (h1 : is.map (fun i => ws[i]?) = ws'.map some) (h0 : is.filterMap (fun i => ws[i]?) = ws') (h2 : js.filterMap (fun i => tys[i]?) = tys') : ∀ U : State, U.heap = H → s.WarmedH U.vm → va_Pc av (zPn D cl ws' tys' H.size) av.toArray U :=
  fun U hU hW => ⟨rfl, (zPm_pre (av := av) hP hD hK is js hn h1 h0 h2 U hU hW).2, hn9.warm hW⟩
theorem d_Pa_init_0 : decode c_yPa_init 0 = .ok (.aload_n 0, 1) := by decide +kernel
theorem d_Pa_init_1 : decode c_yPa_init 1 = .ok (.invokespecial 5, 3) := by decide +kernel
theorem d_Pa_init_4 : decode c_yPa_init 4 = .ok (.aload_n 0, 1) := by decide +kernel
theorem d_Pa_init_5 : decode c_yPa_init 5 = .ok (.bipush 64, 2) := by decide +kernel
theorem d_Pa_init_7 : decode c_yPa_init 7 = .ok (.putfield 11, 3) := by decide +kernel
theorem d_Pa_init_10 : decode c_yPa_init 10 = .ok (.aload_n 0, 1) := by decide +kernel
theorem d_Pa_init_11 : decode c_yPa_init 11 = .ok (.bipush 64, 2) := by decide +kernel
theorem d_Pa_init_13 : decode c_yPa_init 13 = .ok (.putfield 15, 3) := by decide +kernel
theorem d_Pa_init_16 : decode c_yPa_init 16 = .ok (.aload_n 0, 1) := by decide +kernel
theorem d_Pa_init_17 : decode c_yPa_init 17 = .ok (.iconst 0, 1) := by decide +kernel
theorem d_Pa_init_18 : decode c_yPa_init 18 = .ok (.putfield 18, 3) := by decide +kernel
theorem d_Pa_init_21 : decode c_yPa_init 21 = .ok (.aload_n 0, 1) := by decide +kernel
theorem d_Pa_init_22 : decode c_yPa_init 22 = .ok (.sipush 16384, 3) := by decide +kernel
theorem d_Pa_init_25 : decode c_yPa_init 25 = .ok (.newarray .long, 2) := by decide +kernel
theorem d_Pa_init_27 : decode c_yPa_init 27 = .ok (.putfield 21, 3) := by decide +kernel
theorem d_Pa_init_30 : decode c_yPa_init 30 = .ok (.aload_n 0, 1) := by decide +kernel
theorem d_Pa_init_31 : decode c_yPa_init 31 = .ok (.sipush 16384, 3) := by decide +kernel
theorem d_Pa_init_34 : decode c_yPa_init 34 = .ok (.newarray .long, 2) := by decide +kernel
theorem d_Pa_init_36 : decode c_yPa_init 36 = .ok (.putfield 25, 3) := by decide +kernel
theorem d_Pa_init_39 : decode c_yPa_init 39 = .ok (.aload_n 0, 1) := by decide +kernel
theorem d_Pa_init_40 : decode c_yPa_init 40 = .ok (.bipush 64, 2) := by decide +kernel
theorem d_Pa_init_42 : decode c_yPa_init 42 = .ok (.newarray .long, 2) := by decide +kernel
theorem d_Pa_init_44 : decode c_yPa_init 44 = .ok (.putfield 28, 3) := by decide +kernel
theorem d_Pa_init_47 : decode c_yPa_init 47 = .ok (.return_, 1) := by decide +kernel
set_option maxHeartbeats 4000000 in
set_option maxRecDepth 100000 in
theorem c_Paper_init (l : Launch) (dC : Nat → ClassId) (dI : Nat → Nat → Nat) (hp : Nat) (cL : ClassId) (sz : Nat)  : Met l y_Pa_init w_Pa_init ({ frames := 1, cells := 3, slots := 32832, locals := 40 }) (va_Pc [.ref hp] (zPm (dC, dI) vwCl [(hp, .inr (2, [.int (iZ 0), .int (iZ 0), .int (iZ 0), .null, .null, .null]))] [(cL, .long)] sz)) (va_Qv (fun (u : Nat × Nat × Nat) => True) (fun u => zB (dC, dI) vwCl [(cL, .long)] (va_A [(hp, .inr (2, [.int (iZ 0), .int (iZ 0), .int (iZ 0), .null, .null, .null]))] sz) [(hp, .inr (2, [.int (iZ 64), .int (iZ 64), .int (iZ 0), .ref u.1, .ref u.2.1, .ref u.2.2])), (u.1, .inl (cL, 16384, .inr (.inl (aL (fun _ => lZ 0))))), (u.2.1, .inl (cL, 16384, .inr (.inl (aL (fun _ => lZ 0))))), (u.2.2, .inl (cL, 64, .inr (.inl (aL (fun _ => lZ 0)))))]) (va_A [(hp, .inr (2, [.int (iZ 0), .int (iZ 0), .int (iZ 0), .null, .null, .null]))] sz)) 3 32832 (va_A [(hp, .inr (2, [.int (iZ 0), .int (iZ 0), .int (iZ 0), .null, .null, .null]))] sz) := by
  refine Met.ofW (cc := c_yPa_init) (maxL := 1) (ret := none) (by decide) rfl ?_
  intro p e s m args below meth c s₁ B hml hv
  obtain ⟨rfl, hsz, hP, hK, hD0⟩ := hv
  have hx := B.exec
  have hb := B.bytes
  have hr := B.returns
  have hts0 := atoms_spec (ws := w_Pa_init) B.pre
  have hts : ∀ w ∈ gT, w.before _ s = true := fun w h => hts0 w (List.mem_cons_of_mem _ h)
  have hown : s.vm.findClass R_Pa = some m.cls := findClass_of_methodNamed B.named
  have hlocks := B.notSynchronized
  have hin : meth.name = "<init>" := (name_of_methodNamed B.named B.method).1
  subst hsz
  have hD := hD0.self (sz := s.heap.size)
  generalize hAe : va_A [(hp, .inr (2, [.int (iZ 0), .int (iZ 0), .int (iZ 0), .null, .null, .null]))] s.heap.size = A at hD ⊢
  have hA : ∀ q : Nat, s.heap.size ≤ q → A q := fun q h => by rw [← hAe]; exact Or.inr h
  obtain ⟨H, hH⟩ : ∃ H, s.heap = H := ⟨_, rfl⟩
  have hS : va_S A s.heap H [] := by rw [← hH]; exact va_S.rf
  rw [hH] at hP
  rw [hH]
  have hl := lv_entry ([.ref hp]) (n := 1) (Nat.le_of_ble_eq_true rfl)
  rw [lg_entry_eq]
  generalize (lg_sl ([.ref hp]) ++ List.replicate (1 - (lg_sl ([.ref hp])).length) Slot.unset).toArray = ls at hl ⊢
  have hl : lv_has ls 1 [(0, .ref hp)] := hl
  refine lv_aload_n hx hb d_Pa_init_0 rfl (lv_at hl 0 rfl) ?_
  refine W.objInit hx hb hown (hts _ t_32) (hts _ t_25) (hts _ t_26) rfl (by rw [hml]; exact hl.1) rfl d_Pa_init_1 (Nat.le_of_ble_eq_true rfl) (Nat.le_of_ble_eq_true rfl) ?_
  refine W.eq (g2 := F0 m 4 ls []) rfl ?_
  refine lv_aload_n hx hb d_Pa_init_4 rfl (lv_at hl 0 rfl) ?_
  refine lv_bipush (v := iZ (64)) hx hb d_Pa_init_5 (by decide) ?_
  refine va_put (D := (dC, dI)) (ci := 2) (v := .int (iZ 64)) (ty := .int) (C := R_Pa) (T := T_Pa) (N := 6) hx hb hts wi_Pa ty_Pa ty_Pa_ok nd_Pa hown hK hP hD hS 0 rfl rfl 0 (by decide) (hts _ t_33) (fun _ h9 => h9) rfl (by decide +kernel) rfl rfl (Nat.le_of_ble_eq_true rfl) d_Pa_init_7 (fun H locs hP hD hS => ?_)
  have hP : va_P (dC, dI) vwCl [(hp, .inr (2, [.int (iZ 64), .int (iZ 0), .int (iZ 0), .null, .null, .null]))] H := hP
  have hD : va_D A [(hp, .inr (2, [.int (iZ 64), .int (iZ 0), .int (iZ 0), .null, .null, .null]))] := hD
  refine lv_aload_n hx hb d_Pa_init_10 rfl (lv_at hl 0 rfl) ?_
  refine lv_bipush (v := iZ (64)) hx hb d_Pa_init_11 (by decide) ?_
  refine va_put (D := (dC, dI)) (ci := 2) (v := .int (iZ 64)) (ty := .int) (C := R_Pa) (T := T_Pa) (N := 6) hx hb hts wi_Pa ty_Pa ty_Pa_ok nd_Pa hown hK hP hD hS 0 rfl rfl 1 (by decide) (hts _ t_35) (fun _ h9 => h9) rfl (by decide +kernel) rfl rfl (Nat.le_of_ble_eq_true rfl) d_Pa_init_13 (fun H locs hP hD hS => ?_)
  have hP : va_P (dC, dI) vwCl [(hp, .inr (2, [.int (iZ 64), .int (iZ 64), .int (iZ 0), .null, .null, .null]))] H := hP
  have hD : va_D A [(hp, .inr (2, [.int (iZ 64), .int (iZ 64), .int (iZ 0), .null, .null, .null]))] := hD
  refine lv_aload_n hx hb d_Pa_init_16 rfl (lv_at hl 0 rfl) ?_
  refine lv_iconst (v := iZ (0)) hx hb d_Pa_init_17 rfl ?_
  refine va_put (D := (dC, dI)) (ci := 2) (v := .int (iZ 0)) (ty := .int) (C := R_Pa) (T := T_Pa) (N := 6) hx hb hts wi_Pa ty_Pa ty_Pa_ok nd_Pa hown hK hP hD hS 0 rfl rfl 2 (by decide) (hts _ t_37) (fun _ h9 => h9) rfl (by decide +kernel) rfl rfl (Nat.le_of_ble_eq_true rfl) d_Pa_init_18 (fun H locs hP hD hS => ?_)
  have hP : va_P (dC, dI) vwCl [(hp, .inr (2, [.int (iZ 64), .int (iZ 64), .int (iZ 0), .null, .null, .null]))] H := hP
  have hD : va_D A [(hp, .inr (2, [.int (iZ 64), .int (iZ 64), .int (iZ 0), .null, .null, .null]))] := hD
  refine lv_aload_n hx hb d_Pa_init_21 rfl (lv_at hl 0 rfl) ?_
  refine lv_sipush (v := iZ (16384)) hx hb d_Pa_init_22 (by decide) ?_
  refine z_newa (atype := .long) (a0 := (16384, .inr (.inl (aL (fun _ => lZ 0))))) hx hb (hts _ t_55) rfl ra_J hK hP hD hS hA 0 rfl (fun _ => rfl) (by omega) (by omega) rfl (Nat.le_of_ble_eq_true rfl) (Nat.le_of_ble_eq_true rfl) (Nat.le_of_ble_eq_true rfl) d_Pa_init_25 (fun q_25 H hP hD hS => ?_)
  have hP : va_P (dC, dI) vwCl [(hp, .inr (2, [.int (iZ 64), .int (iZ 64), .int (iZ 0), .null, .null, .null])), (q_25, .inl (cL, 16384, .inr (.inl (aL (fun _ => lZ 0)))))] H := hP
  have hD : va_D A [(hp, .inr (2, [.int (iZ 64), .int (iZ 64), .int (iZ 0), .null, .null, .null])), (q_25, .inl (cL, 16384, .inr (.inl (aL (fun _ => lZ 0)))))] := hD
  refine va_put (D := (dC, dI)) (ci := 2) (v := .ref q_25) (ty := .array .long) (C := R_Pa) (T := T_Pa) (N := 6) hx hb hts wi_Pa ty_Pa ty_Pa_ok nd_Pa hown hK hP hD hS 0 rfl rfl 3 (by decide) (hts _ t_39) (fun _ h9 => h9) rfl (by decide +kernel) rfl rfl (Nat.le_of_ble_eq_true rfl) d_Pa_init_27 (fun H locs hP hD hS => ?_)
  have hP : va_P (dC, dI) vwCl [(hp, .inr (2, [.int (iZ 64), .int (iZ 64), .int (iZ 0), .ref q_25, .null, .null])), (q_25, .inl (cL, 16384, .inr (.inl (aL (fun _ => lZ 0)))))] H := hP
  have hD : va_D A [(hp, .inr (2, [.int (iZ 64), .int (iZ 64), .int (iZ 0), .ref q_25, .null, .null])), (q_25, .inl (cL, 16384, .inr (.inl (aL (fun _ => lZ 0)))))] := hD
  refine lv_aload_n hx hb d_Pa_init_30 rfl (lv_at hl 0 rfl) ?_
  refine lv_sipush (v := iZ (16384)) hx hb d_Pa_init_31 (by decide) ?_
  refine z_newa (atype := .long) (a0 := (16384, .inr (.inl (aL (fun _ => lZ 0))))) hx hb (hts _ t_55) rfl ra_J hK hP hD hS hA 0 rfl (fun _ => rfl) (by omega) (by omega) rfl (Nat.le_of_ble_eq_true rfl) (Nat.le_of_ble_eq_true rfl) (Nat.le_of_ble_eq_true rfl) d_Pa_init_34 (fun q_34 H hP hD hS => ?_)
  have hP : va_P (dC, dI) vwCl [(hp, .inr (2, [.int (iZ 64), .int (iZ 64), .int (iZ 0), .ref q_25, .null, .null])), (q_25, .inl (cL, 16384, .inr (.inl (aL (fun _ => lZ 0))))), (q_34, .inl (cL, 16384, .inr (.inl (aL (fun _ => lZ 0)))))] H := hP
  have hD : va_D A [(hp, .inr (2, [.int (iZ 64), .int (iZ 64), .int (iZ 0), .ref q_25, .null, .null])), (q_25, .inl (cL, 16384, .inr (.inl (aL (fun _ => lZ 0))))), (q_34, .inl (cL, 16384, .inr (.inl (aL (fun _ => lZ 0)))))] := hD
  refine va_put (D := (dC, dI)) (ci := 2) (v := .ref q_34) (ty := .array .long) (C := R_Pa) (T := T_Pa) (N := 6) hx hb hts wi_Pa ty_Pa ty_Pa_ok nd_Pa hown hK hP hD hS 0 rfl rfl 4 (by decide) (hts _ t_40) (fun _ h9 => h9) rfl (by decide +kernel) rfl rfl (Nat.le_of_ble_eq_true rfl) d_Pa_init_36 (fun H locs hP hD hS => ?_)
  have hP : va_P (dC, dI) vwCl [(hp, .inr (2, [.int (iZ 64), .int (iZ 64), .int (iZ 0), .ref q_25, .ref q_34, .null])), (q_25, .inl (cL, 16384, .inr (.inl (aL (fun _ => lZ 0))))), (q_34, .inl (cL, 16384, .inr (.inl (aL (fun _ => lZ 0)))))] H := hP
  have hD : va_D A [(hp, .inr (2, [.int (iZ 64), .int (iZ 64), .int (iZ 0), .ref q_25, .ref q_34, .null])), (q_25, .inl (cL, 16384, .inr (.inl (aL (fun _ => lZ 0))))), (q_34, .inl (cL, 16384, .inr (.inl (aL (fun _ => lZ 0)))))] := hD
  refine lv_aload_n hx hb d_Pa_init_39 rfl (lv_at hl 0 rfl) ?_
  refine lv_bipush (v := iZ (64)) hx hb d_Pa_init_40 (by decide) ?_
  refine z_newa (atype := .long) (a0 := (64, .inr (.inl (aL (fun _ => lZ 0))))) hx hb (hts _ t_55) rfl ra_J hK hP hD hS hA 0 rfl (fun _ => rfl) (by omega) (by omega) rfl (Nat.le_of_ble_eq_true rfl) (Nat.le_of_ble_eq_true rfl) (Nat.le_of_ble_eq_true rfl) d_Pa_init_42 (fun q_42 H hP hD hS => ?_)
  have hP : va_P (dC, dI) vwCl [(hp, .inr (2, [.int (iZ 64), .int (iZ 64), .int (iZ 0), .ref q_25, .ref q_34, .null])), (q_25, .inl (cL, 16384, .inr (.inl (aL (fun _ => lZ 0))))), (q_34, .inl (cL, 16384, .inr (.inl (aL (fun _ => lZ 0))))), (q_42, .inl (cL, 64, .inr (.inl (aL (fun _ => lZ 0)))))] H := hP
  have hD : va_D A [(hp, .inr (2, [.int (iZ 64), .int (iZ 64), .int (iZ 0), .ref q_25, .ref q_34, .null])), (q_25, .inl (cL, 16384, .inr (.inl (aL (fun _ => lZ 0))))), (q_34, .inl (cL, 16384, .inr (.inl (aL (fun _ => lZ 0))))), (q_42, .inl (cL, 64, .inr (.inl (aL (fun _ => lZ 0)))))] := hD
  refine va_putF (D := (dC, dI)) (ci := 2) (v := .ref q_42) (ty := .array .long) (C := R_Pa) (T := T_Pa) (N := 6) hx hb hts wi_Pa ty_Pa ty_Pa_ok nd_Pa hown hK hP hD hS 0 rfl rfl 5 (by decide) (hts _ t_41) (fun _ h9 => h9) rfl hin rfl (by decide +kernel) rfl rfl (Nat.le_of_ble_eq_true rfl) d_Pa_init_44 (fun H locs hP hD hS => ?_)
  have hP : va_P (dC, dI) vwCl [(hp, .inr (2, [.int (iZ 64), .int (iZ 64), .int (iZ 0), .ref q_25, .ref q_34, .ref q_42])), (q_25, .inl (cL, 16384, .inr (.inl (aL (fun _ => lZ 0))))), (q_34, .inl (cL, 16384, .inr (.inl (aL (fun _ => lZ 0))))), (q_42, .inl (cL, 64, .inr (.inl (aL (fun _ => lZ 0)))))] H := hP
  have hD : va_D A [(hp, .inr (2, [.int (iZ 64), .int (iZ 64), .int (iZ 0), .ref q_25, .ref q_34, .ref q_42])), (q_25, .inl (cL, 16384, .inr (.inl (aL (fun _ => lZ 0))))), (q_34, .inl (cL, 16384, .inr (.inl (aL (fun _ => lZ 0))))), (q_42, .inl (cL, 64, .inr (.inl (aL (fun _ => lZ 0)))))] := hD
  exact W.vret hx hb hr (fun t ht hW => ⟨⟨((q_25, q_34, q_42)), rfl, trivial, by rw [ht]; exact hP, va_K.moved hW.alike hK, hD⟩, hS.F ht⟩) hS.2.2 d_Pa_init_47
theorem d_St_init_0 : decode c_ySt_init 0 = .ok (.aload_n 0, 1) := by decide +kernel
theorem d_St_init_1 : decode c_ySt_init 1 = .ok (.invokespecial 1, 3) := by decide +kernel
theorem d_St_init_4 : decode c_ySt_init 4 = .ok (.aload_n 0, 1) := by decide +kernel
theorem d_St_init_5 : decode c_ySt_init 5 = .ok (.aload_n 1, 1) := by decide +kernel
theorem d_St_init_6 : decode c_ySt_init 6 = .ok (.putfield 7, 3) := by decide +kernel
theorem d_St_init_9 : decode c_ySt_init 9 = .ok (.return_, 1) := by decide +kernel
set_option maxHeartbeats 4000000 in
set_option maxRecDepth 100000 in
theorem c_Steps_init (l : Launch) (dC : Nat → ClassId) (dI : Nat → Nat → Nat) (hst hp : Nat) (sz : Nat)  : Met l y_St_init w_St_init ({ frames := 1, cells := 0, slots := 0, locals := 40 }) (va_Pc [.ref hst, .ref hp] (zPm (dC, dI) vwCl [(hst, .inr (3, [.null, .int (iZ 0), .int (iZ 0), .int (iZ 0), .int (iZ 0), .int (iZ 0), .int (iZ 0), .int (iZ 0)]))] [] sz)) (va_Qv (fun (u : Unit) => True) (fun u => zB (dC, dI) vwCl [] (va_A [(hst, .inr (3, [.null, .int (iZ 0), .int (iZ 0), .int (iZ 0), .int (iZ 0), .int (iZ 0), .int (iZ 0), .int (iZ 0)]))] sz) [(hst, .inr (3, [.ref hp, .int (iZ 0), .int (iZ 0), .int (iZ 0), .int (iZ 0), .int (iZ 0), .int (iZ 0), .int (iZ 0)]))]) (va_A [(hst, .inr (3, [.null, .int (iZ 0), .int (iZ 0), .int (iZ 0), .int (iZ 0), .int (iZ 0), .int (iZ 0), .int (iZ 0)]))] sz)) 0 0 (va_A [(hst, .inr (3, [.null, .int (iZ 0), .int (iZ 0), .int (iZ 0), .int (iZ 0), .int (iZ 0), .int (iZ 0), .int (iZ 0)]))] sz) := by
  refine Met.ofW (cc := c_ySt_init) (maxL := 2) (ret := none) (by decide) rfl ?_
  intro p e s m args below meth c s₁ B hml hv
  obtain ⟨rfl, hsz, hP, hK, hD0⟩ := hv
  have hx := B.exec
  have hb := B.bytes
  have hr := B.returns
  have hts0 := atoms_spec (ws := w_St_init) B.pre
  have hts : ∀ w ∈ gT, w.before _ s = true := fun w h => hts0 w (List.mem_cons_of_mem _ h)
  have hown : s.vm.findClass R_St = some m.cls := findClass_of_methodNamed B.named
  have hlocks := B.notSynchronized
  have hin : meth.name = "<init>" := (name_of_methodNamed B.named B.method).1
  subst hsz
  have hD := hD0.self (sz := s.heap.size)
  generalize hAe : va_A [(hst, .inr (3, [.null, .int (iZ 0), .int (iZ 0), .int (iZ 0), .int (iZ 0), .int (iZ 0), .int (iZ 0), .int (iZ 0)]))] s.heap.size = A at hD ⊢
  have hA : ∀ q : Nat, s.heap.size ≤ q → A q := fun q h => by rw [← hAe]; exact Or.inr h
  obtain ⟨H, hH⟩ : ∃ H, s.heap = H := ⟨_, rfl⟩
  have hS : va_S A s.heap H [] := by rw [← hH]; exact va_S.rf
  rw [hH] at hP
  rw [hH]
  have hl := lv_entry ([.ref hst, .ref hp]) (n := 2) (Nat.le_of_ble_eq_true rfl)
  rw [lg_entry_eq]
  generalize (lg_sl ([.ref hst, .ref hp]) ++ List.replicate (2 - (lg_sl ([.ref hst, .ref hp])).length) Slot.unset).toArray = ls at hl ⊢
  have hl : lv_has ls 2 [(0, .ref hst), (1, .ref hp)] := hl
  refine lv_aload_n hx hb d_St_init_0 rfl (lv_at hl 0 rfl) ?_
  refine W.objInit hx hb hown (hts _ t_61) (hts _ t_25) (hts _ t_26) rfl (by rw [hml]; exact hl.1) rfl d_St_init_1 (Nat.le_of_ble_eq_true rfl) (Nat.le_of_ble_eq_true rfl) ?_
  refine W.eq (g2 := F0 m 4 ls []) rfl ?_
  refine lv_aload_n hx hb d_St_init_4 rfl (lv_at hl 0 rfl) ?_
  refine lv_aload_n hx hb d_St_init_5 rfl (lv_at hl 1 rfl) ?_
  refine va_putF (D := (dC, dI)) (ci := 3) (v := .ref hp) (ty := .object "DotSheet$Paper") (C := R_St) (T := T_St) (N := 8) hx hb hts wi_St ty_St ty_St_ok nd_St hown hK hP hD hS 0 rfl rfl 0 (by decide) (hts _ t_62) (fun _ h9 => h9) rfl hin rfl (by decide +kernel) rfl rfl (Nat.le_of_ble_eq_true rfl) d_St_init_6 (fun H locs hP hD hS => ?_)
  have hP : va_P (dC, dI) vwCl [(hst, .inr (3, [.ref hp, .int (iZ 0), .int (iZ 0), .int (iZ 0), .int (iZ 0), .int (iZ 0), .int (iZ 0), .int (iZ 0)]))] H := hP
  have hD : va_D A [(hst, .inr (3, [.ref hp, .int (iZ 0), .int (iZ 0), .int (iZ 0), .int (iZ 0), .int (iZ 0), .int (iZ 0), .int (iZ 0)]))] := hD
  exact W.vret hx hb hr (fun t ht hW => ⟨⟨(()), rfl, trivial, by rw [ht]; exact hP, va_K.moved hW.alike hK, hD⟩, hS.F ht⟩) hS.2.2 d_St_init_9
theorem d_Dr_init_0 : decode c_yDr_init 0 = .ok (.aload_n 0, 1) := by decide +kernel
theorem d_Dr_init_1 : decode c_yDr_init 1 = .ok (.invokespecial 1, 3) := by decide +kernel
theorem d_Dr_init_4 : decode c_yDr_init 4 = .ok (.aload_n 0, 1) := by decide +kernel
theorem d_Dr_init_5 : decode c_yDr_init 5 = .ok (.iconst 0, 1) := by decide +kernel
theorem d_Dr_init_6 : decode c_yDr_init 6 = .ok (.putfield 7, 3) := by decide +kernel
theorem d_Dr_init_9 : decode c_yDr_init 9 = .ok (.aload_n 0, 1) := by decide +kernel
theorem d_Dr_init_10 : decode c_yDr_init 10 = .ok (.sipush 4096, 3) := by decide +kernel
theorem d_Dr_init_13 : decode c_yDr_init 13 = .ok (.newarray .byte, 2) := by decide +kernel
theorem d_Dr_init_15 : decode c_yDr_init 15 = .ok (.putfield 13, 3) := by decide +kernel
theorem d_Dr_init_18 : decode c_yDr_init 18 = .ok (.return_, 1) := by decide +kernel
set_option maxHeartbeats 4000000 in
set_option maxRecDepth 100000 in
theorem c_Draft_init (l : Launch) (dC : Nat → ClassId) (dI : Nat → Nat → Nat) (hd : Nat) (cB : ClassId) (sz : Nat)  : Met l y_Dr_init w_Dr_init ({ frames := 1, cells := 1, slots := 4096, locals := 40 }) (va_Pc [.ref hd] (zPm (dC, dI) vwCl [(hd, .inr (0, [.int (iZ 0), .null]))] [(cB, .byte)] sz)) (va_Qv (fun (u : Nat) => True) (fun u => zB (dC, dI) vwCl [(cB, .byte)] (va_A [(hd, .inr (0, [.int (iZ 0), .null]))] sz) [(hd, .inr (0, [.int (iZ 0), .ref u])), (u, .inl (cB, 4096, .inl (aI (fun _ => iZ 0))))]) (va_A [(hd, .inr (0, [.int (iZ 0), .null]))] sz)) 1 4096 (va_A [(hd, .inr (0, [.int (iZ 0), .null]))] sz) := by
  refine Met.ofW (cc := c_yDr_init) (maxL := 1) (ret := none) (by decide) rfl ?_
  intro p e s m args below meth c s₁ B hml hv
  obtain ⟨rfl, hsz, hP, hK, hD0⟩ := hv
  have hx := B.exec
  have hb := B.bytes
  have hr := B.returns
  have hts0 := atoms_spec (ws := w_Dr_init) B.pre
  have hts : ∀ w ∈ gT, w.before _ s = true := fun w h => hts0 w (List.mem_cons_of_mem _ h)
  have hown : s.vm.findClass R_Dr = some m.cls := findClass_of_methodNamed B.named
  have hlocks := B.notSynchronized
  have hin : meth.name = "<init>" := (name_of_methodNamed B.named B.method).1
  subst hsz
  have hD := hD0.self (sz := s.heap.size)
  generalize hAe : va_A [(hd, .inr (0, [.int (iZ 0), .null]))] s.heap.size = A at hD ⊢
  have hA : ∀ q : Nat, s.heap.size ≤ q → A q := fun q h => by rw [← hAe]; exact Or.inr h
  obtain ⟨H, hH⟩ : ∃ H, s.heap = H := ⟨_, rfl⟩
  have hS : va_S A s.heap H [] := by rw [← hH]; exact va_S.rf
  rw [hH] at hP
  rw [hH]
  have hl := lv_entry ([.ref hd]) (n := 1) (Nat.le_of_ble_eq_true rfl)
  rw [lg_entry_eq]
  generalize (lg_sl ([.ref hd]) ++ List.replicate (1 - (lg_sl ([.ref hd])).length) Slot.unset).toArray = ls at hl ⊢
  have hl : lv_has ls 1 [(0, .ref hd)] := hl
  refine lv_aload_n hx hb d_Dr_init_0 rfl (lv_at hl 0 rfl) ?_
  refine W.objInit hx hb hown (hts _ t_92) (hts _ t_25) (hts _ t_26) rfl (by rw [hml]; exact hl.1) rfl d_Dr_init_1 (Nat.le_of_ble_eq_true rfl) (Nat.le_of_ble_eq_true rfl) ?_
  refine W.eq (g2 := F0 m 4 ls []) rfl ?_
  refine lv_aload_n hx hb d_Dr_init_4 rfl (lv_at hl 0 rfl) ?_
  refine lv_iconst (v := iZ (0)) hx hb d_Dr_init_5 rfl ?_
  refine va_put (D := (dC, dI)) (ci := 0) (v := .int (iZ 0)) (ty := .int) (C := R_Dr) (T := T_Dr) (N := 2) hx hb hts wi_Dr ty_Dr ty_Dr_ok nd_Dr hown hK hP hD hS 0 rfl rfl 0 (by decide) (hts _ t_93) (fun _ h9 => h9) rfl (by decide +kernel) rfl rfl (Nat.le_of_ble_eq_true rfl) d_Dr_init_6 (fun H locs hP hD hS => ?_)
  have hP : va_P (dC, dI) vwCl [(hd, .inr (0, [.int (iZ 0), .null]))] H := hP
  have hD : va_D A [(hd, .inr (0, [.int (iZ 0), .null]))] := hD
  refine lv_aload_n hx hb d_Dr_init_9 rfl (lv_at hl 0 rfl) ?_
  refine lv_sipush (v := iZ (4096)) hx hb d_Dr_init_10 (by decide) ?_
  refine z_newa (atype := .byte) (a0 := (4096, .inl (aI (fun _ => iZ 0)))) hx hb (hts _ t_101) rfl ra_B hK hP hD hS hA 0 rfl (fun _ => rfl) (by omega) (by omega) rfl (Nat.le_of_ble_eq_true rfl) (Nat.le_of_ble_eq_true rfl) (Nat.le_of_ble_eq_true rfl) d_Dr_init_13 (fun q_13 H hP hD hS => ?_)
  have hP : va_P (dC, dI) vwCl [(hd, .inr (0, [.int (iZ 0), .null])), (q_13, .inl (cB, 4096, .inl (aI (fun _ => iZ 0))))] H := hP
  have hD : va_D A [(hd, .inr (0, [.int (iZ 0), .null])), (q_13, .inl (cB, 4096, .inl (aI (fun _ => iZ 0))))] := hD
  refine va_putF (D := (dC, dI)) (ci := 0) (v := .ref q_13) (ty := .array .byte) (C := R_Dr) (T := T_Dr) (N := 2) hx hb hts wi_Dr ty_Dr ty_Dr_ok nd_Dr hown hK hP hD hS 0 rfl rfl 1 (by decide) (hts _ t_95) (fun _ h9 => h9) rfl hin rfl (by decide +kernel) rfl rfl (Nat.le_of_ble_eq_true rfl) d_Dr_init_15 (fun H locs hP hD hS => ?_)
  have hP : va_P (dC, dI) vwCl [(hd, .inr (0, [.int (iZ 0), .ref q_13])), (q_13, .inl (cB, 4096, .inl (aI (fun _ => iZ 0))))] H := hP
  have hD : va_D A [(hd, .inr (0, [.int (iZ 0), .ref q_13])), (q_13, .inl (cB, 4096, .inl (aI (fun _ => iZ 0))))] := hD
  exact W.vret hx hb hr (fun t ht hW => ⟨⟨q_13, rfl, trivial, by rw [ht]; exact hP, va_K.moved hW.alike hK, hD⟩, hS.F ht⟩) hS.2.2 d_Dr_init_18
theorem d_Fo_init_0 : decode c_yFo_init 0 = .ok (.aload_n 0, 1) := by decide +kernel
theorem d_Fo_init_1 : decode c_yFo_init 1 = .ok (.invokespecial 1, 3) := by decide +kernel
theorem d_Fo_init_4 : decode c_yFo_init 4 = .ok (.aload_n 0, 1) := by decide +kernel
theorem d_Fo_init_5 : decode c_yFo_init 5 = .ok (.bipush 8, 2) := by decide +kernel
theorem d_Fo_init_7 : decode c_yFo_init 7 = .ok (.putfield 7, 3) := by decide +kernel
theorem d_Fo_init_10 : decode c_yFo_init 10 = .ok (.aload_n 0, 1) := by decide +kernel
theorem d_Fo_init_11 : decode c_yFo_init 11 = .ok (.bipush 8, 2) := by decide +kernel
theorem d_Fo_init_13 : decode c_yFo_init 13 = .ok (.putfield 13, 3) := by decide +kernel
theorem d_Fo_init_16 : decode c_yFo_init 16 = .ok (.aload_n 0, 1) := by decide +kernel
theorem d_Fo_init_17 : decode c_yFo_init 17 = .ok (.iconst 0, 1) := by decide +kernel
theorem d_Fo_init_18 : decode c_yFo_init 18 = .ok (.putfield 16, 3) := by decide +kernel
theorem d_Fo_init_21 : decode c_yFo_init 21 = .ok (.aload_n 0, 1) := by decide +kernel
theorem d_Fo_init_22 : decode c_yFo_init 22 = .ok (.sipush 8192, 3) := by decide +kernel
theorem d_Fo_init_25 : decode c_yFo_init 25 = .ok (.newarray .int, 2) := by decide +kernel
theorem d_Fo_init_27 : decode c_yFo_init 27 = .ok (.putfield 19, 3) := by decide +kernel
theorem d_Fo_init_30 : decode c_yFo_init 30 = .ok (.return_, 1) := by decide +kernel
set_option maxHeartbeats 4000000 in
set_option maxRecDepth 100000 in
theorem c_Font_init (l : Launch) (dC : Nat → ClassId) (dI : Nat → Nat → Nat) (hf : Nat) (cI : ClassId) (sz : Nat)  : Met l y_Fo_init w_Fo_init ({ frames := 1, cells := 1, slots := 8192, locals := 40 }) (va_Pc [.ref hf] (zPm (dC, dI) vwCl [(hf, .inr (1, [.int (iZ 0), .int (iZ 0), .int (iZ 0), .null]))] [(cI, .int)] sz)) (va_Qv (fun (u : Nat) => True) (fun u => zB (dC, dI) vwCl [(cI, .int)] (va_A [(hf, .inr (1, [.int (iZ 0), .int (iZ 0), .int (iZ 0), .null]))] sz) [(hf, .inr (1, [.int (iZ 8), .int (iZ 8), .int (iZ 0), .ref u])), (u, .inl (cI, 8192, .inl (aI (fun _ => iZ 0))))]) (va_A [(hf, .inr (1, [.int (iZ 0), .int (iZ 0), .int (iZ 0), .null]))] sz)) 1 8192 (va_A [(hf, .inr (1, [.int (iZ 0), .int (iZ 0), .int (iZ 0), .null]))] sz) := by
  refine Met.ofW (cc := c_yFo_init) (maxL := 1) (ret := none) (by decide) rfl ?_
  intro p e s m args below meth c s₁ B hml hv
  obtain ⟨rfl, hsz, hP, hK, hD0⟩ := hv
  have hx := B.exec
  have hb := B.bytes
  have hr := B.returns
  have hts0 := atoms_spec (ws := w_Fo_init) B.pre
  have hts : ∀ w ∈ gT, w.before _ s = true := fun w h => hts0 w (List.mem_cons_of_mem _ h)
  have hown : s.vm.findClass R_Fo = some m.cls := findClass_of_methodNamed B.named
  have hlocks := B.notSynchronized
  have hin : meth.name = "<init>" := (name_of_methodNamed B.named B.method).1
  subst hsz
  have hD := hD0.self (sz := s.heap.size)
  generalize hAe : va_A [(hf, .inr (1, [.int (iZ 0), .int (iZ 0), .int (iZ 0), .null]))] s.heap.size = A at hD ⊢
  have hA : ∀ q : Nat, s.heap.size ≤ q → A q := fun q h => by rw [← hAe]; exact Or.inr h
  obtain ⟨H, hH⟩ : ∃ H, s.heap = H := ⟨_, rfl⟩
  have hS : va_S A s.heap H [] := by rw [← hH]; exact va_S.rf
  rw [hH] at hP
  rw [hH]
  have hl := lv_entry ([.ref hf]) (n := 1) (Nat.le_of_ble_eq_true rfl)
  rw [lg_entry_eq]
  generalize (lg_sl ([.ref hf]) ++ List.replicate (1 - (lg_sl ([.ref hf])).length) Slot.unset).toArray = ls at hl ⊢
  have hl : lv_has ls 1 [(0, .ref hf)] := hl
  refine lv_aload_n hx hb d_Fo_init_0 rfl (lv_at hl 0 rfl) ?_
  refine W.objInit hx hb hown (hts _ t_108) (hts _ t_25) (hts _ t_26) rfl (by rw [hml]; exact hl.1) rfl d_Fo_init_1 (Nat.le_of_ble_eq_true rfl) (Nat.le_of_ble_eq_true rfl) ?_
  refine W.eq (g2 := F0 m 4 ls []) rfl ?_
  refine lv_aload_n hx hb d_Fo_init_4 rfl (lv_at hl 0 rfl) ?_
  refine lv_bipush (v := iZ (8)) hx hb d_Fo_init_5 (by decide) ?_
  refine va_put (D := (dC, dI)) (ci := 1) (v := .int (iZ 8)) (ty := .int) (C := R_Fo) (T := T_Fo) (N := 4) hx hb hts wi_Fo ty_Fo ty_Fo_ok nd_Fo hown hK hP hD hS 0 rfl rfl 0 (by decide) (hts _ t_109) (fun _ h9 => h9) rfl (by decide +kernel) rfl rfl (Nat.le_of_ble_eq_true rfl) d_Fo_init_7 (fun H locs hP hD hS => ?_)
  have hP : va_P (dC, dI) vwCl [(hf, .inr (1, [.int (iZ 8), .int (iZ 0), .int (iZ 0), .null]))] H := hP
  have hD : va_D A [(hf, .inr (1, [.int (iZ 8), .int (iZ 0), .int (iZ 0), .null]))] := hD
  refine lv_aload_n hx hb d_Fo_init_10 rfl (lv_at hl 0 rfl) ?_
  refine lv_bipush (v := iZ (8)) hx hb d_Fo_init_11 (by decide) ?_
  refine va_put (D := (dC, dI)) (ci := 1) (v := .int (iZ 8)) (ty := .int) (C := R_Fo) (T := T_Fo) (N := 4) hx hb hts wi_Fo ty_Fo ty_Fo_ok nd_Fo hown hK hP hD hS 0 rfl rfl 1 (by decide) (hts _ t_111) (fun _ h9 => h9) rfl (by decide +kernel) rfl rfl (Nat.le_of_ble_eq_true rfl) d_Fo_init_13 (fun H locs hP hD hS => ?_)
  have hP : va_P (dC, dI) vwCl [(hf, .inr (1, [.int (iZ 8), .int (iZ 8), .int (iZ 0), .null]))] H := hP
  have hD : va_D A [(hf, .inr (1, [.int (iZ 8), .int (iZ 8), .int (iZ 0), .null]))] := hD
  refine lv_aload_n hx hb d_Fo_init_16 rfl (lv_at hl 0 rfl) ?_
  refine lv_iconst (v := iZ (0)) hx hb d_Fo_init_17 rfl ?_
  refine va_put (D := (dC, dI)) (ci := 1) (v := .int (iZ 0)) (ty := .int) (C := R_Fo) (T := T_Fo) (N := 4) hx hb hts wi_Fo ty_Fo ty_Fo_ok nd_Fo hown hK hP hD hS 0 rfl rfl 2 (by decide) (hts _ t_113) (fun _ h9 => h9) rfl (by decide +kernel) rfl rfl (Nat.le_of_ble_eq_true rfl) d_Fo_init_18 (fun H locs hP hD hS => ?_)
  have hP : va_P (dC, dI) vwCl [(hf, .inr (1, [.int (iZ 8), .int (iZ 8), .int (iZ 0), .null]))] H := hP
  have hD : va_D A [(hf, .inr (1, [.int (iZ 8), .int (iZ 8), .int (iZ 0), .null]))] := hD
  refine lv_aload_n hx hb d_Fo_init_21 rfl (lv_at hl 0 rfl) ?_
  refine lv_sipush (v := iZ (8192)) hx hb d_Fo_init_22 (by decide) ?_
  refine z_newa (atype := .int) (a0 := (8192, .inl (aI (fun _ => iZ 0)))) hx hb (hts _ t_125) rfl ra_I hK hP hD hS hA 0 rfl (fun _ => rfl) (by omega) (by omega) rfl (Nat.le_of_ble_eq_true rfl) (Nat.le_of_ble_eq_true rfl) (Nat.le_of_ble_eq_true rfl) d_Fo_init_25 (fun q_25 H hP hD hS => ?_)
  have hP : va_P (dC, dI) vwCl [(hf, .inr (1, [.int (iZ 8), .int (iZ 8), .int (iZ 0), .null])), (q_25, .inl (cI, 8192, .inl (aI (fun _ => iZ 0))))] H := hP
  have hD : va_D A [(hf, .inr (1, [.int (iZ 8), .int (iZ 8), .int (iZ 0), .null])), (q_25, .inl (cI, 8192, .inl (aI (fun _ => iZ 0))))] := hD
  refine va_putF (D := (dC, dI)) (ci := 1) (v := .ref q_25) (ty := .array .int) (C := R_Fo) (T := T_Fo) (N := 4) hx hb hts wi_Fo ty_Fo ty_Fo_ok nd_Fo hown hK hP hD hS 0 rfl rfl 3 (by decide) (hts _ t_115) (fun _ h9 => h9) rfl hin rfl (by decide +kernel) rfl rfl (Nat.le_of_ble_eq_true rfl) d_Fo_init_27 (fun H locs hP hD hS => ?_)
  have hP : va_P (dC, dI) vwCl [(hf, .inr (1, [.int (iZ 8), .int (iZ 8), .int (iZ 0), .ref q_25])), (q_25, .inl (cI, 8192, .inl (aI (fun _ => iZ 0))))] H := hP
  have hD : va_D A [(hf, .inr (1, [.int (iZ 8), .int (iZ 8), .int (iZ 0), .ref q_25])), (q_25, .inl (cI, 8192, .inl (aI (fun _ => iZ 0))))] := hD
  exact W.vret hx hb hr (fun t ht hW => ⟨⟨q_25, rfl, trivial, by rw [ht]; exact hP, va_K.moved hW.alike hK, hD⟩, hS.F ht⟩) hS.2.2 d_Fo_init_30
theorem d_D_init_0 : decode c_yD_init 0 = .ok (.aload_n 0, 1) := by decide +kernel
theorem d_D_init_1 : decode c_yD_init 1 = .ok (.invokespecial 1, 3) := by decide +kernel
theorem d_D_init_4 : decode c_yD_init 4 = .ok (.aload_n 0, 1) := by decide +kernel
theorem d_D_init_5 : decode c_yD_init 5 = .ok (.new 7, 3) := by decide +kernel
theorem d_D_init_8 : decode c_yD_init 8 = .ok (.dup, 1) := by decide +kernel
theorem d_D_init_9 : decode c_yD_init 9 = .ok (.invokespecial 9, 3) := by decide +kernel
theorem d_D_init_12 : decode c_yD_init 12 = .ok (.putfield 10, 3) := by decide +kernel
theorem d_D_init_15 : decode c_yD_init 15 = .ok (.aload_n 0, 1) := by decide +kernel
theorem d_D_init_16 : decode c_yD_init 16 = .ok (.new 16, 3) := by decide +kernel
theorem d_D_init_19 : decode c_yD_init 19 = .ok (.dup, 1) := by decide +kernel
theorem d_D_init_20 : decode c_yD_init 20 = .ok (.aload_n 0, 1) := by decide +kernel
theorem d_D_init_21 : decode c_yD_init 21 = .ok (.getfield 10, 3) := by decide +kernel
theorem d_D_init_24 : decode c_yD_init 24 = .ok (.invokespecial 18, 3) := by decide +kernel
theorem d_D_init_27 : decode c_yD_init 27 = .ok (.putfield 21, 3) := by decide +kernel
theorem d_D_init_30 : decode c_yD_init 30 = .ok (.aload_n 0, 1) := by decide +kernel
theorem d_D_init_31 : decode c_yD_init 31 = .ok (.new 25, 3) := by decide +kernel
theorem d_D_init_34 : decode c_yD_init 34 = .ok (.dup, 1) := by decide +kernel
theorem d_D_init_35 : decode c_yD_init 35 = .ok (.invokespecial 27, 3) := by decide +kernel
theorem d_D_init_38 : decode c_yD_init 38 = .ok (.putfield 28, 3) := by decide +kernel
theorem d_D_init_41 : decode c_yD_init 41 = .ok (.aload_n 0, 1) := by decide +kernel
theorem d_D_init_42 : decode c_yD_init 42 = .ok (.iconst 4, 1) := by decide +kernel
theorem d_D_init_43 : decode c_yD_init 43 = .ok (.anewarray 32, 3) := by decide +kernel
theorem d_D_init_46 : decode c_yD_init 46 = .ok (.putfield 34, 3) := by decide +kernel
theorem d_D_init_49 : decode c_yD_init 49 = .ok (.iconst 0, 1) := by decide +kernel
theorem d_D_init_50 : decode c_yD_init 50 = .ok (.istore_n 1, 1) := by decide +kernel
theorem d_D_init_51 : decode c_yD_init 51 = .ok (.iload_n 1, 1) := by decide +kernel
theorem d_D_init_52 : decode c_yD_init 52 = .ok (.iconst 4, 1) := by decide +kernel
theorem d_D_init_53 : decode c_yD_init 53 = .ok (.if_icmp .ge 22, 3) := by decide +kernel
theorem d_D_init_56 : decode c_yD_init 56 = .ok (.aload_n 0, 1) := by decide +kernel
theorem d_D_init_57 : decode c_yD_init 57 = .ok (.getfield 34, 3) := by decide +kernel
theorem d_D_init_60 : decode c_yD_init 60 = .ok (.iload_n 1, 1) := by decide +kernel
theorem d_D_init_61 : decode c_yD_init 61 = .ok (.new 32, 3) := by decide +kernel
theorem d_D_init_64 : decode c_yD_init 64 = .ok (.dup, 1) := by decide +kernel
theorem d_D_init_65 : decode c_yD_init 65 = .ok (.invokespecial 38, 3) := by decide +kernel
theorem d_D_init_68 : decode c_yD_init 68 = .ok (.aastore, 1) := by decide +kernel
theorem d_D_init_69 : decode c_yD_init 69 = .ok (.iinc 1 1, 3) := by decide +kernel
theorem d_D_init_72 : decode c_yD_init 72 = .ok (.goto (-21), 3) := by decide +kernel
theorem d_D_init_75 : decode c_yD_init 75 = .ok (.return_, 1) := by decide +kernel
set_option maxHeartbeats 4000000 in
set_option maxRecDepth 100000 in
theorem c_DotSheet_init (l : Launch) (dC : Nat → ClassId) (dI : Nat → Nat → Nat) (hx_ : Nat) (cL cB cI cF : ClassId) (sz : Nat)  : Met l y_D_init w_D_init ({ frames := 2, cells := 16, slots := 69732, locals := 61 }) (va_Pc [.ref hx_] (zPn (dC, dI) vwCl [(hx_, .inr (4, [.null, .null, .null, .null]))] [(cL, .long), (cB, .byte), (cI, .int), (cF, .object "DotSheet$Font")] sz)) (va_Qv (fun (u : (Nat → Nat) × (Int → Option Nat)) => u.2 0 = some (u.1 8) ∧ u.2 1 = some (u.1 10) ∧ u.2 2 = some (u.1 12) ∧ u.2 3 = some (u.1 14)) (fun u => zB (dC, dI) vwCl [(cL, .long), (cB, .byte), (cI, .int), (cF, .object "DotSheet$Font")] (va_A [(hx_, .inr (4, [.null, .null, .null, .null]))] sz) [(hx_, .inr (4, [.ref (u.1 0), .ref (u.1 4), .ref (u.1 5), .ref (u.1 7)])), ((u.1 0), .inr (2, [.int (iZ 64), .int (iZ 64), .int (iZ 0), .ref (u.1 1), .ref (u.1 2), .ref (u.1 3)])), ((u.1 1), .inl (cL, 16384, .inr (.inl (aL (fun _ => lZ 0))))), ((u.1 2), .inl (cL, 16384, .inr (.inl (aL (fun _ => lZ 0))))), ((u.1 3), .inl (cL, 64, .inr (.inl (aL (fun _ => lZ 0))))), ((u.1 4), .inr (3, [.ref (u.1 0), .int (iZ 0), .int (iZ 0), .int (iZ 0), .int (iZ 0), .int (iZ 0), .int (iZ 0), .int (iZ 0)])), ((u.1 5), .inr (0, [.int (iZ 0), .ref (u.1 6)])), ((u.1 6), .inl (cB, 4096, .inl (aI (fun _ => iZ 0)))), ((u.1 7), .inl (cF, 4, .inr (.inr (.inr (.inr (aQ u.2)))))), ((u.1 8), .inr (1, [.int (iZ 8), .int (iZ 8), .int (iZ 0), .ref (u.1 9)])), ((u.1 9), .inl (cI, 8192, .inl (aI (fun _ => iZ 0)))), ((u.1 10), .inr (1, [.int (iZ 8), .int (iZ 8), .int (iZ 0), .ref (u.1 11)])), ((u.1 11), .inl (cI, 8192, .inl (aI (fun _ => iZ 0)))), ((u.1 12), .inr (1, [.int (iZ 8), .int (iZ 8), .int (iZ 0), .ref (u.1 13)])), ((u.1 13), .inl (cI, 8192, .inl (aI (fun _ => iZ 0)))), ((u.1 14), .inr (1, [.int (iZ 8), .int (iZ 8), .int (iZ 0), .ref (u.1 15)])), ((u.1 15), .inl (cI, 8192, .inl (aI (fun _ => iZ 0))))]) (va_A [(hx_, .inr (4, [.null, .null, .null, .null]))] sz)) 16 69732 (va_A [(hx_, .inr (4, [.null, .null, .null, .null]))] sz) := by
  refine Met.ofW (cc := c_yD_init) (maxL := 2) (ret := none) (by decide) rfl ?_
  intro p e s m args below meth c s₁ B hml hv
  obtain ⟨rfl, ⟨hsz, hP, hK, hD0⟩, hn9⟩ := hv
  have hx := B.exec
  have hb := B.bytes
  have hr := B.returns
  have hts0 := atoms_spec (ws := w_D_init) B.pre
  have hts : ∀ w ∈ gT, w.before _ s = true := fun w h => hts0 w (List.mem_cons_of_mem _ h)
  have hown : s.vm.findClass R_D = some m.cls := findClass_of_methodNamed B.named
  have hlocks := B.notSynchronized
  have hin : meth.name = "<init>" := (name_of_methodNamed B.named B.method).1
  subst hsz
  have hD := hD0.self (sz := s.heap.size)
  generalize hAe : va_A [(hx_, .inr (4, [.null, .null, .null, .null]))] s.heap.size = A at hD ⊢
  have hA : ∀ q : Nat, s.heap.size ≤ q → A q := fun q h => by rw [← hAe]; exact Or.inr h
  obtain ⟨H, hH⟩ : ∃ H, s.heap = H := ⟨_, rfl⟩
  have hS : va_S A s.heap H [] := by rw [← hH]; exact va_S.rf
  rw [hH] at hP
  rw [hH]
  have hl := lv_entry ([.ref hx_]) (n := 2) (Nat.le_of_ble_eq_true rfl)
  rw [lg_entry_eq]
  generalize (lg_sl ([.ref hx_]) ++ List.replicate (2 - (lg_sl ([.ref hx_])).length) Slot.unset).toArray = ls at hl ⊢
  have hl : lv_has ls 2 [(0, .ref hx_)] := hl
  refine lv_aload_n hx hb d_D_init_0 rfl (lv_at hl 0 rfl) ?_
  refine W.objInit hx hb hown (hts _ t_24) (hts _ t_25) (hts _ t_26) rfl (by rw [hml]; exact hl.1) rfl d_D_init_1 (Nat.le_of_ble_eq_true rfl) (Nat.le_of_ble_eq_true rfl) ?_
  refine W.eq (g2 := F0 m 4 ls []) rfl ?_
  refine lv_aload_n hx hb d_D_init_4 rfl (lv_at hl 0 rfl) ?_
  refine va_new (ci := 2) (fs := [.int (iZ 0), .int (iZ 0), .int (iZ 0), .null, .null, .null]) (C := R_Pa) (T := T_Pa) (N := 6) hx hb hts wi_Pa ty_Pa ty_Pa_ok hown (hts _ t_27) (hts _ t_28) (hts _ t_2) hK hP hD hS hA rfl (fun j hj => by rcases (show j = 0 ∨ j = 1 ∨ j = 2 ∨ j = 3 ∨ j = 4 ∨ j = 5 by omega) with rfl | rfl | rfl | rfl | rfl | rfl <;> rfl) (Nat.le_of_ble_eq_true rfl) (Nat.le_of_ble_eq_true rfl) d_D_init_5 (fun q_5 H hP hD hS => ?_)
  have hP : va_P (dC, dI) vwCl [(hx_, .inr (4, [.null, .null, .null, .null])), (q_5, .inr (2, [.int (iZ 0), .int (iZ 0), .int (iZ 0), .null, .null, .null]))] H := hP
  have hD : va_D A [(hx_, .inr (4, [.null, .null, .null, .null])), (q_5, .inr (2, [.int (iZ 0), .int (iZ 0), .int (iZ 0), .null, .null, .null]))] := hD
  refine lv_dup hx hb d_D_init_8 rfl ?_
  refine zc_v (w1 := fun (u_9 : Nat × Nat × Nat) => [(q_5, .inr (2, [.int (iZ 64), .int (iZ 64), .int (iZ 0), .ref u_9.1, .ref u_9.2.1, .ref u_9.2.2])), (u_9.1, .inl (cL, 16384, .inr (.inl (aL (fun _ => lZ 0))))), (u_9.2.1, .inl (cL, 16384, .inr (.inl (aL (fun _ => lZ 0))))), (u_9.2.2, .inl (cL, 64, .inr (.inl (aL (fun _ => lZ 0)))))]) (wr := [(hx_, .inr (4, [.null, .null, .null, .null]))]) (va_runIN (As := []) (rest := [.ref q_5, .ref hx_]) ⟨hx, hb, hml, hown, hts⟩ (c_Paper_init l dC dI q_5 cL H.size ) ⟨va_cnB 0 hts (gC t_31) rfl rfl rfl hn9.1 (hts _ t_2) (by decide +kernel) ⟨Nat.le_of_ble_eq_true rfl, Nat.le_of_ble_eq_true rfl⟩, rfl, hts _ t_30⟩ ⟨zPm_blind, zPm_pre hP hD hK [1] [0] rfl rfl rfl rfl⟩ rfl rfl hl.1 rfl (lv_room (Nat.le_of_ble_eq_true rfl)) d_D_init_9 ⟨Nat.le_of_ble_eq_true rfl, Nat.le_of_ble_eq_true rfl⟩) hP hD hS hA [1] [0] rfl rfl rfl (by decide) (fun u_9 H locs q_9 hP hD hS => ?_)
  have hP : va_P (dC, dI) vwCl [(hx_, .inr (4, [.null, .null, .null, .null])), (q_5, .inr (2, [.int (iZ 64), .int (iZ 64), .int (iZ 0), .ref u_9.1, .ref u_9.2.1, .ref u_9.2.2])), (u_9.1, .inl (cL, 16384, .inr (.inl (aL (fun _ => lZ 0))))), (u_9.2.1, .inl (cL, 16384, .inr (.inl (aL (fun _ => lZ 0))))), (u_9.2.2, .inl (cL, 64, .inr (.inl (aL (fun _ => lZ 0)))))] H := hP
  have hD : va_D A [(hx_, .inr (4, [.null, .null, .null, .null])), (q_5, .inr (2, [.int (iZ 64), .int (iZ 64), .int (iZ 0), .ref u_9.1, .ref u_9.2.1, .ref u_9.2.2])), (u_9.1, .inl (cL, 16384, .inr (.inl (aL (fun _ => lZ 0))))), (u_9.2.1, .inl (cL, 16384, .inr (.inl (aL (fun _ => lZ 0))))), (u_9.2.2, .inl (cL, 64, .inr (.inl (aL (fun _ => lZ 0)))))] := hD
  refine va_putF (D := (dC, dI)) (ci := 4) (v := .ref q_5) (ty := .object "DotSheet$Paper") (C := R_D) (T := T_D) (N := 4) hx hb hts wi_D ty_D ty_D_ok nd_D hown hK hP hD hS 0 rfl rfl 0 (by decide) (hts _ t_126) (fun _ h9 => h9) rfl hin rfl (by decide +kernel) rfl rfl (Nat.le_of_ble_eq_true rfl) d_D_init_12 (fun H locs hP hD hS => ?_)
  have hP : va_P (dC, dI) vwCl [(hx_, .inr (4, [.ref q_5, .null, .null, .null])), (q_5, .inr (2, [.int (iZ 64), .int (iZ 64), .int (iZ 0), .ref u_9.1, .ref u_9.2.1, .ref u_9.2.2])), (u_9.1, .inl (cL, 16384, .inr (.inl (aL (fun _ => lZ 0))))), (u_9.2.1, .inl (cL, 16384, .inr (.inl (aL (fun _ => lZ 0))))), (u_9.2.2, .inl (cL, 64, .inr (.inl (aL (fun _ => lZ 0)))))] H := hP
  have hD : va_D A [(hx_, .inr (4, [.ref q_5, .null, .null, .null])), (q_5, .inr (2, [.int (iZ 64), .int (iZ 64), .int (iZ 0), .ref u_9.1, .ref u_9.2.1, .ref u_9.2.2])), (u_9.1, .inl (cL, 16384, .inr (.inl (aL (fun _ => lZ 0))))), (u_9.2.1, .inl (cL, 16384, .inr (.inl (aL (fun _ => lZ 0))))), (u_9.2.2, .inl (cL, 64, .inr (.inl (aL (fun _ => lZ 0)))))] := hD
  refine lv_aload_n hx hb d_D_init_15 rfl (lv_at hl 0 rfl) ?_
  refine va_new (ci := 3) (fs := [.null, .int (iZ 0), .int (iZ 0), .int (iZ 0), .int (iZ 0), .int (iZ 0), .int (iZ 0), .int (iZ 0)]) (C := R_St) (T := T_St) (N := 8) hx hb hts wi_St ty_St ty_St_ok hown (hts _ t_56) (hts _ t_57) (hts _ t_3) hK hP hD hS hA rfl (fun j hj => by rcases (show j = 0 ∨ j = 1 ∨ j = 2 ∨ j = 3 ∨ j = 4 ∨ j = 5 ∨ j = 6 ∨ j = 7 by omega) with rfl | rfl | rfl | rfl | rfl | rfl | rfl | rfl <;> rfl) (Nat.le_of_ble_eq_true rfl) (Nat.le_of_ble_eq_true rfl) d_D_init_16 (fun q_16 H hP hD hS => ?_)
  have hP : va_P (dC, dI) vwCl [(hx_, .inr (4, [.ref q_5, .null, .null, .null])), (q_5, .inr (2, [.int (iZ 64), .int (iZ 64), .int (iZ 0), .ref u_9.1, .ref u_9.2.1, .ref u_9.2.2])), (u_9.1, .inl (cL, 16384, .inr (.inl (aL (fun _ => lZ 0))))), (u_9.2.1, .inl (cL, 16384, .inr (.inl (aL (fun _ => lZ 0))))), (u_9.2.2, .inl (cL, 64, .inr (.inl (aL (fun _ => lZ 0))))), (q_16, .inr (3, [.null, .int (iZ 0), .int (iZ 0), .int (iZ 0), .int (iZ 0), .int (iZ 0), .int (iZ 0), .int (iZ 0)]))] H := hP
  have hD : va_D A [(hx_, .inr (4, [.ref q_5, .null, .null, .null])), (q_5, .inr (2, [.int (iZ 64), .int (iZ 64), .int (iZ 0), .ref u_9.1, .ref u_9.2.1, .ref u_9.2.2])), (u_9.1, .inl (cL, 16384, .inr (.inl (aL (fun _ => lZ 0))))), (u_9.2.1, .inl (cL, 16384, .inr (.inl (aL (fun _ => lZ 0))))), (u_9.2.2, .inl (cL, 64, .inr (.inl (aL (fun _ => lZ 0))))), (q_16, .inr (3, [.null, .int (iZ 0), .int (iZ 0), .int (iZ 0), .int (iZ 0), .int (iZ 0), .int (iZ 0), .int (iZ 0)]))] := hD
  refine lv_dup hx hb d_D_init_19 rfl ?_
  refine lv_aload_n hx hb d_D_init_20 rfl (lv_at hl 0 rfl) ?_
  refine va_get (D := (dC, dI)) (ci := 4) (v := .ref q_5) (C := R_D) (T := T_D) (N := 4) hx hb hts wi_D hown hK hP 0 rfl rfl 0 (by decide) (hts _ t_126) (fun _ h9 => h9) rfl d_D_init_21 ?_
  refine zc_v (w1 := fun (u_24 : Unit) => [(q_16, .inr (3, [.ref q_5, .int (iZ 0), .int (iZ 0), .int (iZ 0), .int (iZ 0), .int (iZ 0), .int (iZ 0), .int (iZ 0)]))]) (wr := [(hx_, .inr (4, [.ref q_5, .null, .null, .null])), (q_5, .inr (2, [.int (iZ 64), .int (iZ 64), .int (iZ 0), .ref u_9.1, .ref u_9.2.1, .ref u_9.2.2])), (u_9.1, .inl (cL, 16384, .inr (.inl (aL (fun _ => lZ 0))))), (u_9.2.1, .inl (cL, 16384, .inr (.inl (aL (fun _ => lZ 0))))), (u_9.2.2, .inl (cL, 64, .inr (.inl (aL (fun _ => lZ 0)))))]) (va_runI (As := [.ref q_5]) (rest := [.ref q_16, .ref hx_]) ⟨hx, hb, hml, hown, hts⟩ (c_Steps_init l dC dI q_16 q_5 H.size ) (cwI 1 hts (gC t_60) rfl rfl rfl (hts _ t_3) (hts _ t_58) (hts _ t_59) rfl (by decide +kernel) ⟨Nat.le_of_ble_eq_true rfl, Nat.le_of_ble_eq_true rfl⟩) ⟨zPm_blind, zPm_pre hP hD hK [5] [] rfl rfl rfl rfl⟩ rfl rfl hl.1 rfl (lv_room (Nat.le_of_ble_eq_true rfl)) d_D_init_24 ⟨Nat.le_of_ble_eq_true rfl, Nat.le_of_ble_eq_true rfl⟩) hP hD hS hA [5] [0, 1, 2, 3, 4] rfl rfl rfl (by decide) (fun u_24 H locs q_24 hP hD hS => ?_)
  have hP : va_P (dC, dI) vwCl [(hx_, .inr (4, [.ref q_5, .null, .null, .null])), (q_5, .inr (2, [.int (iZ 64), .int (iZ 64), .int (iZ 0), .ref u_9.1, .ref u_9.2.1, .ref u_9.2.2])), (u_9.1, .inl (cL, 16384, .inr (.inl (aL (fun _ => lZ 0))))), (u_9.2.1, .inl (cL, 16384, .inr (.inl (aL (fun _ => lZ 0))))), (u_9.2.2, .inl (cL, 64, .inr (.inl (aL (fun _ => lZ 0))))), (q_16, .inr (3, [.ref q_5, .int (iZ 0), .int (iZ 0), .int (iZ 0), .int (iZ 0), .int (iZ 0), .int (iZ 0), .int (iZ 0)]))] H := hP
  have hD : va_D A [(hx_, .inr (4, [.ref q_5, .null, .null, .null])), (q_5, .inr (2, [.int (iZ 64), .int (iZ 64), .int (iZ 0), .ref u_9.1, .ref u_9.2.1, .ref u_9.2.2])), (u_9.1, .inl (cL, 16384, .inr (.inl (aL (fun _ => lZ 0))))), (u_9.2.1, .inl (cL, 16384, .inr (.inl (aL (fun _ => lZ 0))))), (u_9.2.2, .inl (cL, 64, .inr (.inl (aL (fun _ => lZ 0))))), (q_16, .inr (3, [.ref q_5, .int (iZ 0), .int (iZ 0), .int (iZ 0), .int (iZ 0), .int (iZ 0), .int (iZ 0), .int (iZ 0)]))] := hD
  refine va_putF (D := (dC, dI)) (ci := 4) (v := .ref q_16) (ty := .object "DotSheet$Steps") (C := R_D) (T := T_D) (N := 4) hx hb hts wi_D ty_D ty_D_ok nd_D hown hK hP hD hS 0 rfl rfl 1 (by decide) (hts _ t_127) (fun _ h9 => h9) rfl hin rfl (by decide +kernel) rfl rfl (Nat.le_of_ble_eq_true rfl) d_D_init_27 (fun H locs hP hD hS => ?_)
  have hP : va_P (dC, dI) vwCl [(hx_, .inr (4, [.ref q_5, .ref q_16, .null, .null])), (q_5, .inr (2, [.int (iZ 64), .int (iZ 64), .int (iZ 0), .ref u_9.1, .ref u_9.2.1, .ref u_9.2.2])), (u_9.1, .inl (cL, 16384, .inr (.inl (aL (fun _ => lZ 0))))), (u_9.2.1, .inl (cL, 16384, .inr (.inl (aL (fun _ => lZ 0))))), (u_9.2.2, .inl (cL, 64, .inr (.inl (aL (fun _ => lZ 0))))), (q_16, .inr (3, [.ref q_5, .int (iZ 0), .int (iZ 0), .int (iZ 0), .int (iZ 0), .int (iZ 0), .int (iZ 0), .int (iZ 0)]))] H := hP
  have hD : va_D A [(hx_, .inr (4, [.ref q_5, .ref q_16, .null, .null])), (q_5, .inr (2, [.int (iZ 64), .int (iZ 64), .int (iZ 0), .ref u_9.1, .ref u_9.2.1, .ref u_9.2.2])), (u_9.1, .inl (cL, 16384, .inr (.inl (aL (fun _ => lZ 0))))), (u_9.2.1, .inl (cL, 16384, .inr (.inl (aL (fun _ => lZ 0))))), (u_9.2.2, .inl (cL, 64, .inr (.inl (aL (fun _ => lZ 0))))), (q_16, .inr (3, [.ref q_5, .int (iZ 0), .int (iZ 0), .int (iZ 0), .int (iZ 0), .int (iZ 0), .int (iZ 0), .int (iZ 0)]))] := hD
  refine lv_aload_n hx hb d_D_init_30 rfl (lv_at hl 0 rfl) ?_
  refine va_new (ci := 0) (fs := [.int (iZ 0), .null]) (C := R_Dr) (T := T_Dr) (N := 2) hx hb hts wi_Dr ty_Dr ty_Dr_ok hown (hts _ t_87) (hts _ t_88) (hts _ t_4) hK hP hD hS hA rfl (fun j hj => by rcases (show j = 0 ∨ j = 1 by omega) with rfl | rfl <;> rfl) (Nat.le_of_ble_eq_true rfl) (Nat.le_of_ble_eq_true rfl) d_D_init_31 (fun q_31 H hP hD hS => ?_)
  have hP : va_P (dC, dI) vwCl [(hx_, .inr (4, [.ref q_5, .ref q_16, .null, .null])), (q_5, .inr (2, [.int (iZ 64), .int (iZ 64), .int (iZ 0), .ref u_9.1, .ref u_9.2.1, .ref u_9.2.2])), (u_9.1, .inl (cL, 16384, .inr (.inl (aL (fun _ => lZ 0))))), (u_9.2.1, .inl (cL, 16384, .inr (.inl (aL (fun _ => lZ 0))))), (u_9.2.2, .inl (cL, 64, .inr (.inl (aL (fun _ => lZ 0))))), (q_16, .inr (3, [.ref q_5, .int (iZ 0), .int (iZ 0), .int (iZ 0), .int (iZ 0), .int (iZ 0), .int (iZ 0), .int (iZ 0)])), (q_31, .inr (0, [.int (iZ 0), .null]))] H := hP
  have hD : va_D A [(hx_, .inr (4, [.ref q_5, .ref q_16, .null, .null])), (q_5, .inr (2, [.int (iZ 64), .int (iZ 64), .int (iZ 0), .ref u_9.1, .ref u_9.2.1, .ref u_9.2.2])), (u_9.1, .inl (cL, 16384, .inr (.inl (aL (fun _ => lZ 0))))), (u_9.2.1, .inl (cL, 16384, .inr (.inl (aL (fun _ => lZ 0))))), (u_9.2.2, .inl (cL, 64, .inr (.inl (aL (fun _ => lZ 0))))), (q_16, .inr (3, [.ref q_5, .int (iZ 0), .int (iZ 0), .int (iZ 0), .int (iZ 0), .int (iZ 0), .int (iZ 0), .int (iZ 0)])), (q_31, .inr (0, [.int (iZ 0), .null]))] := hD
  refine lv_dup hx hb d_D_init_34 rfl ?_
  refine zc_v (w1 := fun (u_35 : Nat) => [(q_31, .inr (0, [.int (iZ 0), .ref u_35])), (u_35, .inl (cB, 4096, .inl (aI (fun _ => iZ 0))))]) (wr := [(hx_, .inr (4, [.ref q_5, .ref q_16, .null, .null])), (q_5, .inr (2, [.int (iZ 64), .int (iZ 64), .int (iZ 0), .ref u_9.1, .ref u_9.2.1, .ref u_9.2.2])), (u_9.1, .inl (cL, 16384, .inr (.inl (aL (fun _ => lZ 0))))), (u_9.2.1, .inl (cL, 16384, .inr (.inl (aL (fun _ => lZ 0))))), (u_9.2.2, .inl (cL, 64, .inr (.inl (aL (fun _ => lZ 0))))), (q_16, .inr (3, [.ref q_5, .int (iZ 0), .int (iZ 0), .int (iZ 0), .int (iZ 0), .int (iZ 0), .int (iZ 0), .int (iZ 0)]))]) (va_runIN (As := []) (rest := [.ref q_31, .ref hx_]) ⟨hx, hb, hml, hown, hts⟩ (c_Draft_init l dC dI q_31 cB H.size ) ⟨va_cnB 0 hts (gC t_91) rfl rfl rfl hn9.2.1 (hts _ t_4) (by decide +kernel) ⟨Nat.le_of_ble_eq_true rfl, Nat.le_of_ble_eq_true rfl⟩, rfl, hts _ t_90⟩ ⟨zPm_blind, zPm_pre hP hD hK [6] [1] rfl rfl rfl rfl⟩ rfl rfl hl.1 rfl (lv_room (Nat.le_of_ble_eq_true rfl)) d_D_init_35 ⟨Nat.le_of_ble_eq_true rfl, Nat.le_of_ble_eq_true rfl⟩) hP hD hS hA [6] [0, 1, 2, 3, 4, 5] rfl rfl rfl (by decide) (fun u_35 H locs q_35 hP hD hS => ?_)
  have hP : va_P (dC, dI) vwCl [(hx_, .inr (4, [.ref q_5, .ref q_16, .null, .null])), (q_5, .inr (2, [.int (iZ 64), .int (iZ 64), .int (iZ 0), .ref u_9.1, .ref u_9.2.1, .ref u_9.2.2])), (u_9.1, .inl (cL, 16384, .inr (.inl (aL (fun _ => lZ 0))))), (u_9.2.1, .inl (cL, 16384, .inr (.inl (aL (fun _ => lZ 0))))), (u_9.2.2, .inl (cL, 64, .inr (.inl (aL (fun _ => lZ 0))))), (q_16, .inr (3, [.ref q_5, .int (iZ 0), .int (iZ 0), .int (iZ 0), .int (iZ 0), .int (iZ 0), .int (iZ 0), .int (iZ 0)])), (q_31, .inr (0, [.int (iZ 0), .ref u_35])), (u_35, .inl (cB, 4096, .inl (aI (fun _ => iZ 0))))] H := hP
  have hD : va_D A [(hx_, .inr (4, [.ref q_5, .ref q_16, .null, .null])), (q_5, .inr (2, [.int (iZ 64), .int (iZ 64), .int (iZ 0), .ref u_9.1, .ref u_9.2.1, .ref u_9.2.2])), (u_9.1, .inl (cL, 16384, .inr (.inl (aL (fun _ => lZ 0))))), (u_9.2.1, .inl (cL, 16384, .inr (.inl (aL (fun _ => lZ 0))))), (u_9.2.2, .inl (cL, 64, .inr (.inl (aL (fun _ => lZ 0))))), (q_16, .inr (3, [.ref q_5, .int (iZ 0), .int (iZ 0), .int (iZ 0), .int (iZ 0), .int (iZ 0), .int (iZ 0), .int (iZ 0)])), (q_31, .inr (0, [.int (iZ 0), .ref u_35])), (u_35, .inl (cB, 4096, .inl (aI (fun _ => iZ 0))))] := hD
  refine va_putF (D := (dC, dI)) (ci := 4) (v := .ref q_31) (ty := .object "DotSheet$Draft") (C := R_D) (T := T_D) (N := 4) hx hb hts wi_D ty_D ty_D_ok nd_D hown hK hP hD hS 0 rfl rfl 2 (by decide) (hts _ t_128) (fun _ h9 => h9) rfl hin rfl (by decide +kernel) rfl rfl (Nat.le_of_ble_eq_true rfl) d_D_init_38 (fun H locs hP hD hS => ?_)
  have hP : va_P (dC, dI) vwCl [(hx_, .inr (4, [.ref q_5, .ref q_16, .ref q_31, .null])), (q_5, .inr (2, [.int (iZ 64), .int (iZ 64), .int (iZ 0), .ref u_9.1, .ref u_9.2.1, .ref u_9.2.2])), (u_9.1, .inl (cL, 16384, .inr (.inl (aL (fun _ => lZ 0))))), (u_9.2.1, .inl (cL, 16384, .inr (.inl (aL (fun _ => lZ 0))))), (u_9.2.2, .inl (cL, 64, .inr (.inl (aL (fun _ => lZ 0))))), (q_16, .inr (3, [.ref q_5, .int (iZ 0), .int (iZ 0), .int (iZ 0), .int (iZ 0), .int (iZ 0), .int (iZ 0), .int (iZ 0)])), (q_31, .inr (0, [.int (iZ 0), .ref u_35])), (u_35, .inl (cB, 4096, .inl (aI (fun _ => iZ 0))))] H := hP
  have hD : va_D A [(hx_, .inr (4, [.ref q_5, .ref q_16, .ref q_31, .null])), (q_5, .inr (2, [.int (iZ 64), .int (iZ 64), .int (iZ 0), .ref u_9.1, .ref u_9.2.1, .ref u_9.2.2])), (u_9.1, .inl (cL, 16384, .inr (.inl (aL (fun _ => lZ 0))))), (u_9.2.1, .inl (cL, 16384, .inr (.inl (aL (fun _ => lZ 0))))), (u_9.2.2, .inl (cL, 64, .inr (.inl (aL (fun _ => lZ 0))))), (q_16, .inr (3, [.ref q_5, .int (iZ 0), .int (iZ 0), .int (iZ 0), .int (iZ 0), .int (iZ 0), .int (iZ 0), .int (iZ 0)])), (q_31, .inr (0, [.int (iZ 0), .ref u_35])), (u_35, .inl (cB, 4096, .inl (aI (fun _ => iZ 0))))] := hD
  refine lv_aload_n hx hb d_D_init_41 rfl (lv_at hl 0 rfl) ?_
  refine lv_iconst (v := iZ (4)) hx hb d_D_init_42 rfl ?_
  refine z_newq (N := 4) hx hb hown (hts _ t_102) hn9.2.2.2 hK hP hD hS hA 3 rfl (by omega) (by omega) rfl (Nat.le_of_ble_eq_true rfl) (Nat.le_of_ble_eq_true rfl) (Nat.le_of_ble_eq_true rfl) d_D_init_43 (fun q_43 H hP hD hS => ?_)
  have hP : va_P (dC, dI) vwCl [(hx_, .inr (4, [.ref q_5, .ref q_16, .ref q_31, .null])), (q_5, .inr (2, [.int (iZ 64), .int (iZ 64), .int (iZ 0), .ref u_9.1, .ref u_9.2.1, .ref u_9.2.2])), (u_9.1, .inl (cL, 16384, .inr (.inl (aL (fun _ => lZ 0))))), (u_9.2.1, .inl (cL, 16384, .inr (.inl (aL (fun _ => lZ 0))))), (u_9.2.2, .inl (cL, 64, .inr (.inl (aL (fun _ => lZ 0))))), (q_16, .inr (3, [.ref q_5, .int (iZ 0), .int (iZ 0), .int (iZ 0), .int (iZ 0), .int (iZ 0), .int (iZ 0), .int (iZ 0)])), (q_31, .inr (0, [.int (iZ 0), .ref u_35])), (u_35, .inl (cB, 4096, .inl (aI (fun _ => iZ 0)))), (q_43, .inl (cF, 4, .inr (.inr (.inr (.inr (aQ (fun _ => none)))))))] H := hP
  have hD : va_D A [(hx_, .inr (4, [.ref q_5, .ref q_16, .ref q_31, .null])), (q_5, .inr (2, [.int (iZ 64), .int (iZ 64), .int (iZ 0), .ref u_9.1, .ref u_9.2.1, .ref u_9.2.2])), (u_9.1, .inl (cL, 16384, .inr (.inl (aL (fun _ => lZ 0))))), (u_9.2.1, .inl (cL, 16384, .inr (.inl (aL (fun _ => lZ 0))))), (u_9.2.2, .inl (cL, 64, .inr (.inl (aL (fun _ => lZ 0))))), (q_16, .inr (3, [.ref q_5, .int (iZ 0), .int (iZ 0), .int (iZ 0), .int (iZ 0), .int (iZ 0), .int (iZ 0), .int (iZ 0)])), (q_31, .inr (0, [.int (iZ 0), .ref u_35])), (u_35, .inl (cB, 4096, .inl (aI (fun _ => iZ 0)))), (q_43, .inl (cF, 4, .inr (.inr (.inr (.inr (aQ (fun _ => none)))))))] := hD
  refine va_putF (D := (dC, dI)) (ci := 4) (v := .ref q_43) (ty := .array (.object "DotSheet$Font")) (C := R_D) (T := T_D) (N := 4) hx hb hts wi_D ty_D ty_D_ok nd_D hown hK hP hD hS 0 rfl rfl 3 (by decide) (hts _ t_129) (fun _ h9 => h9) rfl hin rfl (by decide +kernel) rfl rfl (Nat.le_of_ble_eq_true rfl) d_D_init_46 (fun H locs hP hD hS => ?_)
  have hP : va_P (dC, dI) vwCl [(hx_, .inr (4, [.ref q_5, .ref q_16, .ref q_31, .ref q_43])), (q_5, .inr (2, [.int (iZ 64), .int (iZ 64), .int (iZ 0), .ref u_9.1, .ref u_9.2.1, .ref u_9.2.2])), (u_9.1, .inl (cL, 16384, .inr (.inl (aL (fun _ => lZ 0))))), (u_9.2.1, .inl (cL, 16384, .inr (.inl (aL (fun _ => lZ 0))))), (u_9.2.2, .inl (cL, 64, .inr (.inl (aL (fun _ => lZ 0))))), (q_16, .inr (3, [.ref q_5, .int (iZ 0), .int (iZ 0), .int (iZ 0), .int (iZ 0), .int (iZ 0), .int (iZ 0), .int (iZ 0)])), (q_31, .inr (0, [.int (iZ 0), .ref u_35])), (u_35, .inl (cB, 4096, .inl (aI (fun _ => iZ 0)))), (q_43, .inl (cF, 4, .inr (.inr (.inr (.inr (aQ (fun _ => none)))))))] H := hP
  have hD : va_D A [(hx_, .inr (4, [.ref q_5, .ref q_16, .ref q_31, .ref q_43])), (q_5, .inr (2, [.int (iZ 64), .int (iZ 64), .int (iZ 0), .ref u_9.1, .ref u_9.2.1, .ref u_9.2.2])), (u_9.1, .inl (cL, 16384, .inr (.inl (aL (fun _ => lZ 0))))), (u_9.2.1, .inl (cL, 16384, .inr (.inl (aL (fun _ => lZ 0))))), (u_9.2.2, .inl (cL, 64, .inr (.inl (aL (fun _ => lZ 0))))), (q_16, .inr (3, [.ref q_5, .int (iZ 0), .int (iZ 0), .int (iZ 0), .int (iZ 0), .int (iZ 0), .int (iZ 0), .int (iZ 0)])), (q_31, .inr (0, [.int (iZ 0), .ref u_35])), (u_35, .inl (cB, 4096, .inl (aI (fun _ => iZ 0)))), (q_43, .inl (cF, 4, .inr (.inr (.inr (.inr (aQ (fun _ => none)))))))] := hD
  refine lv_iconst (v := iZ (0)) hx hb d_D_init_49 rfl ?_
  refine lv_istore_n (lv' := [(1, .int (iZ 0)), (0, .ref hx_)]) hx hb d_D_init_50 rfl hl (by decide) rfl (fun ls hl => ?_)
  refine lv_iload_n hx hb d_D_init_51 rfl (lv_at hl 0 rfl) ?_
  refine lv_iconst (v := iZ (4)) hx hb d_D_init_52 rfl ?_
  refine zi_ge (tgt := 75) hx hb d_D_init_53 (by decide) (by omega) (by omega) (by omega) (by omega) (fun c_53 => ?_) (fun c_53 => ?_)
  · exact absurd c_53 (by omega)
  · refine lv_aload_n hx hb d_D_init_56 rfl (lv_at hl 1 rfl) ?_
    refine va_get (D := (dC, dI)) (ci := 4) (v := .ref q_43) (C := R_D) (T := T_D) (N := 4) hx hb hts wi_D hown hK hP 0 rfl rfl 3 (by decide) (hts _ t_129) (fun _ h9 => h9) rfl d_D_init_57 ?_
    refine lv_iload_n hx hb d_D_init_60 rfl (lv_at hl 0 rfl) ?_
    refine va_new (ci := 1) (fs := [.int (iZ 0), .int (iZ 0), .int (iZ 0), .null]) (C := R_Fo) (T := T_Fo) (N := 4) hx hb hts wi_Fo ty_Fo ty_Fo_ok hown (hts _ t_102) (hts _ t_104) (hts _ t_5) hK hP hD hS hA rfl (fun j hj => by rcases (show j = 0 ∨ j = 1 ∨ j = 2 ∨ j = 3 by omega) with rfl | rfl | rfl | rfl <;> rfl) (Nat.le_of_ble_eq_true rfl) (Nat.le_of_ble_eq_true rfl) d_D_init_61 (fun q_61 H hP hD hS => ?_)
    have hP : va_P (dC, dI) vwCl [(hx_, .inr (4, [.ref q_5, .ref q_16, .ref q_31, .ref q_43])), (q_5, .inr (2, [.int (iZ 64), .int (iZ 64), .int (iZ 0), .ref u_9.1, .ref u_9.2.1, .ref u_9.2.2])), (u_9.1, .inl (cL, 16384, .inr (.inl (aL (fun _ => lZ 0))))), (u_9.2.1, .inl (cL, 16384, .inr (.inl (aL (fun _ => lZ 0))))), (u_9.2.2, .inl (cL, 64, .inr (.inl (aL (fun _ => lZ 0))))), (q_16, .inr (3, [.ref q_5, .int (iZ 0), .int (iZ 0), .int (iZ 0), .int (iZ 0), .int (iZ 0), .int (iZ 0), .int (iZ 0)])), (q_31, .inr (0, [.int (iZ 0), .ref u_35])), (u_35, .inl (cB, 4096, .inl (aI (fun _ => iZ 0)))), (q_43, .inl (cF, 4, .inr (.inr (.inr (.inr (aQ (fun _ => none))))))), (q_61, .inr (1, [.int (iZ 0), .int (iZ 0), .int (iZ 0), .null]))] H := hP
    have hD : va_D A [(hx_, .inr (4, [.ref q_5, .ref q_16, .ref q_31, .ref q_43])), (q_5, .inr (2, [.int (iZ 64), .int (iZ 64), .int (iZ 0), .ref u_9.1, .ref u_9.2.1, .ref u_9.2.2])), (u_9.1, .inl (cL, 16384, .inr (.inl (aL (fun _ => lZ 0))))), (u_9.2.1, .inl (cL, 16384, .inr (.inl (aL (fun _ => lZ 0))))), (u_9.2.2, .inl (cL, 64, .inr (.inl (aL (fun _ => lZ 0))))), (q_16, .inr (3, [.ref q_5, .int (iZ 0), .int (iZ 0), .int (iZ 0), .int (iZ 0), .int (iZ 0), .int (iZ 0), .int (iZ 0)])), (q_31, .inr (0, [.int (iZ 0), .ref u_35])), (u_35, .inl (cB, 4096, .inl (aI (fun _ => iZ 0)))), (q_43, .inl (cF, 4, .inr (.inr (.inr (.inr (aQ (fun _ => none))))))), (q_61, .inr (1, [.int (iZ 0), .int (iZ 0), .int (iZ 0), .null]))] := hD
    refine lv_dup hx hb d_D_init_64 rfl ?_
    refine zc_v (w1 := fun (u_65 : Nat) => [(q_61, .inr (1, [.int (iZ 8), .int (iZ 8), .int (iZ 0), .ref u_65])), (u_65, .inl (cI, 8192, .inl (aI (fun _ => iZ 0))))]) (wr := [(hx_, .inr (4, [.ref q_5, .ref q_16, .ref q_31, .ref q_43])), (q_5, .inr (2, [.int (iZ 64), .int (iZ 64), .int (iZ 0), .ref u_9.1, .ref u_9.2.1, .ref u_9.2.2])), (u_9.1, .inl (cL, 16384, .inr (.inl (aL (fun _ => lZ 0))))), (u_9.2.1, .inl (cL, 16384, .inr (.inl (aL (fun _ => lZ 0))))), (u_9.2.2, .inl (cL, 64, .inr (.inl (aL (fun _ => lZ 0))))), (q_16, .inr (3, [.ref q_5, .int (iZ 0), .int (iZ 0), .int (iZ 0), .int (iZ 0), .int (iZ 0), .int (iZ 0), .int (iZ 0)])), (q_31, .inr (0, [.int (iZ 0), .ref u_35])), (u_35, .inl (cB, 4096, .inl (aI (fun _ => iZ 0)))), (q_43, .inl (cF, 4, .inr (.inr (.inr (.inr (aQ (fun _ => none)))))))]) (va_runIN (As := []) (rest := [.ref q_61, .int (iZ 0), .ref q_43]) ⟨hx, hb, hml, hown, hts⟩ (c_Font_init l dC dI q_61 cI H.size ) ⟨va_cnB 0 hts (gC t_107) rfl rfl rfl hn9.2.2.1 (hts _ t_5) (by decide +kernel) ⟨Nat.le_of_ble_eq_true rfl, Nat.le_of_ble_eq_true rfl⟩, rfl, hts _ t_106⟩ ⟨zPm_blind, zPm_pre hP hD hK [9] [2] rfl rfl rfl rfl⟩ rfl rfl hl.1 rfl (lv_room (Nat.le_of_ble_eq_true rfl)) d_D_init_65 ⟨Nat.le_of_ble_eq_true rfl, Nat.le_of_ble_eq_true rfl⟩) hP hD hS hA [9] [0, 1, 2, 3, 4, 5, 6, 7, 8] rfl rfl rfl (by decide) (fun u_65 H locs q_65 hP hD hS => ?_)
    have hP : va_P (dC, dI) vwCl [(hx_, .inr (4, [.ref q_5, .ref q_16, .ref q_31, .ref q_43])), (q_5, .inr (2, [.int (iZ 64), .int (iZ 64), .int (iZ 0), .ref u_9.1, .ref u_9.2.1, .ref u_9.2.2])), (u_9.1, .inl (cL, 16384, .inr (.inl (aL (fun _ => lZ 0))))), (u_9.2.1, .inl (cL, 16384, .inr (.inl (aL (fun _ => lZ 0))))), (u_9.2.2, .inl (cL, 64, .inr (.inl (aL (fun _ => lZ 0))))), (q_16, .inr (3, [.ref q_5, .int (iZ 0), .int (iZ 0), .int (iZ 0), .int (iZ 0), .int (iZ 0), .int (iZ 0), .int (iZ 0)])), (q_31, .inr (0, [.int (iZ 0), .ref u_35])), (u_35, .inl (cB, 4096, .inl (aI (fun _ => iZ 0)))), (q_43, .inl (cF, 4, .inr (.inr (.inr (.inr (aQ (fun _ => none))))))), (q_61, .inr (1, [.int (iZ 8), .int (iZ 8), .int (iZ 0), .ref u_65])), (u_65, .inl (cI, 8192, .inl (aI (fun _ => iZ 0))))] H := hP
    have hD : va_D A [(hx_, .inr (4, [.ref q_5, .ref q_16, .ref q_31, .ref q_43])), (q_5, .inr (2, [.int (iZ 64), .int (iZ 64), .int (iZ 0), .ref u_9.1, .ref u_9.2.1, .ref u_9.2.2])), (u_9.1, .inl (cL, 16384, .inr (.inl (aL (fun _ => lZ 0))))), (u_9.2.1, .inl (cL, 16384, .inr (.inl (aL (fun _ => lZ 0))))), (u_9.2.2, .inl (cL, 64, .inr (.inl (aL (fun _ => lZ 0))))), (q_16, .inr (3, [.ref q_5, .int (iZ 0), .int (iZ 0), .int (iZ 0), .int (iZ 0), .int (iZ 0), .int (iZ 0), .int (iZ 0)])), (q_31, .inr (0, [.int (iZ 0), .ref u_35])), (u_35, .inl (cB, 4096, .inl (aI (fun _ => iZ 0)))), (q_43, .inl (cF, 4, .inr (.inr (.inr (.inr (aQ (fun _ => none))))))), (q_61, .inr (1, [.int (iZ 8), .int (iZ 8), .int (iZ 0), .ref u_65])), (u_65, .inl (cI, 8192, .inl (aI (fun _ => iZ 0))))] := hD
    refine z_astq (ci := 1) hx hb hK hP hD hS 8 3 9 rfl rfl rfl rfl (by omega) (by omega) (by omega) d_D_init_68 (fun H locs hP hD hS => ?_)
    have hP : va_P (dC, dI) vwCl [(hx_, .inr (4, [.ref q_5, .ref q_16, .ref q_31, .ref q_43])), (q_5, .inr (2, [.int (iZ 64), .int (iZ 64), .int (iZ 0), .ref u_9.1, .ref u_9.2.1, .ref u_9.2.2])), (u_9.1, .inl (cL, 16384, .inr (.inl (aL (fun _ => lZ 0))))), (u_9.2.1, .inl (cL, 16384, .inr (.inl (aL (fun _ => lZ 0))))), (u_9.2.2, .inl (cL, 64, .inr (.inl (aL (fun _ => lZ 0))))), (q_16, .inr (3, [.ref q_5, .int (iZ 0), .int (iZ 0), .int (iZ 0), .int (iZ 0), .int (iZ 0), .int (iZ 0), .int (iZ 0)])), (q_31, .inr (0, [.int (iZ 0), .ref u_35])), (u_35, .inl (cB, 4096, .inl (aI (fun _ => iZ 0)))), (q_43, .inl (cF, 4, .inr (.inr (.inr (.inr (aQ (upZ (fun _ => none) 0 (some q_61)))))))), (q_61, .inr (1, [.int (iZ 8), .int (iZ 8), .int (iZ 0), .ref u_65])), (u_65, .inl (cI, 8192, .inl (aI (fun _ => iZ 0))))] H := hP
    have hD : va_D A [(hx_, .inr (4, [.ref q_5, .ref q_16, .ref q_31, .ref q_43])), (q_5, .inr (2, [.int (iZ 64), .int (iZ 64), .int (iZ 0), .ref u_9.1, .ref u_9.2.1, .ref u_9.2.2])), (u_9.1, .inl (cL, 16384, .inr (.inl (aL (fun _ => lZ 0))))), (u_9.2.1, .inl (cL, 16384, .inr (.inl (aL (fun _ => lZ 0))))), (u_9.2.2, .inl (cL, 64, .inr (.inl (aL (fun _ => lZ 0))))), (q_16, .inr (3, [.ref q_5, .int (iZ 0), .int (iZ 0), .int (iZ 0), .int (iZ 0), .int (iZ 0), .int (iZ 0), .int (iZ 0)])), (q_31, .inr (0, [.int (iZ 0), .ref u_35])), (u_35, .inl (cB, 4096, .inl (aI (fun _ => iZ 0)))), (q_43, .inl (cF, 4, .inr (.inr (.inr (.inr (aQ (upZ (fun _ => none) 0 (some q_61)))))))), (q_61, .inr (1, [.int (iZ 8), .int (iZ 8), .int (iZ 0), .ref u_65])), (u_65, .inl (cI, 8192, .inl (aI (fun _ => iZ 0))))] := hD
    refine lv_iinc (v := iZ (0 + 1)) (lv' := [(1, .int (iZ (0 + 1))), (0, .ref hx_)]) hx hb d_D_init_69 hl (k := 0) rfl (iZ_add _ _) (by decide) rfl (fun ls hl => ?_)
    refine lv_goto (tgt := 51) hx hb d_D_init_72 (by decide) ?_
    refine lv_iload_n hx hb d_D_init_51 rfl (lv_at hl 0 rfl) ?_
    refine lv_iconst (v := iZ (4)) hx hb d_D_init_52 rfl ?_
    refine zi_ge (tgt := 75) hx hb d_D_init_53 (by decide) (by omega) (by omega) (by omega) (by omega) (fun c_53 => ?_) (fun c_53 => ?_)
    · exact absurd c_53 (by omega)
    · refine lv_aload_n hx hb d_D_init_56 rfl (lv_at hl 1 rfl) ?_
      refine va_get (D := (dC, dI)) (ci := 4) (v := .ref q_43) (C := R_D) (T := T_D) (N := 4) hx hb hts wi_D hown hK hP 0 rfl rfl 3 (by decide) (hts _ t_129) (fun _ h9 => h9) rfl d_D_init_57 ?_
      refine lv_iload_n hx hb d_D_init_60 rfl (lv_at hl 0 rfl) ?_
      refine va_new (ci := 1) (fs := [.int (iZ 0), .int (iZ 0), .int (iZ 0), .null]) (C := R_Fo) (T := T_Fo) (N := 4) hx hb hts wi_Fo ty_Fo ty_Fo_ok hown (hts _ t_102) (hts _ t_104) (hts _ t_5) hK hP hD hS hA rfl (fun j hj => by rcases (show j = 0 ∨ j = 1 ∨ j = 2 ∨ j = 3 by omega) with rfl | rfl | rfl | rfl <;> rfl) (Nat.le_of_ble_eq_true rfl) (Nat.le_of_ble_eq_true rfl) d_D_init_61 (fun q_61_1 H hP hD hS => ?_)
      have hP : va_P (dC, dI) vwCl [(hx_, .inr (4, [.ref q_5, .ref q_16, .ref q_31, .ref q_43])), (q_5, .inr (2, [.int (iZ 64), .int (iZ 64), .int (iZ 0), .ref u_9.1, .ref u_9.2.1, .ref u_9.2.2])), (u_9.1, .inl (cL, 16384, .inr (.inl (aL (fun _ => lZ 0))))), (u_9.2.1, .inl (cL, 16384, .inr (.inl (aL (fun _ => lZ 0))))), (u_9.2.2, .inl (cL, 64, .inr (.inl (aL (fun _ => lZ 0))))), (q_16, .inr (3, [.ref q_5, .int (iZ 0), .int (iZ 0), .int (iZ 0), .int (iZ 0), .int (iZ 0), .int (iZ 0), .int (iZ 0)])), (q_31, .inr (0, [.int (iZ 0), .ref u_35])), (u_35, .inl (cB, 4096, .inl (aI (fun _ => iZ 0)))), (q_43, .inl (cF, 4, .inr (.inr (.inr (.inr (aQ (upZ (fun _ => none) 0 (some q_61)))))))), (q_61, .inr (1, [.int (iZ 8), .int (iZ 8), .int (iZ 0), .ref u_65])), (u_65, .inl (cI, 8192, .inl (aI (fun _ => iZ 0)))), (q_61_1, .inr (1, [.int (iZ 0), .int (iZ 0), .int (iZ 0), .null]))] H := hP
      have hD : va_D A [(hx_, .inr (4, [.ref q_5, .ref q_16, .ref q_31, .ref q_43])), (q_5, .inr (2, [.int (iZ 64), .int (iZ 64), .int (iZ 0), .ref u_9.1, .ref u_9.2.1, .ref u_9.2.2])), (u_9.1, .inl (cL, 16384, .inr (.inl (aL (fun _ => lZ 0))))), (u_9.2.1, .inl (cL, 16384, .inr (.inl (aL (fun _ => lZ 0))))), (u_9.2.2, .inl (cL, 64, .inr (.inl (aL (fun _ => lZ 0))))), (q_16, .inr (3, [.ref q_5, .int (iZ 0), .int (iZ 0), .int (iZ 0), .int (iZ 0), .int (iZ 0), .int (iZ 0), .int (iZ 0)])), (q_31, .inr (0, [.int (iZ 0), .ref u_35])), (u_35, .inl (cB, 4096, .inl (aI (fun _ => iZ 0)))), (q_43, .inl (cF, 4, .inr (.inr (.inr (.inr (aQ (upZ (fun _ => none) 0 (some q_61)))))))), (q_61, .inr (1, [.int (iZ 8), .int (iZ 8), .int (iZ 0), .ref u_65])), (u_65, .inl (cI, 8192, .inl (aI (fun _ => iZ 0)))), (q_61_1, .inr (1, [.int (iZ 0), .int (iZ 0), .int (iZ 0), .null]))] := hD
      refine lv_dup hx hb d_D_init_64 rfl ?_
      refine zc_v (w1 := fun (u_65_1 : Nat) => [(q_61_1, .inr (1, [.int (iZ 8), .int (iZ 8), .int (iZ 0), .ref u_65_1])), (u_65_1, .inl (cI, 8192, .inl (aI (fun _ => iZ 0))))]) (wr := [(hx_, .inr (4, [.ref q_5, .ref q_16, .ref q_31, .ref q_43])), (q_5, .inr (2, [.int (iZ 64), .int (iZ 64), .int (iZ 0), .ref u_9.1, .ref u_9.2.1, .ref u_9.2.2])), (u_9.1, .inl (cL, 16384, .inr (.inl (aL (fun _ => lZ 0))))), (u_9.2.1, .inl (cL, 16384, .inr (.inl (aL (fun _ => lZ 0))))), (u_9.2.2, .inl (cL, 64, .inr (.inl (aL (fun _ => lZ 0))))), (q_16, .inr (3, [.ref q_5, .int (iZ 0), .int (iZ 0), .int (iZ 0), .int (iZ 0), .int (iZ 0), .int (iZ 0), .int (iZ 0)])), (q_31, .inr (0, [.int (iZ 0), .ref u_35])), (u_35, .inl (cB, 4096, .inl (aI (fun _ => iZ 0)))), (q_43, .inl (cF, 4, .inr (.inr (.inr (.inr (aQ (upZ (fun _ => none) 0 (some q_61)))))))), (q_61, .inr (1, [.int (iZ 8), .int (iZ 8), .int (iZ 0), .ref u_65])), (u_65, .inl (cI, 8192, .inl (aI (fun _ => iZ 0))))]) (va_runIN (As := []) (rest := [.ref q_61_1, .int (iZ (0 + 1)), .ref q_43]) ⟨hx, hb, hml, hown, hts⟩ (c_Font_init l dC dI q_61_1 cI H.size ) ⟨va_cnB 0 hts (gC t_107) rfl rfl rfl hn9.2.2.1 (hts _ t_5) (by decide +kernel) ⟨Nat.le_of_ble_eq_true rfl, Nat.le_of_ble_eq_true rfl⟩, rfl, hts _ t_106⟩ ⟨zPm_blind, zPm_pre hP hD hK [11] [2] rfl rfl rfl rfl⟩ rfl rfl hl.1 rfl (lv_room (Nat.le_of_ble_eq_true rfl)) d_D_init_65 ⟨Nat.le_of_ble_eq_true rfl, Nat.le_of_ble_eq_true rfl⟩) hP hD hS hA [11] [0, 1, 2, 3, 4, 5, 6, 7, 8, 9, 10] rfl rfl rfl (by decide) (fun u_65_1 H locs q_65_1 hP hD hS => ?_)
      have hP : va_P (dC, dI) vwCl [(hx_, .inr (4, [.ref q_5, .ref q_16, .ref q_31, .ref q_43])), (q_5, .inr (2, [.int (iZ 64), .int (iZ 64), .int (iZ 0), .ref u_9.1, .ref u_9.2.1, .ref u_9.2.2])), (u_9.1, .inl (cL, 16384, .inr (.inl (aL (fun _ => lZ 0))))), (u_9.2.1, .inl (cL, 16384, .inr (.inl (aL (fun _ => lZ 0))))), (u_9.2.2, .inl (cL, 64, .inr (.inl (aL (fun _ => lZ 0))))), (q_16, .inr (3, [.ref q_5, .int (iZ 0), .int (iZ 0), .int (iZ 0), .int (iZ 0), .int (iZ 0), .int (iZ 0), .int (iZ 0)])), (q_31, .inr (0, [.int (iZ 0), .ref u_35])), (u_35, .inl (cB, 4096, .inl (aI (fun _ => iZ 0)))), (q_43, .inl (cF, 4, .inr (.inr (.inr (.inr (aQ (upZ (fun _ => none) 0 (some q_61)))))))), (q_61, .inr (1, [.int (iZ 8), .int (iZ 8), .int (iZ 0), .ref u_65])), (u_65, .inl (cI, 8192, .inl (aI (fun _ => iZ 0)))), (q_61_1, .inr (1, [.int (iZ 8), .int (iZ 8), .int (iZ 0), .ref u_65_1])), (u_65_1, .inl (cI, 8192, .inl (aI (fun _ => iZ 0))))] H := hP
      have hD : va_D A [(hx_, .inr (4, [.ref q_5, .ref q_16, .ref q_31, .ref q_43])), (q_5, .inr (2, [.int (iZ 64), .int (iZ 64), .int (iZ 0), .ref u_9.1, .ref u_9.2.1, .ref u_9.2.2])), (u_9.1, .inl (cL, 16384, .inr (.inl (aL (fun _ => lZ 0))))), (u_9.2.1, .inl (cL, 16384, .inr (.inl (aL (fun _ => lZ 0))))), (u_9.2.2, .inl (cL, 64, .inr (.inl (aL (fun _ => lZ 0))))), (q_16, .inr (3, [.ref q_5, .int (iZ 0), .int (iZ 0), .int (iZ 0), .int (iZ 0), .int (iZ 0), .int (iZ 0), .int (iZ 0)])), (q_31, .inr (0, [.int (iZ 0), .ref u_35])), (u_35, .inl (cB, 4096, .inl (aI (fun _ => iZ 0)))), (q_43, .inl (cF, 4, .inr (.inr (.inr (.inr (aQ (upZ (fun _ => none) 0 (some q_61)))))))), (q_61, .inr (1, [.int (iZ 8), .int (iZ 8), .int (iZ 0), .ref u_65])), (u_65, .inl (cI, 8192, .inl (aI (fun _ => iZ 0)))), (q_61_1, .inr (1, [.int (iZ 8), .int (iZ 8), .int (iZ 0), .ref u_65_1])), (u_65_1, .inl (cI, 8192, .inl (aI (fun _ => iZ 0))))] := hD
      refine z_astq (ci := 1) hx hb hK hP hD hS 8 3 11 rfl rfl rfl rfl (by omega) (by omega) (by omega) d_D_init_68 (fun H locs hP hD hS => ?_)
      have hP : va_P (dC, dI) vwCl [(hx_, .inr (4, [.ref q_5, .ref q_16, .ref q_31, .ref q_43])), (q_5, .inr (2, [.int (iZ 64), .int (iZ 64), .int (iZ 0), .ref u_9.1, .ref u_9.2.1, .ref u_9.2.2])), (u_9.1, .inl (cL, 16384, .inr (.inl (aL (fun _ => lZ 0))))), (u_9.2.1, .inl (cL, 16384, .inr (.inl (aL (fun _ => lZ 0))))), (u_9.2.2, .inl (cL, 64, .inr (.inl (aL (fun _ => lZ 0))))), (q_16, .inr (3, [.ref q_5, .int (iZ 0), .int (iZ 0), .int (iZ 0), .int (iZ 0), .int (iZ 0), .int (iZ 0), .int (iZ 0)])), (q_31, .inr (0, [.int (iZ 0), .ref u_35])), (u_35, .inl (cB, 4096, .inl (aI (fun _ => iZ 0)))), (q_43, .inl (cF, 4, .inr (.inr (.inr (.inr (aQ (upZ (upZ (fun _ => none) 0 (some q_61)) (0 + 1) (some q_61_1)))))))), (q_61, .inr (1, [.int (iZ 8), .int (iZ 8), .int (iZ 0), .ref u_65])), (u_65, .inl (cI, 8192, .inl (aI (fun _ => iZ 0)))), (q_61_1, .inr (1, [.int (iZ 8), .int (iZ 8), .int (iZ 0), .ref u_65_1])), (u_65_1, .inl (cI, 8192, .inl (aI (fun _ => iZ 0))))] H := hP
      have hD : va_D A [(hx_, .inr (4, [.ref q_5, .ref q_16, .ref q_31, .ref q_43])), (q_5, .inr (2, [.int (iZ 64), .int (iZ 64), .int (iZ 0), .ref u_9.1, .ref u_9.2.1, .ref u_9.2.2])), (u_9.1, .inl (cL, 16384, .inr (.inl (aL (fun _ => lZ 0))))), (u_9.2.1, .inl (cL, 16384, .inr (.inl (aL (fun _ => lZ 0))))), (u_9.2.2, .inl (cL, 64, .inr (.inl (aL (fun _ => lZ 0))))), (q_16, .inr (3, [.ref q_5, .int (iZ 0), .int (iZ 0), .int (iZ 0), .int (iZ 0), .int (iZ 0), .int (iZ 0), .int (iZ 0)])), (q_31, .inr (0, [.int (iZ 0), .ref u_35])), (u_35, .inl (cB, 4096, .inl (aI (fun _ => iZ 0)))), (q_43, .inl (cF, 4, .inr (.inr (.inr (.inr (aQ (upZ (upZ (fun _ => none) 0 (some q_61)) (0 + 1) (some q_61_1)))))))), (q_61, .inr (1, [.int (iZ 8), .int (iZ 8), .int (iZ 0), .ref u_65])), (u_65, .inl (cI, 8192, .inl (aI (fun _ => iZ 0)))), (q_61_1, .inr (1, [.int (iZ 8), .int (iZ 8), .int (iZ 0), .ref u_65_1])), (u_65_1, .inl (cI, 8192, .inl (aI (fun _ => iZ 0))))] := hD
      refine lv_iinc (v := iZ ((0 + 1) + 1)) (lv' := [(1, .int (iZ ((0 + 1) + 1))), (0, .ref hx_)]) hx hb d_D_init_69 hl (k := 0) rfl (iZ_add _ _) (by decide) rfl (fun ls hl => ?_)
      refine lv_goto (tgt := 51) hx hb d_D_init_72 (by decide) ?_
      refine lv_iload_n hx hb d_D_init_51 rfl (lv_at hl 0 rfl) ?_
      refine lv_iconst (v := iZ (4)) hx hb d_D_init_52 rfl ?_
      refine zi_ge (tgt := 75) hx hb d_D_init_53 (by decide) (by omega) (by omega) (by omega) (by omega) (fun c_53 => ?_) (fun c_53 => ?_)
      · exact absurd c_53 (by omega)
      · refine lv_aload_n hx hb d_D_init_56 rfl (lv_at hl 1 rfl) ?_
        refine va_get (D := (dC, dI)) (ci := 4) (v := .ref q_43) (C := R_D) (T := T_D) (N := 4) hx hb hts wi_D hown hK hP 0 rfl rfl 3 (by decide) (hts _ t_129) (fun _ h9 => h9) rfl d_D_init_57 ?_
        refine lv_iload_n hx hb d_D_init_60 rfl (lv_at hl 0 rfl) ?_
        refine va_new (ci := 1) (fs := [.int (iZ 0), .int (iZ 0), .int (iZ 0), .null]) (C := R_Fo) (T := T_Fo) (N := 4) hx hb hts wi_Fo ty_Fo ty_Fo_ok hown (hts _ t_102) (hts _ t_104) (hts _ t_5) hK hP hD hS hA rfl (fun j hj => by rcases (show j = 0 ∨ j = 1 ∨ j = 2 ∨ j = 3 by omega) with rfl | rfl | rfl | rfl <;> rfl) (Nat.le_of_ble_eq_true rfl) (Nat.le_of_ble_eq_true rfl) d_D_init_61 (fun q_61_2 H hP hD hS => ?_)
        have hP : va_P (dC, dI) vwCl [(hx_, .inr (4, [.ref q_5, .ref q_16, .ref q_31, .ref q_43])), (q_5, .inr (2, [.int (iZ 64), .int (iZ 64), .int (iZ 0), .ref u_9.1, .ref u_9.2.1, .ref u_9.2.2])), (u_9.1, .inl (cL, 16384, .inr (.inl (aL (fun _ => lZ 0))))), (u_9.2.1, .inl (cL, 16384, .inr (.inl (aL (fun _ => lZ 0))))), (u_9.2.2, .inl (cL, 64, .inr (.inl (aL (fun _ => lZ 0))))), (q_16, .inr (3, [.ref q_5, .int (iZ 0), .int (iZ 0), .int (iZ 0), .int (iZ 0), .int (iZ 0), .int (iZ 0), .int (iZ 0)])), (q_31, .inr (0, [.int (iZ 0), .ref u_35])), (u_35, .inl (cB, 4096, .inl (aI (fun _ => iZ 0)))), (q_43, .inl (cF, 4, .inr (.inr (.inr (.inr (aQ (upZ (upZ (fun _ => none) 0 (some q_61)) (0 + 1) (some q_61_1)))))))), (q_61, .inr (1, [.int (iZ 8), .int (iZ 8), .int (iZ 0), .ref u_65])), (u_65, .inl (cI, 8192, .inl (aI (fun _ => iZ 0)))), (q_61_1, .inr (1, [.int (iZ 8), .int (iZ 8), .int (iZ 0), .ref u_65_1])), (u_65_1, .inl (cI, 8192, .inl (aI (fun _ => iZ 0)))), (q_61_2, .inr (1, [.int (iZ 0), .int (iZ 0), .int (iZ 0), .null]))] H := hP
        have hD : va_D A [(hx_, .inr (4, [.ref q_5, .ref q_16, .ref q_31, .ref q_43])), (q_5, .inr (2, [.int (iZ 64), .int (iZ 64), .int (iZ 0), .ref u_9.1, .ref u_9.2.1, .ref u_9.2.2])), (u_9.1, .inl (cL, 16384, .inr (.inl (aL (fun _ => lZ 0))))), (u_9.2.1, .inl (cL, 16384, .inr (.inl (aL (fun _ => lZ 0))))), (u_9.2.2, .inl (cL, 64, .inr (.inl (aL (fun _ => lZ 0))))), (q_16, .inr (3, [.ref q_5, .int (iZ 0), .int (iZ 0), .int (iZ 0), .int (iZ 0), .int (iZ 0), .int (iZ 0), .int (iZ 0)])), (q_31, .inr (0, [.int (iZ 0), .ref u_35])), (u_35, .inl (cB, 4096, .inl (aI (fun _ => iZ 0)))), (q_43, .inl (cF, 4, .inr (.inr (.inr (.inr (aQ (upZ (upZ (fun _ => none) 0 (some q_61)) (0 + 1) (some q_61_1)))))))), (q_61, .inr (1, [.int (iZ 8), .int (iZ 8), .int (iZ 0), .ref u_65])), (u_65, .inl (cI, 8192, .inl (aI (fun _ => iZ 0)))), (q_61_1, .inr (1, [.int (iZ 8), .int (iZ 8), .int (iZ 0), .ref u_65_1])), (u_65_1, .inl (cI, 8192, .inl (aI (fun _ => iZ 0)))), (q_61_2, .inr (1, [.int (iZ 0), .int (iZ 0), .int (iZ 0), .null]))] := hD
        refine lv_dup hx hb d_D_init_64 rfl ?_
        refine zc_v (w1 := fun (u_65_2 : Nat) => [(q_61_2, .inr (1, [.int (iZ 8), .int (iZ 8), .int (iZ 0), .ref u_65_2])), (u_65_2, .inl (cI, 8192, .inl (aI (fun _ => iZ 0))))]) (wr := [(hx_, .inr (4, [.ref q_5, .ref q_16, .ref q_31, .ref q_43])), (q_5, .inr (2, [.int (iZ 64), .int (iZ 64), .int (iZ 0), .ref u_9.1, .ref u_9.2.1, .ref u_9.2.2])), (u_9.1, .inl (cL, 16384, .inr (.inl (aL (fun _ => lZ 0))))), (u_9.2.1, .inl (cL, 16384, .inr (.inl (aL (fun _ => lZ 0))))), (u_9.2.2, .inl (cL, 64, .inr (.inl (aL (fun _ => lZ 0))))), (q_16, .inr (3, [.ref q_5, .int (iZ 0), .int (iZ 0), .int (iZ 0), .int (iZ 0), .int (iZ 0), .int (iZ 0), .int (iZ 0)])), (q_31, .inr (0, [.int (iZ 0), .ref u_35])), (u_35, .inl (cB, 4096, .inl (aI (fun _ => iZ 0)))), (q_43, .inl (cF, 4, .inr (.inr (.inr (.inr (aQ (upZ (upZ (fun _ => none) 0 (some q_61)) (0 + 1) (some q_61_1)))))))), (q_61, .inr (1, [.int (iZ 8), .int (iZ 8), .int (iZ 0), .ref u_65])), (u_65, .inl (cI, 8192, .inl (aI (fun _ => iZ 0)))), (q_61_1, .inr (1, [.int (iZ 8), .int (iZ 8), .int (iZ 0), .ref u_65_1])), (u_65_1, .inl (cI, 8192, .inl (aI (fun _ => iZ 0))))]) (va_runIN (As := []) (rest := [.ref q_61_2, .int (iZ ((0 + 1) + 1)), .ref q_43]) ⟨hx, hb, hml, hown, hts⟩ (c_Font_init l dC dI q_61_2 cI H.size ) ⟨va_cnB 0 hts (gC t_107) rfl rfl rfl hn9.2.2.1 (hts _ t_5) (by decide +kernel) ⟨Nat.le_of_ble_eq_true rfl, Nat.le_of_ble_eq_true rfl⟩, rfl, hts _ t_106⟩ ⟨zPm_blind, zPm_pre hP hD hK [13] [2] rfl rfl rfl rfl⟩ rfl rfl hl.1 rfl (lv_room (Nat.le_of_ble_eq_true rfl)) d_D_init_65 ⟨Nat.le_of_ble_eq_true rfl, Nat.le_of_ble_eq_true rfl⟩) hP hD hS hA [13] [0, 1, 2, 3, 4, 5, 6, 7, 8, 9, 10, 11, 12] rfl rfl rfl (by decide) (fun u_65_2 H locs q_65_2 hP hD hS => ?_)
        have hP : va_P (dC, dI) vwCl [(hx_, .inr (4, [.ref q_5, .ref q_16, .ref q_31, .ref q_43])), (q_5, .inr (2, [.int (iZ 64), .int (iZ 64), .int (iZ 0), .ref u_9.1, .ref u_9.2.1, .ref u_9.2.2])), (u_9.1, .inl (cL, 16384, .inr (.inl (aL (fun _ => lZ 0))))), (u_9.2.1, .inl (cL, 16384, .inr (.inl (aL (fun _ => lZ 0))))), (u_9.2.2, .inl (cL, 64, .inr (.inl (aL (fun _ => lZ 0))))), (q_16, .inr (3, [.ref q_5, .int (iZ 0), .int (iZ 0), .int (iZ 0), .int (iZ 0), .int (iZ 0), .int (iZ 0), .int (iZ 0)])), (q_31, .inr (0, [.int (iZ 0), .ref u_35])), (u_35, .inl (cB, 4096, .inl (aI (fun _ => iZ 0)))), (q_43, .inl (cF, 4, .inr (.inr (.inr (.inr (aQ (upZ (upZ (fun _ => none) 0 (some q_61)) (0 + 1) (some q_61_1)))))))), (q_61, .inr (1, [.int (iZ 8), .int (iZ 8), .int (iZ 0), .ref u_65])), (u_65, .inl (cI, 8192, .inl (aI (fun _ => iZ 0)))), (q_61_1, .inr (1, [.int (iZ 8), .int (iZ 8), .int (iZ 0), .ref u_65_1])), (u_65_1, .inl (cI, 8192, .inl (aI (fun _ => iZ 0)))), (q_61_2, .inr (1, [.int (iZ 8), .int (iZ 8), .int (iZ 0), .ref u_65_2])), (u_65_2, .inl (cI, 8192, .inl (aI (fun _ => iZ 0))))] H := hP
        have hD : va_D A [(hx_, .inr (4, [.ref q_5, .ref q_16, .ref q_31, .ref q_43])), (q_5, .inr (2, [.int (iZ 64), .int (iZ 64), .int (iZ 0), .ref u_9.1, .ref u_9.2.1, .ref u_9.2.2])), (u_9.1, .inl (cL, 16384, .inr (.inl (aL (fun _ => lZ 0))))), (u_9.2.1, .inl (cL, 16384, .inr (.inl (aL (fun _ => lZ 0))))), (u_9.2.2, .inl (cL, 64, .inr (.inl (aL (fun _ => lZ 0))))), (q_16, .inr (3, [.ref q_5, .int (iZ 0), .int (iZ 0), .int (iZ 0), .int (iZ 0), .int (iZ 0), .int (iZ 0), .int (iZ 0)])), (q_31, .inr (0, [.int (iZ 0), .ref u_35])), (u_35, .inl (cB, 4096, .inl (aI (fun _ => iZ 0)))), (q_43, .inl (cF, 4, .inr (.inr (.inr (.inr (aQ (upZ (upZ (fun _ => none) 0 (some q_61)) (0 + 1) (some q_61_1)))))))), (q_61, .inr (1, [.int (iZ 8), .int (iZ 8), .int (iZ 0), .ref u_65])), (u_65, .inl (cI, 8192, .inl (aI (fun _ => iZ 0)))), (q_61_1, .inr (1, [.int (iZ 8), .int (iZ 8), .int (iZ 0), .ref u_65_1])), (u_65_1, .inl (cI, 8192, .inl (aI (fun _ => iZ 0)))), (q_61_2, .inr (1, [.int (iZ 8), .int (iZ 8), .int (iZ 0), .ref u_65_2])), (u_65_2, .inl (cI, 8192, .inl (aI (fun _ => iZ 0))))] := hD
        refine z_astq (ci := 1) hx hb hK hP hD hS 8 3 13 rfl rfl rfl rfl (by omega) (by omega) (by omega) d_D_init_68 (fun H locs hP hD hS => ?_)
        have hP : va_P (dC, dI) vwCl [(hx_, .inr (4, [.ref q_5, .ref q_16, .ref q_31, .ref q_43])), (q_5, .inr (2, [.int (iZ 64), .int (iZ 64), .int (iZ 0), .ref u_9.1, .ref u_9.2.1, .ref u_9.2.2])), (u_9.1, .inl (cL, 16384, .inr (.inl (aL (fun _ => lZ 0))))), (u_9.2.1, .inl (cL, 16384, .inr (.inl (aL (fun _ => lZ 0))))), (u_9.2.2, .inl (cL, 64, .inr (.inl (aL (fun _ => lZ 0))))), (q_16, .inr (3, [.ref q_5, .int (iZ 0), .int (iZ 0), .int (iZ 0), .int (iZ 0), .int (iZ 0), .int (iZ 0), .int (iZ 0)])), (q_31, .inr (0, [.int (iZ 0), .ref u_35])), (u_35, .inl (cB, 4096, .inl (aI (fun _ => iZ 0)))), (q_43, .inl (cF, 4, .inr (.inr (.inr (.inr (aQ (upZ (upZ (upZ (fun _ => none) 0 (some q_61)) (0 + 1) (some q_61_1)) ((0 + 1) + 1) (some q_61_2)))))))), (q_61, .inr (1, [.int (iZ 8), .int (iZ 8), .int (iZ 0), .ref u_65])), (u_65, .inl (cI, 8192, .inl (aI (fun _ => iZ 0)))), (q_61_1, .inr (1, [.int (iZ 8), .int (iZ 8), .int (iZ 0), .ref u_65_1])), (u_65_1, .inl (cI, 8192, .inl (aI (fun _ => iZ 0)))), (q_61_2, .inr (1, [.int (iZ 8), .int (iZ 8), .int (iZ 0), .ref u_65_2])), (u_65_2, .inl (cI, 8192, .inl (aI (fun _ => iZ 0))))] H := hP
        have hD : va_D A [(hx_, .inr (4, [.ref q_5, .ref q_16, .ref q_31, .ref q_43])), (q_5, .inr (2, [.int (iZ 64), .int (iZ 64), .int (iZ 0), .ref u_9.1, .ref u_9.2.1, .ref u_9.2.2])), (u_9.1, .inl (cL, 16384, .inr (.inl (aL (fun _ => lZ 0))))), (u_9.2.1, .inl (cL, 16384, .inr (.inl (aL (fun _ => lZ 0))))), (u_9.2.2, .inl (cL, 64, .inr (.inl (aL (fun _ => lZ 0))))), (q_16, .inr (3, [.ref q_5, .int (iZ 0), .int (iZ 0), .int (iZ 0), .int (iZ 0), .int (iZ 0), .int (iZ 0), .int (iZ 0)])), (q_31, .inr (0, [.int (iZ 0), .ref u_35])), (u_35, .inl (cB, 4096, .inl (aI (fun _ => iZ 0)))), (q_43, .inl (cF, 4, .inr (.inr (.inr (.inr (aQ (upZ (upZ (upZ (fun _ => none) 0 (some q_61)) (0 + 1) (some q_61_1)) ((0 + 1) + 1) (some q_61_2)))))))), (q_61, .inr (1, [.int (iZ 8), .int (iZ 8), .int (iZ 0), .ref u_65])), (u_65, .inl (cI, 8192, .inl (aI (fun _ => iZ 0)))), (q_61_1, .inr (1, [.int (iZ 8), .int (iZ 8), .int (iZ 0), .ref u_65_1])), (u_65_1, .inl (cI, 8192, .inl (aI (fun _ => iZ 0)))), (q_61_2, .inr (1, [.int (iZ 8), .int (iZ 8), .int (iZ 0), .ref u_65_2])), (u_65_2, .inl (cI, 8192, .inl (aI (fun _ => iZ 0))))] := hD
        refine lv_iinc (v := iZ (((0 + 1) + 1) + 1)) (lv' := [(1, .int (iZ (((0 + 1) + 1) + 1))), (0, .ref hx_)]) hx hb d_D_init_69 hl (k := 0) rfl (iZ_add _ _) (by decide) rfl (fun ls hl => ?_)
        refine lv_goto (tgt := 51) hx hb d_D_init_72 (by decide) ?_
        refine lv_iload_n hx hb d_D_init_51 rfl (lv_at hl 0 rfl) ?_
        refine lv_iconst (v := iZ (4)) hx hb d_D_init_52 rfl ?_
        refine zi_ge (tgt := 75) hx hb d_D_init_53 (by decide) (by omega) (by omega) (by omega) (by omega) (fun c_53 => ?_) (fun c_53 => ?_)
        · exact absurd c_53 (by omega)
        · refine lv_aload_n hx hb d_D_init_56 rfl (lv_at hl 1 rfl) ?_
          refine va_get (D := (dC, dI)) (ci := 4) (v := .ref q_43) (C := R_D) (T := T_D) (N := 4) hx hb hts wi_D hown hK hP 0 rfl rfl 3 (by decide) (hts _ t_129) (fun _ h9 => h9) rfl d_D_init_57 ?_
          refine lv_iload_n hx hb d_D_init_60 rfl (lv_at hl 0 rfl) ?_
          refine va_new (ci := 1) (fs := [.int (iZ 0), .int (iZ 0), .int (iZ 0), .null]) (C := R_Fo) (T := T_Fo) (N := 4) hx hb hts wi_Fo ty_Fo ty_Fo_ok hown (hts _ t_102) (hts _ t_104) (hts _ t_5) hK hP hD hS hA rfl (fun j hj => by rcases (show j = 0 ∨ j = 1 ∨ j = 2 ∨ j = 3 by omega) with rfl | rfl | rfl | rfl <;> rfl) (Nat.le_of_ble_eq_true rfl) (Nat.le_of_ble_eq_true rfl) d_D_init_61 (fun q_61_3 H hP hD hS => ?_)
          have hP : va_P (dC, dI) vwCl [(hx_, .inr (4, [.ref q_5, .ref q_16, .ref q_31, .ref q_43])), (q_5, .inr (2, [.int (iZ 64), .int (iZ 64), .int (iZ 0), .ref u_9.1, .ref u_9.2.1, .ref u_9.2.2])), (u_9.1, .inl (cL, 16384, .inr (.inl (aL (fun _ => lZ 0))))), (u_9.2.1, .inl (cL, 16384, .inr (.inl (aL (fun _ => lZ 0))))), (u_9.2.2, .inl (cL, 64, .inr (.inl (aL (fun _ => lZ 0))))), (q_16, .inr (3, [.ref q_5, .int (iZ 0), .int (iZ 0), .int (iZ 0), .int (iZ 0), .int (iZ 0), .int (iZ 0), .int (iZ 0)])), (q_31, .inr (0, [.int (iZ 0), .ref u_35])), (u_35, .inl (cB, 4096, .inl (aI (fun _ => iZ 0)))), (q_43, .inl (cF, 4, .inr (.inr (.inr (.inr (aQ (upZ (upZ (upZ (fun _ => none) 0 (some q_61)) (0 + 1) (some q_61_1)) ((0 + 1) + 1) (some q_61_2)))))))), (q_61, .inr (1, [.int (iZ 8), .int (iZ 8), .int (iZ 0), .ref u_65])), (u_65, .inl (cI, 8192, .inl (aI (fun _ => iZ 0)))), (q_61_1, .inr (1, [.int (iZ 8), .int (iZ 8), .int (iZ 0), .ref u_65_1])), (u_65_1, .inl (cI, 8192, .inl (aI (fun _ => iZ 0)))), (q_61_2, .inr (1, [.int (iZ 8), .int (iZ 8), .int (iZ 0), .ref u_65_2])), (u_65_2, .inl (cI, 8192, .inl (aI (fun _ => iZ 0)))), (q_61_3, .inr (1, [.int (iZ 0), .int (iZ 0), .int (iZ 0), .null]))] H := hP
          have hD : va_D A [(hx_, .inr (4, [.ref q_5, .ref q_16, .ref q_31, .ref q_43])), (q_5, .inr (2, [.int (iZ 64), .int (iZ 64), .int (iZ 0), .ref u_9.1, .ref u_9.2.1, .ref u_9.2.2])), (u_9.1, .inl (cL, 16384, .inr (.inl (aL (fun _ => lZ 0))))), (u_9.2.1, .inl (cL, 16384, .inr (.inl (aL (fun _ => lZ 0))))), (u_9.2.2, .inl (cL, 64, .inr (.inl (aL (fun _ => lZ 0))))), (q_16, .inr (3, [.ref q_5, .int (iZ 0), .int (iZ 0), .int (iZ 0), .int (iZ 0), .int (iZ 0), .int (iZ 0), .int (iZ 0)])), (q_31, .inr (0, [.int (iZ 0), .ref u_35])), (u_35, .inl (cB, 4096, .inl (aI (fun _ => iZ 0)))), (q_43, .inl (cF, 4, .inr (.inr (.inr (.inr (aQ (upZ (upZ (upZ (fun _ => none) 0 (some q_61)) (0 + 1) (some q_61_1)) ((0 + 1) + 1) (some q_61_2)))))))), (q_61, .inr (1, [.int (iZ 8), .int (iZ 8), .int (iZ 0), .ref u_65])), (u_65, .inl (cI, 8192, .inl (aI (fun _ => iZ 0)))), (q_61_1, .inr (1, [.int (iZ 8), .int (iZ 8), .int (iZ 0), .ref u_65_1])), (u_65_1, .inl (cI, 8192, .inl (aI (fun _ => iZ 0)))), (q_61_2, .inr (1, [.int (iZ 8), .int (iZ 8), .int (iZ 0), .ref u_65_2])), (u_65_2, .inl (cI, 8192, .inl (aI (fun _ => iZ 0)))), (q_61_3, .inr (1, [.int (iZ 0), .int (iZ 0), .int (iZ 0), .null]))] := hD
          refine lv_dup hx hb d_D_init_64 rfl ?_
          refine zc_v (w1 := fun (u_65_3 : Nat) => [(q_61_3, .inr (1, [.int (iZ 8), .int (iZ 8), .int (iZ 0), .ref u_65_3])), (u_65_3, .inl (cI, 8192, .inl (aI (fun _ => iZ 0))))]) (wr := [(hx_, .inr (4, [.ref q_5, .ref q_16, .ref q_31, .ref q_43])), (q_5, .inr (2, [.int (iZ 64), .int (iZ 64), .int (iZ 0), .ref u_9.1, .ref u_9.2.1, .ref u_9.2.2])), (u_9.1, .inl (cL, 16384, .inr (.inl (aL (fun _ => lZ 0))))), (u_9.2.1, .inl (cL, 16384, .inr (.inl (aL (fun _ => lZ 0))))), (u_9.2.2, .inl (cL, 64, .inr (.inl (aL (fun _ => lZ 0))))), (q_16, .inr (3, [.ref q_5, .int (iZ 0), .int (iZ 0), .int (iZ 0), .int (iZ 0), .int (iZ 0), .int (iZ 0), .int (iZ 0)])), (q_31, .inr (0, [.int (iZ 0), .ref u_35])), (u_35, .inl (cB, 4096, .inl (aI (fun _ => iZ 0)))), (q_43, .inl (cF, 4, .inr (.inr (.inr (.inr (aQ (upZ (upZ (upZ (fun _ => none) 0 (some q_61)) (0 + 1) (some q_61_1)) ((0 + 1) + 1) (some q_61_2)))))))), (q_61, .inr (1, [.int (iZ 8), .int (iZ 8), .int (iZ 0), .ref u_65])), (u_65, .inl (cI, 8192, .inl (aI (fun _ => iZ 0)))), (q_61_1, .inr (1, [.int (iZ 8), .int (iZ 8), .int (iZ 0), .ref u_65_1])), (u_65_1, .inl (cI, 8192, .inl (aI (fun _ => iZ 0)))), (q_61_2, .inr (1, [.int (iZ 8), .int (iZ 8), .int (iZ 0), .ref u_65_2])), (u_65_2, .inl (cI, 8192, .inl (aI (fun _ => iZ 0))))]) (va_runIN (As := []) (rest := [.ref q_61_3, .int (iZ (((0 + 1) + 1) + 1)), .ref q_43]) ⟨hx, hb, hml, hown, hts⟩ (c_Font_init l dC dI q_61_3 cI H.size ) ⟨va_cnB 0 hts (gC t_107) rfl rfl rfl hn9.2.2.1 (hts _ t_5) (by decide +kernel) ⟨Nat.le_of_ble_eq_true rfl, Nat.le_of_ble_eq_true rfl⟩, rfl, hts _ t_106⟩ ⟨zPm_blind, zPm_pre hP hD hK [15] [2] rfl rfl rfl rfl⟩ rfl rfl hl.1 rfl (lv_room (Nat.le_of_ble_eq_true rfl)) d_D_init_65 ⟨Nat.le_of_ble_eq_true rfl, Nat.le_of_ble_eq_true rfl⟩) hP hD hS hA [15] [0, 1, 2, 3, 4, 5, 6, 7, 8, 9, 10, 11, 12, 13, 14] rfl rfl rfl (by decide) (fun u_65_3 H locs q_65_3 hP hD hS => ?_)
          have hP : va_P (dC, dI) vwCl [(hx_, .inr (4, [.ref q_5, .ref q_16, .ref q_31, .ref q_43])), (q_5, .inr (2, [.int (iZ 64), .int (iZ 64), .int (iZ 0), .ref u_9.1, .ref u_9.2.1, .ref u_9.2.2])), (u_9.1, .inl (cL, 16384, .inr (.inl (aL (fun _ => lZ 0))))), (u_9.2.1, .inl (cL, 16384, .inr (.inl (aL (fun _ => lZ 0))))), (u_9.2.2, .inl (cL, 64, .inr (.inl (aL (fun _ => lZ 0))))), (q_16, .inr (3, [.ref q_5, .int (iZ 0), .int (iZ 0), .int (iZ 0), .int (iZ 0), .int (iZ 0), .int (iZ 0), .int (iZ 0)])), (q_31, .inr (0, [.int (iZ 0), .ref u_35])), (u_35, .inl (cB, 4096, .inl (aI (fun _ => iZ 0)))), (q_43, .inl (cF, 4, .inr (.inr (.inr (.inr (aQ (upZ (upZ (upZ (fun _ => none) 0 (some q_61)) (0 + 1) (some q_61_1)) ((0 + 1) + 1) (some q_61_2)))))))), (q_61, .inr (1, [.int (iZ 8), .int (iZ 8), .int (iZ 0), .ref u_65])), (u_65, .inl (cI, 8192, .inl (aI (fun _ => iZ 0)))), (q_61_1, .inr (1, [.int (iZ 8), .int (iZ 8), .int (iZ 0), .ref u_65_1])), (u_65_1, .inl (cI, 8192, .inl (aI (fun _ => iZ 0)))), (q_61_2, .inr (1, [.int (iZ 8), .int (iZ 8), .int (iZ 0), .ref u_65_2])), (u_65_2, .inl (cI, 8192, .inl (aI (fun _ => iZ 0)))), (q_61_3, .inr (1, [.int (iZ 8), .int (iZ 8), .int (iZ 0), .ref u_65_3])), (u_65_3, .inl (cI, 8192, .inl (aI (fun _ => iZ 0))))] H := hP
          have hD : va_D A [(hx_, .inr (4, [.ref q_5, .ref q_16, .ref q_31, .ref q_43])), (q_5, .inr (2, [.int (iZ 64), .int (iZ 64), .int (iZ 0), .ref u_9.1, .ref u_9.2.1, .ref u_9.2.2])), (u_9.1, .inl (cL, 16384, .inr (.inl (aL (fun _ => lZ 0))))), (u_9.2.1, .inl (cL, 16384, .inr (.inl (aL (fun _ => lZ 0))))), (u_9.2.2, .inl (cL, 64, .inr (.inl (aL (fun _ => lZ 0))))), (q_16, .inr (3, [.ref q_5, .int (iZ 0), .int (iZ 0), .int (iZ 0), .int (iZ 0), .int (iZ 0), .int (iZ 0), .int (iZ 0)])), (q_31, .inr (0, [.int (iZ 0), .ref u_35])), (u_35, .inl (cB, 4096, .inl (aI (fun _ => iZ 0)))), (q_43, .inl (cF, 4, .inr (.inr (.inr (.inr (aQ (upZ (upZ (upZ (fun _ => none) 0 (some q_61)) (0 + 1) (some q_61_1)) ((0 + 1) + 1) (some q_61_2)))))))), (q_61, .inr (1, [.int (iZ 8), .int (iZ 8), .int (iZ 0), .ref u_65])), (u_65, .inl (cI, 8192, .inl (aI (fun _ => iZ 0)))), (q_61_1, .inr (1, [.int (iZ 8), .int (iZ 8), .int (iZ 0), .ref u_65_1])), (u_65_1, .inl (cI, 8192, .inl (aI (fun _ => iZ 0)))), (q_61_2, .inr (1, [.int (iZ 8), .int (iZ 8), .int (iZ 0), .ref u_65_2])), (u_65_2, .inl (cI, 8192, .inl (aI (fun _ => iZ 0)))), (q_61_3, .inr (1, [.int (iZ 8), .int (iZ 8), .int (iZ 0), .ref u_65_3])), (u_65_3, .inl (cI, 8192, .inl (aI (fun _ => iZ 0))))] := hD
          refine z_astq (ci := 1) hx hb hK hP hD hS 8 3 15 rfl rfl rfl rfl (by omega) (by omega) (by omega) d_D_init_68 (fun H locs hP hD hS => ?_)
          have hP : va_P (dC, dI) vwCl [(hx_, .inr (4, [.ref q_5, .ref q_16, .ref q_31, .ref q_43])), (q_5, .inr (2, [.int (iZ 64), .int (iZ 64), .int (iZ 0), .ref u_9.1, .ref u_9.2.1, .ref u_9.2.2])), (u_9.1, .inl (cL, 16384, .inr (.inl (aL (fun _ => lZ 0))))), (u_9.2.1, .inl (cL, 16384, .inr (.inl (aL (fun _ => lZ 0))))), (u_9.2.2, .inl (cL, 64, .inr (.inl (aL (fun _ => lZ 0))))), (q_16, .inr (3, [.ref q_5, .int (iZ 0), .int (iZ 0), .int (iZ 0), .int (iZ 0), .int (iZ 0), .int (iZ 0), .int (iZ 0)])), (q_31, .inr (0, [.int (iZ 0), .ref u_35])), (u_35, .inl (cB, 4096, .inl (aI (fun _ => iZ 0)))), (q_43, .inl (cF, 4, .inr (.inr (.inr (.inr (aQ (upZ (upZ (upZ (upZ (fun _ => none) 0 (some q_61)) (0 + 1) (some q_61_1)) ((0 + 1) + 1) (some q_61_2)) (((0 + 1) + 1) + 1) (some q_61_3)))))))), (q_61, .inr (1, [.int (iZ 8), .int (iZ 8), .int (iZ 0), .ref u_65])), (u_65, .inl (cI, 8192, .inl (aI (fun _ => iZ 0)))), (q_61_1, .inr (1, [.int (iZ 8), .int (iZ 8), .int (iZ 0), .ref u_65_1])), (u_65_1, .inl (cI, 8192, .inl (aI (fun _ => iZ 0)))), (q_61_2, .inr (1, [.int (iZ 8), .int (iZ 8), .int (iZ 0), .ref u_65_2])), (u_65_2, .inl (cI, 8192, .inl (aI (fun _ => iZ 0)))), (q_61_3, .inr (1, [.int (iZ 8), .int (iZ 8), .int (iZ 0), .ref u_65_3])), (u_65_3, .inl (cI, 8192, .inl (aI (fun _ => iZ 0))))] H := hP
          have hD : va_D A [(hx_, .inr (4, [.ref q_5, .ref q_16, .ref q_31, .ref q_43])), (q_5, .inr (2, [.int (iZ 64), .int (iZ 64), .int (iZ 0), .ref u_9.1, .ref u_9.2.1, .ref u_9.2.2])), (u_9.1, .inl (cL, 16384, .inr (.inl (aL (fun _ => lZ 0))))), (u_9.2.1, .inl (cL, 16384, .inr (.inl (aL (fun _ => lZ 0))))), (u_9.2.2, .inl (cL, 64, .inr (.inl (aL (fun _ => lZ 0))))), (q_16, .inr (3, [.ref q_5, .int (iZ 0), .int (iZ 0), .int (iZ 0), .int (iZ 0), .int (iZ 0), .int (iZ 0), .int (iZ 0)])), (q_31, .inr (0, [.int (iZ 0), .ref u_35])), (u_35, .inl (cB, 4096, .inl (aI (fun _ => iZ 0)))), (q_43, .inl (cF, 4, .inr (.inr (.inr (.inr (aQ (upZ (upZ (upZ (upZ (fun _ => none) 0 (some q_61)) (0 + 1) (some q_61_1)) ((0 + 1) + 1) (some q_61_2)) (((0 + 1) + 1) + 1) (some q_61_3)))))))), (q_61, .inr (1, [.int (iZ 8), .int (iZ 8), .int (iZ 0), .ref u_65])), (u_65, .inl (cI, 8192, .inl (aI (fun _ => iZ 0)))), (q_61_1, .inr (1, [.int (iZ 8), .int (iZ 8), .int (iZ 0), .ref u_65_1])), (u_65_1, .inl (cI, 8192, .inl (aI (fun _ => iZ 0)))), (q_61_2, .inr (1, [.int (iZ 8), .int (iZ 8), .int (iZ 0), .ref u_65_2])), (u_65_2, .inl (cI, 8192, .inl (aI (fun _ => iZ 0)))), (q_61_3, .inr (1, [.int (iZ 8), .int (iZ 8), .int (iZ 0), .ref u_65_3])), (u_65_3, .inl (cI, 8192, .inl (aI (fun _ => iZ 0))))] := hD
          refine lv_iinc (v := iZ ((((0 + 1) + 1) + 1) + 1)) (lv' := [(1, .int (iZ ((((0 + 1) + 1) + 1) + 1))), (0, .ref hx_)]) hx hb d_D_init_69 hl (k := 0) rfl (iZ_add _ _) (by decide) rfl (fun ls hl => ?_)
          refine lv_goto (tgt := 51) hx hb d_D_init_72 (by decide) ?_
          refine lv_iload_n hx hb d_D_init_51 rfl (lv_at hl 0 rfl) ?_
          refine lv_iconst (v := iZ (4)) hx hb d_D_init_52 rfl ?_
          refine zi_ge (tgt := 75) hx hb d_D_init_53 (by decide) (by omega) (by omega) (by omega) (by omega) (fun c_53 => ?_) (fun c_53 => ?_)
          · exact W.vret hx hb hr (fun t ht hW => ⟨⟨((fun n => [q_5, u_9.1, u_9.2.1, u_9.2.2, q_16, q_31, u_35, q_43, q_61, u_65, q_61_1, u_65_1, q_61_2, u_65_2, q_61_3, u_65_3].getD n 0, upZ (upZ (upZ (upZ (fun _ => none) 0 (some q_61)) (0 + 1) (some q_61_1)) ((0 + 1) + 1) (some q_61_2)) (((0 + 1) + 1) + 1) (some q_61_3))), rfl, ⟨rfl, rfl, rfl, rfl⟩, by rw [ht]; exact hP, va_K.moved hW.alike hK, hD⟩, hS.F ht⟩) hS.2.2 d_D_init_75
          · exact absurd c_53 (by omega)
