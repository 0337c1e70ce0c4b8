theorem nIZ (n : Nat) : Int32.ofNat n = iZ (n : Int) := (Int32.ofInt_eq_ofNat (n := n)).symm
theorem and31 (x : Int32) : ∃ t : Int, x &&& iZ 31 = iZ t ∧ 0 ≤ t ∧ t ≤ 31 := by
  obtain ⟨j, hj, h⟩ := pk_andE x (m := iZ 31) 5 (by decide)
  exact ⟨(j : Int), h.trans (nIZ j), by omega, by omega⟩
set_option maxHeartbeats 4000000 in
set_option maxRecDepth 100000 in
/-- THE LAW'S LOOP: at its head, with i ints read, both worlds agree -/
theorem law_loop {p : Program} {l : Launch} {e : Env} {s : State} {m : MethodId} {below : List Frame} {meth : Method} {c : Code} {dC : Nat → ClassId} {dI : Nat → Nat → Nat} {b L : Nat} {xs : Nat → Int32} (hnt : l.stackTraces = false) (sa : Nat → Nat) {cL cB cI cZ cF : ClassId} (hL : L ≤ 3072) (C0 : lw_At p s m meth c b L xs) (hK : va_K (dC, dI) vwCl (lawT cL cB cI cZ cF) s) {A : Nat → Prop} (hA : ∀ q : Nat, s.heap.size ≤ q → A q) (hAf : ∀ q : Nat, A q → s.heap.size ≤ q) (hbA : ¬ A b) (hXK : xK sa A s s.heap) (hyN : yN s) : ∀ (n : Nat) (i : Int) (cells slots : Nat), 0 ≤ i → i ≤ 3072 → (3078 - i).toNat < n → 6 * (cells : Int) ≤ 600 + 8 * i → 6 * (slots : Int) ≤ 1200000 + 64 * i → lawA p l e s m below meth c b dC dI cL cB cI cZ cF A i cells slots 23 := by
  intro n
  induction n with
  | zero => intro i cells slots _ _ hm; exact absurd hm (by omega)
  | succ n ih =>
    intro i cells slots i0 i3 hm hc hs v hI H locs hP hD hS ls hl
    obtain ⟨hx, hb, hr, hml, hown, hts0, hX, hbl, hlocks, hgv⟩ := id C0
    refine lv_iload hx hb d_law_23 (lv_at hl 4 rfl) ?_
    refine lv_aload_n hx hb d_law_25 rfl (lv_at hl 0 rfl) ?_
    refine va_slen hx hb hX hbl hbA hS d_law_26 ?_
    refine zn_eq (v2 := .int (iZ (L : Int))) (congrArg Value.int (nIZ L)) ?_
    refine lv_bipush (v := iZ 6) hx hb d_law_27 (by decide) ?_
    refine zi_sub hx hb d_law_29 ?_
    refine zi_gt (tgt := 1570) hx hb d_law_30 (by decide) (by omega) (by omega) (by omega) (by omega) (fun c_30 => ?_) (fun c_30 => ?_)
    · refine lv_iconst (v := 1) hx hb d_law_1570 (by decide) ?_
      refine va_forget (fun q hq => hAf _ (hS.2.2 q hq)) ?_
      refine W.widen (k := 601024) (n := 7293033) (by omega) (by omega) ?_
      exact lw_ret hx hb hr hlocks d_law_1571
    · refine lv_aload_n hx hb d_law_33 rfl (lv_at hl 0 rfl) ?_
      refine lv_iload hx hb d_law_34 (lv_at hl 4 rfl) ?_
      obtain ⟨s0, hs0, s0a, s0b⟩ := s_ex xs i.toNat
      refine z_sld (z := s0) hx hb hX hbl hbA hS (by omega) (by omega) (by omega) hs0 d_law_36 ?_
      refine lv_bipush (v := iZ 31) hx hb d_law_37 (by decide) ?_
      refine lv_iand hx hb d_law_39 ?_
      obtain ⟨t, ht, t0, t1⟩ := and31 (iZ s0)
      refine zn_eq (v2 := .int (iZ t)) (congrArg Value.int ht) ?_
      have kk : lawA p l e s m below meth c b dC dI cL cB cI cZ cF A i (cells + 8) (slots + 64) 1564 := by
        intro v hI H locs hP hD hS ls hl
        refine lv_iinc (v := iZ (i + 6)) (lv' := [(4, .int (iZ (i + 6))), (0, .ref b), (1, .ref v.hx), (2, .ref v.hm), (3, .ref v.ho)]) hx hb d_law_1564 hl (k := 4) rfl (iZ_add _ _) (by decide) rfl (fun ls hl => ?_)
        refine lv_goto (tgt := 23) hx hb d_law_1567 (by decide) ?_
        exact ih (i + 6) _ _ (by omega) (by omega) (by omega) (by omega) (by omega) v hI H locs hP hD hS ls (lv_sub hl [1, 2, 3, 4, 0] rfl)
      by_cases s_40 : t = 0
      · refine zt_in (tgt := 128) (k := 0) hx hb d_law_40 s_40 (by decide) (by decide) (by decide) (by decide) rfl (by decide) ?_
        exact law_sheet hnt sa hL C0 hK hA hbA hXK hyN i0 (by omega) (by omega) (by omega) kk v hI H locs hP hD hS ls hl
      have s_40_0 := s_40
      by_cases s_40 : t = 1
      · refine zt_in (tgt := 176) (k := 1) hx hb d_law_40 s_40 (by decide) (by decide) (by decide) (by decide) rfl (by decide) ?_
        exact law_way hnt sa hL C0 hK hA hbA hXK hyN i0 (by omega) (by omega) (by omega) kk v hI H locs hP hD hS ls hl
      have s_40_1 := s_40
      by_cases s_40 : t = 2
      · refine zt_in (tgt := 232) (k := 2) hx hb d_law_40 s_40 (by decide) (by decide) (by decide) (by decide) rfl (by decide) ?_
        exact law_write hnt sa hL C0 hK hA hbA hXK hyN i0 (by omega) (by omega) (by omega) kk v hI H locs hP hD hS ls hl
      have s_40_2 := s_40
      by_cases s_40 : t = 3
      · refine zt_in (tgt := 332) (k := 3) hx hb d_law_40 s_40 (by decide) (by decide) (by decide) (by decide) rfl (by decide) ?_
        exact law_wipe hnt sa hL C0 hK hA hbA hXK hyN i0 (by omega) (by omega) (by omega) kk v hI H locs hP hD hS ls hl
      have s_40_3 := s_40
      by_cases s_40 : t = 4
      · refine zt_in (tgt := 345) (k := 4) hx hb d_law_40 s_40 (by decide) (by decide) (by decide) (by decide) rfl (by decide) ?_
        exact law_frame hnt sa hL C0 hK hA hbA hXK hyN i0 (by omega) (by omega) (by omega) kk v hI H locs hP hD hS ls hl
      have s_40_4 := s_40
      by_cases s_40 : t = 5
      · refine zt_in (tgt := 449) (k := 5) hx hb d_law_40 s_40 (by decide) (by decide) (by decide) (by decide) rfl (by decide) ?_
        exact law_line hnt sa hL C0 hK hA hbA hXK hyN i0 (by omega) (by omega) (by omega) kk v hI H locs hP hD hS ls hl
      have s_40_5 := s_40
      by_cases s_40 : t = 6
      · refine zt_in (tgt := 553) (k := 6) hx hb d_law_40 s_40 (by decide) (by decide) (by decide) (by decide) rfl (by decide) ?_
        exact law_ellipse hnt sa hL C0 hK hA hbA hXK hyN i0 (by omega) (by omega) (by omega) kk v hI H locs hP hD hS ls hl
      have s_40_6 := s_40
      by_cases s_40 : t = 7
      · refine zt_in (tgt := 657) (k := 7) hx hb d_law_40 s_40 (by decide) (by decide) (by decide) (by decide) rfl (by decide) ?_
        exact law_font hnt sa hL C0 hK hA hbA hXK hyN i0 (by omega) (by omega) (by omega) kk v hI H locs hP hD hS ls hl
      have s_40_7 := s_40
      by_cases s_40 : t = 8
      · refine zt_in (tgt := 729) (k := 8) hx hb d_law_40 s_40 (by decide) (by decide) (by decide) (by decide) rfl (by decide) ?_
        exact law_cell hnt sa hL C0 hK hA hbA hXK hyN i0 (by omega) (by omega) (by omega) kk v hI H locs hP hD hS ls hl
      have s_40_8 := s_40
      by_cases s_40 : t = 9
      · refine zt_in (tgt := 801) (k := 9) hx hb d_law_40 s_40 (by decide) (by decide) (by decide) (by decide) rfl (by decide) ?_
        exact law_text hnt sa hL C0 hK hA hbA hXK hyN i0 (by omega) (by omega) (by omega) kk v hI H locs hP hD hS ls hl
      have s_40_9 := s_40
      by_cases s_40 : t = 10
      · refine zt_in (tgt := 905) (k := 10) hx hb d_law_40 s_40 (by decide) (by decide) (by decide) (by decide) rfl (by decide) ?_
        exact law_bars hnt sa hL C0 hK hA hbA hXK hyN i0 (by omega) (by omega) (by omega) kk v hI H locs hP hD hS ls hl
      have s_40_10 := s_40
      by_cases s_40 : t = 11
      · refine zt_in (tgt := 1009) (k := 11) hx hb d_law_40 s_40 (by decide) (by decide) (by decide) (by decide) rfl (by decide) ?_
        exact law_square hnt sa hL C0 hK hA hbA hXK hyN i0 (by omega) (by omega) (by omega) kk v hI H locs hP hD hS ls hl
      have s_40_11 := s_40
      by_cases s_40 : t = 12
      · refine zt_in (tgt := 1113) (k := 12) hx hb d_law_40 s_40 (by decide) (by decide) (by decide) (by decide) rfl (by decide) ?_
        exact law_picture hnt sa hL C0 hK hA hbA hXK hyN i0 (by omega) (by omega) (by omega) kk v hI H locs hP hD hS ls hl
      have s_40_12 := s_40
      by_cases s_40 : t = 13
      · refine zt_in (tgt := 1193) (k := 13) hx hb d_law_40 s_40 (by decide) (by decide) (by decide) (by decide) rfl (by decide) ?_
        exact law_turn hnt sa hL C0 hK hA hbA hXK hyN i0 (by omega) (by omega) (by omega) kk v hI H locs hP hD hS ls hl
      have s_40_13 := s_40
      by_cases s_40 : t = 14
      · refine zt_in (tgt := 1229) (k := 14) hx hb d_law_40 s_40 (by decide) (by decide) (by decide) (by decide) rfl (by decide) ?_
        exact law_told hnt sa hL C0 hK hA hbA hXK hyN i0 (by omega) (by omega) (by omega) kk v hI H locs hP hD hS ls hl
      have s_40_14 := s_40
      by_cases s_40 : t = 15
      · refine zt_in (tgt := 1285) (k := 15) hx hb d_law_40 s_40 (by decide) (by decide) (by decide) (by decide) rfl (by decide) ?_
        exact law_count hnt sa hL C0 hK hA hbA hXK hyN i0 (by omega) (by omega) (by omega) kk v hI H locs hP hD hS ls hl
      have s_40_15 := s_40
      by_cases s_40 : t = 16
      · refine zt_in (tgt := 1377) (k := 16) hx hb d_law_40 s_40 (by decide) (by decide) (by decide) (by decide) rfl (by decide) ?_
        exact law_dots hnt sa hL C0 hK hA hbA hXK hyN i0 (by omega) (by omega) (by omega) kk v hI H locs hP hD hS ls hl
      have s_40_16 := s_40
      by_cases s_40 : t = 17
      · refine zt_in (tgt := 1456) (k := 17) hx hb d_law_40 s_40 (by decide) (by decide) (by decide) (by decide) rfl (by decide) ?_
        exact law_run hnt sa hL C0 hK hA hbA hXK hyN i0 (by omega) (by omega) (by omega) kk v hI H locs hP hD hS ls hl
      have s_40_17 := s_40
      refine zt_out (tgt := 1564) hx hb d_law_40 (by omega) (by omega) (by omega) (by decide) ?_
      refine W.widen (k := cells + 8) (n := slots + 64) (by omega) (by omega) ?_
      exact kk v hI H locs hP hD hS ls hl
