/-! THE CLAIM OUT OF ONE WALK OF THE LAW'S BODY. Your part is whole_start (and what it stands on); all else here is the same for every law, but numbers. -/
def R_law : String := "DotSheetLaw"
def lw_P (b : Addr) (xs : List Int32) (args : Array Value) (s : State) : Prop := args = #[.ref b] ∧ s.IntsAt b xs ∧ xs.length ≤ 3072 ∧ (Jvm.Cond.and given_1 narrow_1).before args s = true
def lw_Q (_ : Array Value) (s : State) (o : Outcome) (t : State) : Prop := o = .returned (some (.int 1)) ∧ Framed s o t [] 601024 7293033
def lw_Z (below : List Frame) (a : Array Value) (s : State) : State → Prop := fun t => ∃ o, t.status = .running ∧ Ended t below o ∧ lw_Q a s o t
/-- the law's own end, with 1 on the stack, nothing written that was there before, its room as the claim has it -/
theorem lw_ret {p : Program} {l : Launch} {e : Env} {s : State} {m : MethodId} {below : List Frame} {meth : Method} {c : Code} {b : Nat} (hx : p.tables.exec = Jvm.exec) (hb : c.code = code) (hr : meth.sig.returnType = ret) (hlocks : meth.locks = false) {pc : Nat} {H : Heap} {ls : Array Slot} (hdg : decode code pc = .ok (.ireturn, 1)) : W p l e room_1 s m #[Value.ref b] below meth c H [] 601024 7293033 (lw_Z below #[Value.ref b] s) (F0 m pc ls [.int 1]) := by
  intro T hT X
  obtain ⟨fs, hret, hrun, hended, hW, hframe⟩ := X.leave (v := some (.int 1)) (hlocks := hlocks) (fun h => by rw [hr] at h; cases h)
  have hmeth' : T.vm.method? m = some meth := X.method'
  refine ⟨T.setFrames fs, ?_, .returned (some (.int 1)), hrun, hended, rfl, ⟨_, rfl⟩, hW, hframe⟩
  jvm_step X.here [X.here.top, hx, hb, hdg, hmeth', hr, ret, narrow_b1]
  (try refine ⟨rfl, ?_⟩); (try refine ⟨rfl, ?_⟩)
  first | (intro acts; rw [hret _ acts rfl rfl rfl]) | rw [hret _ _ rfl rfl rfl]
  exact Steps.refl _
/-- what holds at the law's entry: the machine, the code, the tables' words (any of lw_tbl by 'hts w (by decide +kernel)'), the script of L ints xs at the cell b, what the Statement gives of the start (any of its parts by flat_of_before) -/
def lw_At (p : Program) (s : State) (m : MethodId) (meth : Method) (c : Code) (b L : Nat) (xs : Nat → Int32) : Prop :=
  p.tables.exec = Jvm.exec ∧ c.code = code ∧ meth.sig.returnType = ret ∧ c.maxLocals = 8 ∧ s.vm.findClass R_law = some m.cls ∧ (∀ w ∈ lw_tbl, w.before #[Value.ref b] s = true) ∧ va_X b L xs s s.heap ∧ b < s.heap.size ∧ meth.locks = false ∧ (Jvm.Cond.and given_1 narrow_1).before #[Value.ref b] s = true
/-! THE LAW'S STATE: both worlds by their values, and what ties them -/
theorem off_drw {w h mn : Int} {S : Int → Int → Bool} {pic : Int → Int → Bool} (hO : Off w h pic) : Off w h (drw mn (fun px py => onB w h px py && S px py) pic) := by
  intro x y q
  show (if (onB w h x y && S x y) then flB mn (pic x y) else pic x y) = false
  rw [q, Bool.false_and, if_neg (by decide)]
  exact hO x y q
theorem off_no {w h : Int} : Off w h (fun _ _ => false) := fun _ _ _ => rfl
theorem edgeS_u {P : Int → Prop} {a b : Int} (h1 : edgeS P a) (h2 : edgeS P b) : a = b := by
  rcases h1 with ⟨e1, n1⟩ | ⟨z1, p1, m1⟩ <;> rcases h2 with ⟨e2, n2⟩ | ⟨z2, p2, m2⟩
  · rw [e1, e2]
  · exact absurd p2 (n1 b)
  · exact absurd p1 (n2 a)
  · have := m1 b p2; have := m2 a p1; omega
theorem edgeG_u {P : Int → Prop} {a b : Int} (h1 : edgeG P a) (h2 : edgeG P b) : a = b := by
  rcases h1 with ⟨e1, n1⟩ | ⟨z1, p1, m1⟩ <;> rcases h2 with ⟨e2, n2⟩ | ⟨z2, p2, m2⟩
  · rw [e1, e2]
  · exact absurd p2 (n1 b)
  · exact absurd p1 (n2 a)
  · have := m1 b p2; have := m2 a p1; omega
theorem tolS_u {w h wh a b : Int} {pic : Int → Int → Bool} (l : 0 ≤ wh) (u : wh ≤ 6) (h1 : tolS w h pic wh a) (h2 : tolS w h pic wh b) : a = b := by
  obtain ⟨a0, a1, a2, a3, a4, a5, a6⟩ := h1
  obtain ⟨b0, b1, b2, b3, b4, b5, b6⟩ := h2
  rcases (show wh = 0 ∨ wh = 1 ∨ wh = 2 ∨ wh = 3 ∨ wh = 4 ∨ wh = 5 ∨ wh = 6 by omega) with q | q | q | q | q | q | q
  · rw [a0 q, b0 q]
  · rw [a1 q, b1 q]
  · exact edgeS_u (a2 q) (b2 q)
  · exact edgeS_u (a3 q) (b3 q)
  · exact edgeG_u (a4 q) (b4 q)
  · exact edgeG_u (a5 q) (b5 q)
  · rw [a6 q, b6 q]
theorem trN_ok {w h : Int} {pic : Int → Int → Bool} (w1 : 1 ≤ w) (w2 : w ≤ 1024) (h1 : 1 ≤ h) (h2 : h ≤ 1024) (hO : Off w h pic) (n : Nat) : (1 ≤ (trN w h pic n).1 ∧ (trN w h pic n).1 ≤ 1024) ∧ (1 ≤ (trN w h pic n).2.1 ∧ (trN w h pic n).2.1 ≤ 1024) ∧ Off (trN w h pic n).1 (trN w h pic n).2.1 (trN w h pic n).2.2 := by
  induction n with
  | zero => exact ⟨⟨w1, w2⟩, ⟨h1, h2⟩, hO⟩
  | succ n ih => exact ⟨ih.2.1, ih.1, tr_off ih.2.2⟩
def FontJ (fw fh fg : Int) (X Sz Ce : Int → Int32) (f : Int) : Prop := (1 ≤ fw ∧ fw ≤ 32) ∧ (1 ≤ fh ∧ fh ≤ 32) ∧ (0 ≤ fg ∧ fg ≤ 32) ∧ (Sz (3 * f) = iZ fw ∧ Sz (3 * f + 1) = iZ fh ∧ Sz (3 * f + 2) = iZ fg) ∧ ∀ k : Int, 0 ≤ k → k < 8192 → Ce (8192 * f + k) = X k
theorem fj_fo {fw fh fg f g a b d : Int} {X Sz Ce S' C' : Int → Int32} (J : FontJ fw fh fg X Sz Ce g) (hn : g ≠ f) (g0 : 0 ≤ g) (g1 : g ≤ 3) (e1 : S' = upZ (upZ (upZ Sz (3 * f) (iZ a)) (3 * f + 1) (iZ b)) (3 * f + 2) (iZ d)) (e2 : ∀ k : Int, 0 ≤ k → k < 32768 → C' k = if 8192 * f ≤ k ∧ k < 8192 * f + 8192 then iZ 0 else Ce k) : FontJ fw fh fg X S' C' g := by
  obtain ⟨j1, j2, j3, ⟨j4, j5, j6⟩, j7⟩ := J
  subst e1
  refine ⟨j1, j2, j3, ⟨?_, ?_, ?_⟩, fun k k0 k1 => ?_⟩
  · rw [upZ_n _ _ (by omega), upZ_n _ _ (by omega), upZ_n _ _ (by omega)]; exact j4
  · rw [upZ_n _ _ (by omega), upZ_n _ _ (by omega), upZ_n _ _ (by omega)]; exact j5
  · rw [upZ_n _ _ (by omega), upZ_n _ _ (by omega), upZ_n _ _ (by omega)]; exact j6
  · rw [e2 _ (by omega) (by omega), if_neg (by omega)]; exact j7 k k0 k1
theorem fj_fs {f a b d : Int} {X Sz Ce S' C' : Int → Int32} (f0 : 0 ≤ f) (f1 : f ≤ 3) (a0 : 1 ≤ a ∧ a ≤ 32) (b0 : 1 ≤ b ∧ b ≤ 32) (d0 : 0 ≤ d ∧ d ≤ 32) (e1 : S' = upZ (upZ (upZ Sz (3 * f) (iZ a)) (3 * f + 1) (iZ b)) (3 * f + 2) (iZ d)) (e2 : ∀ k : Int, 0 ≤ k → k < 32768 → C' k = if 8192 * f ≤ k ∧ k < 8192 * f + 8192 then iZ 0 else Ce k) (e3 : ∀ i : Int, 0 ≤ i → i < 8192 → X i = iZ 0) : FontJ a b d X S' C' f := by
  subst e1
  refine ⟨a0, b0, d0, ⟨?_, ?_, ?_⟩, fun k k0 k1 => ?_⟩
  · rw [upZ_n _ _ (by omega), upZ_n _ _ (by omega), upZ_s]
  · rw [upZ_n _ _ (by omega), upZ_s]
  · rw [upZ_s]
  · rw [e2 _ (by omega) (by omega), if_pos (by omega), e3 k k0 k1]
theorem fj_co {fw fh fg f g cd r0 : Int} {X Sz Ce : Int → Int32} {bits : Int32} (J : FontJ fw fh fg X Sz Ce g) (hn : g ≠ f) (c0 : 0 ≤ cd) (c1 : cd ≤ 255) (r1 : 0 ≤ r0) (r2 : r0 ≤ 31) : FontJ fw fh fg X Sz (upZ Ce (8192 * f + 32 * cd + r0) bits) g :=
  ⟨J.1, J.2.1, J.2.2.1, J.2.2.2.1, fun k k0 k1 => by rw [upZ_n _ _ (by omega)]; exact J.2.2.2.2 k k0 k1⟩
theorem fj_cs {fw fh fg f cd r0 : Int} {X Sz Ce : Int → Int32} {bits : Int32} (J : FontJ fw fh fg X Sz Ce f) : FontJ fw fh fg (upZ X (cd * 32 + r0) bits) Sz (upZ Ce (8192 * f + 32 * cd + r0) bits) f :=
  ⟨J.1, J.2.1, J.2.2.1, J.2.2.2.1, fun k k0 k1 => by
    by_cases q : k = cd * 32 + r0
    · rw [q, upZ_s, show 8192 * f + (cd * 32 + r0) = 8192 * f + 32 * cd + r0 by omega, upZ_s]
    · rw [upZ_n _ _ q, upZ_n _ _ (by omega)]; exact J.2.2.2.2 k k0 k1⟩
def LawS : Type := Nat × Nat × Nat × Nat × Nat × Nat × Nat × Nat × Nat × Nat × Nat × Nat × Nat × Nat × Nat × Nat × Nat × Nat × Nat × Nat × Nat × Nat × Nat × Nat × Nat × Int × Int × Int × Int × Int × Int × Int × Int × Int × Int × Int × Int × Int × Int × Int × Int × Int × Int × Int × Int × Int × Int × Int × Int × Int × Int × Int × Int × Int × Int × Int × (Int → Int64) × (Int → Int64) × (Int → Int64) × (Int → Int64) × (Int → Int32) × (Int → Int32) × (Int → Int32) × (Int → Int32) × (Int → Int32) × (Int → Int32) × (Int → Int32) × (Int → Int32) × (Int → Int32) × (Int → Int32) × (Int → Int32) × (Int → Option Nat)
def LawS.hx (v : LawS) : Nat := v.1
def LawS.hp (v : LawS) : Nat := v.2.1
def LawS.hw (v : LawS) : Nat := v.2.2.1
def LawS.hs (v : LawS) : Nat := v.2.2.2.1
def LawS.hk (v : LawS) : Nat := v.2.2.2.2.1
def LawS.hst (v : LawS) : Nat := v.2.2.2.2.2.1
def LawS.hd (v : LawS) : Nat := v.2.2.2.2.2.2.1
def LawS.hy (v : LawS) : Nat := v.2.2.2.2.2.2.2.1
def LawS.hfa (v : LawS) : Nat := v.2.2.2.2.2.2.2.2.1
def LawS.hm (v : LawS) : Nat := v.2.2.2.2.2.2.2.2.2.1
def LawS.zd (v : LawS) : Nat := v.2.2.2.2.2.2.2.2.2.2.1
def LawS.zb (v : LawS) : Nat := v.2.2.2.2.2.2.2.2.2.2.2.1
def LawS.zt (v : LawS) : Nat := v.2.2.2.2.2.2.2.2.2.2.2.2.1
def LawS.zs (v : LawS) : Nat := v.2.2.2.2.2.2.2.2.2.2.2.2.2.1
def LawS.zc (v : LawS) : Nat := v.2.2.2.2.2.2.2.2.2.2.2.2.2.2.1
def LawS.zo (v : LawS) : Nat := v.2.2.2.2.2.2.2.2.2.2.2.2.2.2.2.1
def LawS.ho (v : LawS) : Nat := v.2.2.2.2.2.2.2.2.2.2.2.2.2.2.2.2.1
def LawS.hf0 (v : LawS) : Nat := v.2.2.2.2.2.2.2.2.2.2.2.2.2.2.2.2.2.1
def LawS.hr0 (v : LawS) : Nat := v.2.2.2.2.2.2.2.2.2.2.2.2.2.2.2.2.2.2.1
def LawS.hf1 (v : LawS) : Nat := v.2.2.2.2.2.2.2.2.2.2.2.2.2.2.2.2.2.2.2.1
def LawS.hr1 (v : LawS) : Nat := v.2.2.2.2.2.2.2.2.2.2.2.2.2.2.2.2.2.2.2.2.1
def LawS.hf2 (v : LawS) : Nat := v.2.2.2.2.2.2.2.2.2.2.2.2.2.2.2.2.2.2.2.2.2.1
def LawS.hr2 (v : LawS) : Nat := v.2.2.2.2.2.2.2.2.2.2.2.2.2.2.2.2.2.2.2.2.2.2.1
def LawS.hf3 (v : LawS) : Nat := v.2.2.2.2.2.2.2.2.2.2.2.2.2.2.2.2.2.2.2.2.2.2.2.1
def LawS.hr3 (v : LawS) : Nat := v.2.2.2.2.2.2.2.2.2.2.2.2.2.2.2.2.2.2.2.2.2.2.2.2.1
def LawS.w (v : LawS) : Int := v.2.2.2.2.2.2.2.2.2.2.2.2.2.2.2.2.2.2.2.2.2.2.2.2.2.1
def LawS.h (v : LawS) : Int := v.2.2.2.2.2.2.2.2.2.2.2.2.2.2.2.2.2.2.2.2.2.2.2.2.2.2.1
def LawS.mn (v : LawS) : Int := v.2.2.2.2.2.2.2.2.2.2.2.2.2.2.2.2.2.2.2.2.2.2.2.2.2.2.2.1
def LawS.sx (v : LawS) : Int := v.2.2.2.2.2.2.2.2.2.2.2.2.2.2.2.2.2.2.2.2.2.2.2.2.2.2.2.2.1
def LawS.sy (v : LawS) : Int := v.2.2.2.2.2.2.2.2.2.2.2.2.2.2.2.2.2.2.2.2.2.2.2.2.2.2.2.2.2.1
def LawS.sq (v : LawS) : Int := v.2.2.2.2.2.2.2.2.2.2.2.2.2.2.2.2.2.2.2.2.2.2.2.2.2.2.2.2.2.2.1
def LawS.sl (v : LawS) : Int := v.2.2.2.2.2.2.2.2.2.2.2.2.2.2.2.2.2.2.2.2.2.2.2.2.2.2.2.2.2.2.2.1
def LawS.sp (v : LawS) : Int := v.2.2.2.2.2.2.2.2.2.2.2.2.2.2.2.2.2.2.2.2.2.2.2.2.2.2.2.2.2.2.2.2.1
def LawS.sr (v : LawS) : Int := v.2.2.2.2.2.2.2.2.2.2.2.2.2.2.2.2.2.2.2.2.2.2.2.2.2.2.2.2.2.2.2.2.2.1
def LawS.sb (v : LawS) : Int := v.2.2.2.2.2.2.2.2.2.2.2.2.2.2.2.2.2.2.2.2.2.2.2.2.2.2.2.2.2.2.2.2.2.2.1
def LawS.n (v : LawS) : Int := v.2.2.2.2.2.2.2.2.2.2.2.2.2.2.2.2.2.2.2.2.2.2.2.2.2.2.2.2.2.2.2.2.2.2.2.1
def LawS.tw (v : LawS) : Int := v.2.2.2.2.2.2.2.2.2.2.2.2.2.2.2.2.2.2.2.2.2.2.2.2.2.2.2.2.2.2.2.2.2.2.2.2.1
def LawS.fx (v : LawS) : Int := v.2.2.2.2.2.2.2.2.2.2.2.2.2.2.2.2.2.2.2.2.2.2.2.2.2.2.2.2.2.2.2.2.2.2.2.2.2.1
def LawS.fy (v : LawS) : Int := v.2.2.2.2.2.2.2.2.2.2.2.2.2.2.2.2.2.2.2.2.2.2.2.2.2.2.2.2.2.2.2.2.2.2.2.2.2.2.1
def LawS.fa (v : LawS) : Int := v.2.2.2.2.2.2.2.2.2.2.2.2.2.2.2.2.2.2.2.2.2.2.2.2.2.2.2.2.2.2.2.2.2.2.2.2.2.2.2.1
def LawS.fb (v : LawS) : Int := v.2.2.2.2.2.2.2.2.2.2.2.2.2.2.2.2.2.2.2.2.2.2.2.2.2.2.2.2.2.2.2.2.2.2.2.2.2.2.2.2.1
def LawS.fc (v : LawS) : Int := v.2.2.2.2.2.2.2.2.2.2.2.2.2.2.2.2.2.2.2.2.2.2.2.2.2.2.2.2.2.2.2.2.2.2.2.2.2.2.2.2.2.1
def LawS.qr (v : LawS) : Int := v.2.2.2.2.2.2.2.2.2.2.2.2.2.2.2.2.2.2.2.2.2.2.2.2.2.2.2.2.2.2.2.2.2.2.2.2.2.2.2.2.2.2.1
def LawS.fo (v : LawS) : Int := v.2.2.2.2.2.2.2.2.2.2.2.2.2.2.2.2.2.2.2.2.2.2.2.2.2.2.2.2.2.2.2.2.2.2.2.2.2.2.2.2.2.2.2.1
def LawS.fw0 (v : LawS) : Int := v.2.2.2.2.2.2.2.2.2.2.2.2.2.2.2.2.2.2.2.2.2.2.2.2.2.2.2.2.2.2.2.2.2.2.2.2.2.2.2.2.2.2.2.2.1
def LawS.fh0 (v : LawS) : Int := v.2.2.2.2.2.2.2.2.2.2.2.2.2.2.2.2.2.2.2.2.2.2.2.2.2.2.2.2.2.2.2.2.2.2.2.2.2.2.2.2.2.2.2.2.2.1
def LawS.fg0 (v : LawS) : Int := v.2.2.2.2.2.2.2.2.2.2.2.2.2.2.2.2.2.2.2.2.2.2.2.2.2.2.2.2.2.2.2.2.2.2.2.2.2.2.2.2.2.2.2.2.2.2.1
def LawS.fw1 (v : LawS) : Int := v.2.2.2.2.2.2.2.2.2.2.2.2.2.2.2.2.2.2.2.2.2.2.2.2.2.2.2.2.2.2.2.2.2.2.2.2.2.2.2.2.2.2.2.2.2.2.2.1
def LawS.fh1 (v : LawS) : Int := v.2.2.2.2.2.2.2.2.2.2.2.2.2.2.2.2.2.2.2.2.2.2.2.2.2.2.2.2.2.2.2.2.2.2.2.2.2.2.2.2.2.2.2.2.2.2.2.2.1
def LawS.fg1 (v : LawS) : Int := v.2.2.2.2.2.2.2.2.2.2.2.2.2.2.2.2.2.2.2.2.2.2.2.2.2.2.2.2.2.2.2.2.2.2.2.2.2.2.2.2.2.2.2.2.2.2.2.2.2.1
def LawS.fw2 (v : LawS) : Int := v.2.2.2.2.2.2.2.2.2.2.2.2.2.2.2.2.2.2.2.2.2.2.2.2.2.2.2.2.2.2.2.2.2.2.2.2.2.2.2.2.2.2.2.2.2.2.2.2.2.2.1
def LawS.fh2 (v : LawS) : Int := v.2.2.2.2.2.2.2.2.2.2.2.2.2.2.2.2.2.2.2.2.2.2.2.2.2.2.2.2.2.2.2.2.2.2.2.2.2.2.2.2.2.2.2.2.2.2.2.2.2.2.2.1
def LawS.fg2 (v : LawS) : Int := v.2.2.2.2.2.2.2.2.2.2.2.2.2.2.2.2.2.2.2.2.2.2.2.2.2.2.2.2.2.2.2.2.2.2.2.2.2.2.2.2.2.2.2.2.2.2.2.2.2.2.2.2.1
def LawS.fw3 (v : LawS) : Int := v.2.2.2.2.2.2.2.2.2.2.2.2.2.2.2.2.2.2.2.2.2.2.2.2.2.2.2.2.2.2.2.2.2.2.2.2.2.2.2.2.2.2.2.2.2.2.2.2.2.2.2.2.2.1
def LawS.fh3 (v : LawS) : Int := v.2.2.2.2.2.2.2.2.2.2.2.2.2.2.2.2.2.2.2.2.2.2.2.2.2.2.2.2.2.2.2.2.2.2.2.2.2.2.2.2.2.2.2.2.2.2.2.2.2.2.2.2.2.2.1
def LawS.fg3 (v : LawS) : Int := v.2.2.2.2.2.2.2.2.2.2.2.2.2.2.2.2.2.2.2.2.2.2.2.2.2.2.2.2.2.2.2.2.2.2.2.2.2.2.2.2.2.2.2.2.2.2.2.2.2.2.2.2.2.2.2.1
def LawS.G (v : LawS) : Int → Int64 := v.2.2.2.2.2.2.2.2.2.2.2.2.2.2.2.2.2.2.2.2.2.2.2.2.2.2.2.2.2.2.2.2.2.2.2.2.2.2.2.2.2.2.2.2.2.2.2.2.2.2.2.2.2.2.2.2.1
def LawS.Sp (v : LawS) : Int → Int64 := v.2.2.2.2.2.2.2.2.2.2.2.2.2.2.2.2.2.2.2.2.2.2.2.2.2.2.2.2.2.2.2.2.2.2.2.2.2.2.2.2.2.2.2.2.2.2.2.2.2.2.2.2.2.2.2.2.2.1
def LawS.Bk (v : LawS) : Int → Int64 := v.2.2.2.2.2.2.2.2.2.2.2.2.2.2.2.2.2.2.2.2.2.2.2.2.2.2.2.2.2.2.2.2.2.2.2.2.2.2.2.2.2.2.2.2.2.2.2.2.2.2.2.2.2.2.2.2.2.2.1
def LawS.O (v : LawS) : Int → Int64 := v.2.2.2.2.2.2.2.2.2.2.2.2.2.2.2.2.2.2.2.2.2.2.2.2.2.2.2.2.2.2.2.2.2.2.2.2.2.2.2.2.2.2.2.2.2.2.2.2.2.2.2.2.2.2.2.2.2.2.2.1
def LawS.Y (v : LawS) : Int → Int32 := v.2.2.2.2.2.2.2.2.2.2.2.2.2.2.2.2.2.2.2.2.2.2.2.2.2.2.2.2.2.2.2.2.2.2.2.2.2.2.2.2.2.2.2.2.2.2.2.2.2.2.2.2.2.2.2.2.2.2.2.2.1
def LawS.X0 (v : LawS) : Int → Int32 := v.2.2.2.2.2.2.2.2.2.2.2.2.2.2.2.2.2.2.2.2.2.2.2.2.2.2.2.2.2.2.2.2.2.2.2.2.2.2.2.2.2.2.2.2.2.2.2.2.2.2.2.2.2.2.2.2.2.2.2.2.2.1
def LawS.X1 (v : LawS) : Int → Int32 := v.2.2.2.2.2.2.2.2.2.2.2.2.2.2.2.2.2.2.2.2.2.2.2.2.2.2.2.2.2.2.2.2.2.2.2.2.2.2.2.2.2.2.2.2.2.2.2.2.2.2.2.2.2.2.2.2.2.2.2.2.2.2.1
def LawS.X2 (v : LawS) : Int → Int32 := v.2.2.2.2.2.2.2.2.2.2.2.2.2.2.2.2.2.2.2.2.2.2.2.2.2.2.2.2.2.2.2.2.2.2.2.2.2.2.2.2.2.2.2.2.2.2.2.2.2.2.2.2.2.2.2.2.2.2.2.2.2.2.2.1
def LawS.X3 (v : LawS) : Int → Int32 := v.2.2.2.2.2.2.2.2.2.2.2.2.2.2.2.2.2.2.2.2.2.2.2.2.2.2.2.2.2.2.2.2.2.2.2.2.2.2.2.2.2.2.2.2.2.2.2.2.2.2.2.2.2.2.2.2.2.2.2.2.2.2.2.2.1
def LawS.Dk (v : LawS) : Int → Int32 := v.2.2.2.2.2.2.2.2.2.2.2.2.2.2.2.2.2.2.2.2.2.2.2.2.2.2.2.2.2.2.2.2.2.2.2.2.2.2.2.2.2.2.2.2.2.2.2.2.2.2.2.2.2.2.2.2.2.2.2.2.2.2.2.2.2.1
def LawS.Bf (v : LawS) : Int → Int32 := v.2.2.2.2.2.2.2.2.2.2.2.2.2.2.2.2.2.2.2.2.2.2.2.2.2.2.2.2.2.2.2.2.2.2.2.2.2.2.2.2.2.2.2.2.2.2.2.2.2.2.2.2.2.2.2.2.2.2.2.2.2.2.2.2.2.2.1
def LawS.Dt (v : LawS) : Int → Int32 := v.2.2.2.2.2.2.2.2.2.2.2.2.2.2.2.2.2.2.2.2.2.2.2.2.2.2.2.2.2.2.2.2.2.2.2.2.2.2.2.2.2.2.2.2.2.2.2.2.2.2.2.2.2.2.2.2.2.2.2.2.2.2.2.2.2.2.2.1
def LawS.Sz (v : LawS) : Int → Int32 := v.2.2.2.2.2.2.2.2.2.2.2.2.2.2.2.2.2.2.2.2.2.2.2.2.2.2.2.2.2.2.2.2.2.2.2.2.2.2.2.2.2.2.2.2.2.2.2.2.2.2.2.2.2.2.2.2.2.2.2.2.2.2.2.2.2.2.2.2.1
def LawS.Ce (v : LawS) : Int → Int32 := v.2.2.2.2.2.2.2.2.2.2.2.2.2.2.2.2.2.2.2.2.2.2.2.2.2.2.2.2.2.2.2.2.2.2.2.2.2.2.2.2.2.2.2.2.2.2.2.2.2.2.2.2.2.2.2.2.2.2.2.2.2.2.2.2.2.2.2.2.2.1
def LawS.Co (v : LawS) : Int → Int32 := v.2.2.2.2.2.2.2.2.2.2.2.2.2.2.2.2.2.2.2.2.2.2.2.2.2.2.2.2.2.2.2.2.2.2.2.2.2.2.2.2.2.2.2.2.2.2.2.2.2.2.2.2.2.2.2.2.2.2.2.2.2.2.2.2.2.2.2.2.2.2.1
def LawS.Fq (v : LawS) : Int → Option Nat := v.2.2.2.2.2.2.2.2.2.2.2.2.2.2.2.2.2.2.2.2.2.2.2.2.2.2.2.2.2.2.2.2.2.2.2.2.2.2.2.2.2.2.2.2.2.2.2.2.2.2.2.2.2.2.2.2.2.2.2.2.2.2.2.2.2.2.2.2.2.2.2
def mkL (hx : Nat) (hp : Nat) (hw : Nat) (hs : Nat) (hk : Nat) (hst : Nat) (hd : Nat) (hy : Nat) (hfa : Nat) (hm : Nat) (zd : Nat) (zb : Nat) (zt : Nat) (zs : Nat) (zc : Nat) (zo : Nat) (ho : Nat) (hf0 : Nat) (hr0 : Nat) (hf1 : Nat) (hr1 : Nat) (hf2 : Nat) (hr2 : Nat) (hf3 : Nat) (hr3 : Nat) (w : Int) (h : Int) (mn : Int) (sx : Int) (sy : Int) (sq : Int) (sl : Int) (sp : Int) (sr : Int) (sb : Int) (n : Int) (tw : Int) (fx : Int) (fy : Int) (fa : Int) (fb : Int) (fc : Int) (qr : Int) (fo : Int) (fw0 : Int) (fh0 : Int) (fg0 : Int) (fw1 : Int) (fh1 : Int) (fg1 : Int) (fw2 : Int) (fh2 : Int) (fg2 : Int) (fw3 : Int) (fh3 : Int) (fg3 : Int) (G : Int → Int64) (Sp : Int → Int64) (Bk : Int → Int64) (O : Int → Int64) (Y : Int → Int32) (X0 : Int → Int32) (X1 : Int → Int32) (X2 : Int → Int32) (X3 : Int → Int32) (Dk : Int → Int32) (Bf : Int → Int32) (Dt : Int → Int32) (Sz : Int → Int32) (Ce : Int → Int32) (Co : Int → Int32) (Fq : Int → Option Nat) : LawS := (hx, hp, hw, hs, hk, hst, hd, hy, hfa, hm, zd, zb, zt, zs, zc, zo, ho, hf0, hr0, hf1, hr1, hf2, hr2, hf3, hr3, w, h, mn, sx, sy, sq, sl, sp, sr, sb, n, tw, fx, fy, fa, fb, fc, qr, fo, fw0, fh0, fg0, fw1, fh1, fg1, fw2, fh2, fg2, fw3, fh3, fg3, G, Sp, Bk, O, Y, X0, X1, X2, X3, Dk, Bf, Dt, Sz, Ce, Co, Fq)
abbrev lawT (cL cB cI cZ cF : ClassId) : List (ClassId × FieldType) := [(cL, .long), (cB, .byte), (cI, .int), (cZ, .boolean), (cF, .object "DotSheet$Font")]
def lawW (cL cB cI cZ cF : ClassId) (v : LawS) : va_W := [(v.hx, .inr (4, [.ref v.hp, .ref v.hst, .ref v.hd, .ref v.hfa])), (v.hp, .inr (2, [.int (iZ v.w), .int (iZ v.h), .int (iZ v.mn), .ref v.hw, .ref v.hs, .ref v.hk])), (v.hw, .inl (cL, 16384, .inr (.inl (aL v.G)))), (v.hs, .inl (cL, 16384, .inr (.inl (aL v.Sp)))), (v.hk, .inl (cL, 64, .inr (.inl (aL v.Bk)))), (v.hst, .inr (3, [.ref v.hp, .int (iZ v.sx), .int (iZ v.sy), .int (iZ v.sq), .int (iZ v.sl), .int (iZ v.sp), .int (iZ v.sr), .int (iZ v.sb)])), (v.hd, .inr (0, [.int (iZ v.n), .ref v.hy])), (v.hy, .inl (cB, 4096, .inl (aI v.Y))), (v.hfa, .inl (cF, 4, .inr (.inr (.inr (.inr (aQ v.Fq)))))), (v.hf0, .inr (1, [.int (iZ v.fw0), .int (iZ v.fh0), .int (iZ v.fg0), .ref v.hr0])), (v.hr0, .inl (cI, 8192, .inl (aI v.X0))), (v.hf1, .inr (1, [.int (iZ v.fw1), .int (iZ v.fh1), .int (iZ v.fg1), .ref v.hr1])), (v.hr1, .inl (cI, 8192, .inl (aI v.X1))), (v.hf2, .inr (1, [.int (iZ v.fw2), .int (iZ v.fh2), .int (iZ v.fg2), .ref v.hr2])), (v.hr2, .inl (cI, 8192, .inl (aI v.X2))), (v.hf3, .inr (1, [.int (iZ v.fw3), .int (iZ v.fh3), .int (iZ v.fg3), .ref v.hr3])), (v.hr3, .inl (cI, 8192, .inl (aI v.X3))), (v.hm, .inr (6, [.int (iZ v.tw), .int (iZ v.w), .int (iZ v.h), .int (iZ v.mn), .ref v.zd, .ref v.zb, .ref v.zt, .int (iZ v.n), .ref v.zs, .ref v.zc, .int (iZ v.fx), .int (iZ v.fy), .int (iZ v.fa), .int (iZ v.fb), .int (iZ v.fc), .int (iZ v.qr), .int (iZ v.fo), .ref v.zo])), (v.zd, .inl (cI, 32768, .inl (aI v.Dk))), (v.zb, .inl (cI, 32768, .inl (aI v.Bf))), (v.zt, .inl (cI, 4096, .inl (aI v.Dt))), (v.zs, .inl (cI, 12, .inl (aI v.Sz))), (v.zc, .inl (cI, 32768, .inl (aI v.Ce))), (v.zo, .inl (cZ, 5200, .inl (aI v.Co))), (v.ho, .inl (cL, 1, .inr (.inl (aL v.O))))]
def LawJ (v : LawS) (pic : Int → Int → Bool) (dr : Int → Int) : Prop := (1 ≤ v.w) ∧ (v.w ≤ 1024) ∧ (1 ≤ v.h) ∧ (v.h ≤ 1024) ∧ (0 ≤ v.mn) ∧ (v.mn ≤ 2) ∧ (Rep v.G pic) ∧ (RepM v.Dk pic) ∧ (Off v.w v.h pic) ∧ (0 ≤ v.n) ∧ (v.n ≤ 4096) ∧ (RepD v.Y v.n dr) ∧ (RepT v.Dt v.n dr) ∧ (∀ k, 0 ≤ dr k ∧ dr k ≤ 255) ∧ (v.Fq 0 = some v.hf0) ∧ (v.Fq 1 = some v.hf1) ∧ (v.Fq 2 = some v.hf2) ∧ (v.Fq 3 = some v.hf3) ∧ (FontJ v.fw0 v.fh0 v.fg0 v.X0 v.Sz v.Ce 0) ∧ (FontJ v.fw1 v.fh1 v.fg1 v.X1 v.Sz v.Ce 1) ∧ (FontJ v.fw2 v.fh2 v.fg2 v.X2 v.Sz v.Ce 2) ∧ (FontJ v.fw3 v.fh3 v.fg3 v.X3 v.Sz v.Ce 3)
theorem LawJ.w1 {v : LawS} {pic : Int → Int → Bool} {dr : Int → Int} (J : LawJ v pic dr) : 1 ≤ v.w := J.1
theorem LawJ.w2 {v : LawS} {pic : Int → Int → Bool} {dr : Int → Int} (J : LawJ v pic dr) : v.w ≤ 1024 := J.2.1
theorem LawJ.h1 {v : LawS} {pic : Int → Int → Bool} {dr : Int → Int} (J : LawJ v pic dr) : 1 ≤ v.h := J.2.2.1
theorem LawJ.h2 {v : LawS} {pic : Int → Int → Bool} {dr : Int → Int} (J : LawJ v pic dr) : v.h ≤ 1024 := J.2.2.2.1
theorem LawJ.mn1 {v : LawS} {pic : Int → Int → Bool} {dr : Int → Int} (J : LawJ v pic dr) : 0 ≤ v.mn := J.2.2.2.2.1
theorem LawJ.mn2 {v : LawS} {pic : Int → Int → Bool} {dr : Int → Int} (J : LawJ v pic dr) : v.mn ≤ 2 := J.2.2.2.2.2.1
theorem LawJ.hR {v : LawS} {pic : Int → Int → Bool} {dr : Int → Int} (J : LawJ v pic dr) : Rep v.G pic := J.2.2.2.2.2.2.1
theorem LawJ.hM {v : LawS} {pic : Int → Int → Bool} {dr : Int → Int} (J : LawJ v pic dr) : RepM v.Dk pic := J.2.2.2.2.2.2.2.1
theorem LawJ.hO {v : LawS} {pic : Int → Int → Bool} {dr : Int → Int} (J : LawJ v pic dr) : Off v.w v.h pic := J.2.2.2.2.2.2.2.2.1
theorem LawJ.n1 {v : LawS} {pic : Int → Int → Bool} {dr : Int → Int} (J : LawJ v pic dr) : 0 ≤ v.n := J.2.2.2.2.2.2.2.2.2.1
theorem LawJ.n2 {v : LawS} {pic : Int → Int → Bool} {dr : Int → Int} (J : LawJ v pic dr) : v.n ≤ 4096 := J.2.2.2.2.2.2.2.2.2.2.1
theorem LawJ.hY {v : LawS} {pic : Int → Int → Bool} {dr : Int → Int} (J : LawJ v pic dr) : RepD v.Y v.n dr := J.2.2.2.2.2.2.2.2.2.2.2.1
theorem LawJ.hT {v : LawS} {pic : Int → Int → Bool} {dr : Int → Int} (J : LawJ v pic dr) : RepT v.Dt v.n dr := J.2.2.2.2.2.2.2.2.2.2.2.2.1
theorem LawJ.hd {v : LawS} {pic : Int → Int → Bool} {dr : Int → Int} (J : LawJ v pic dr) : ∀ k, 0 ≤ dr k ∧ dr k ≤ 255 := J.2.2.2.2.2.2.2.2.2.2.2.2.2.1
theorem LawJ.fq0 {v : LawS} {pic : Int → Int → Bool} {dr : Int → Int} (J : LawJ v pic dr) : v.Fq 0 = some v.hf0 := J.2.2.2.2.2.2.2.2.2.2.2.2.2.2.1
theorem LawJ.fq1 {v : LawS} {pic : Int → Int → Bool} {dr : Int → Int} (J : LawJ v pic dr) : v.Fq 1 = some v.hf1 := J.2.2.2.2.2.2.2.2.2.2.2.2.2.2.2.1
theorem LawJ.fq2 {v : LawS} {pic : Int → Int → Bool} {dr : Int → Int} (J : LawJ v pic dr) : v.Fq 2 = some v.hf2 := J.2.2.2.2.2.2.2.2.2.2.2.2.2.2.2.2.1
theorem LawJ.fq3 {v : LawS} {pic : Int → Int → Bool} {dr : Int → Int} (J : LawJ v pic dr) : v.Fq 3 = some v.hf3 := J.2.2.2.2.2.2.2.2.2.2.2.2.2.2.2.2.2.1
theorem LawJ.fj0 {v : LawS} {pic : Int → Int → Bool} {dr : Int → Int} (J : LawJ v pic dr) : FontJ v.fw0 v.fh0 v.fg0 v.X0 v.Sz v.Ce 0 := J.2.2.2.2.2.2.2.2.2.2.2.2.2.2.2.2.2.2.1
theorem LawJ.fj1 {v : LawS} {pic : Int → Int → Bool} {dr : Int → Int} (J : LawJ v pic dr) : FontJ v.fw1 v.fh1 v.fg1 v.X1 v.Sz v.Ce 1 := J.2.2.2.2.2.2.2.2.2.2.2.2.2.2.2.2.2.2.2.1
theorem LawJ.fj2 {v : LawS} {pic : Int → Int → Bool} {dr : Int → Int} (J : LawJ v pic dr) : FontJ v.fw2 v.fh2 v.fg2 v.X2 v.Sz v.Ce 2 := J.2.2.2.2.2.2.2.2.2.2.2.2.2.2.2.2.2.2.2.2.1
theorem LawJ.fj3 {v : LawS} {pic : Int → Int → Bool} {dr : Int → Int} (J : LawJ v pic dr) : FontJ v.fw3 v.fh3 v.fg3 v.X3 v.Sz v.Ce 3 := J.2.2.2.2.2.2.2.2.2.2.2.2.2.2.2.2.2.2.2.2.2
theorem mkJ {v : LawS} {pic : Int → Int → Bool} {dr : Int → Int} (w1 : 1 ≤ v.w) (w2 : v.w ≤ 1024) (h1 : 1 ≤ v.h) (h2 : v.h ≤ 1024) (mn1 : 0 ≤ v.mn) (mn2 : v.mn ≤ 2) (hR : Rep v.G pic) (hM : RepM v.Dk pic) (hO : Off v.w v.h pic) (n1 : 0 ≤ v.n) (n2 : v.n ≤ 4096) (hY : RepD v.Y v.n dr) (hT : RepT v.Dt v.n dr) (hd : ∀ k, 0 ≤ dr k ∧ dr k ≤ 255) (fq0 : v.Fq 0 = some v.hf0) (fq1 : v.Fq 1 = some v.hf1) (fq2 : v.Fq 2 = some v.hf2) (fq3 : v.Fq 3 = some v.hf3) (fj0 : FontJ v.fw0 v.fh0 v.fg0 v.X0 v.Sz v.Ce 0) (fj1 : FontJ v.fw1 v.fh1 v.fg1 v.X1 v.Sz v.Ce 1) (fj2 : FontJ v.fw2 v.fh2 v.fg2 v.X2 v.Sz v.Ce 2) (fj3 : FontJ v.fw3 v.fh3 v.fg3 v.X3 v.Sz v.Ce 3) : LawJ v pic dr := ⟨w1, w2, h1, h2, mn1, mn2, hR, hM, hO, n1, n2, hY, hT, hd, fq0, fq1, fq2, fq3, fj0, fj1, fj2, fj3⟩
theorem lawW_mk {cL cB cI cZ cF : ClassId} {hx : Nat} {hp : Nat} {hw : Nat} {hs : Nat} {hk : Nat} {hst : Nat} {hd : Nat} {hy : Nat} {hfa : Nat} {hm : Nat} {zd : Nat} {zb : Nat} {zt : Nat} {zs : Nat} {zc : Nat} {zo : Nat} {ho : Nat} {hf0 : Nat} {hr0 : Nat} {hf1 : Nat} {hr1 : Nat} {hf2 : Nat} {hr2 : Nat} {hf3 : Nat} {hr3 : Nat} {w : Int} {h : Int} {mn : Int} {sx : Int} {sy : Int} {sq : Int} {sl : Int} {sp : Int} {sr : Int} {sb : Int} {n : Int} {tw : Int} {fx : Int} {fy : Int} {fa : Int} {fb : Int} {fc : Int} {qr : Int} {fo : Int} {fw0 : Int} {fh0 : Int} {fg0 : Int} {fw1 : Int} {fh1 : Int} {fg1 : Int} {fw2 : Int} {fh2 : Int} {fg2 : Int} {fw3 : Int} {fh3 : Int} {fg3 : Int} {G : Int → Int64} {Sp : Int → Int64} {Bk : Int → Int64} {O : Int → Int64} {Y : Int → Int32} {X0 : Int → Int32} {X1 : Int → Int32} {X2 : Int → Int32} {X3 : Int → Int32} {Dk : Int → Int32} {Bf : Int → Int32} {Dt : Int → Int32} {Sz : Int → Int32} {Ce : Int → Int32} {Co : Int → Int32} {Fq : Int → Option Nat} : lawW cL cB cI cZ cF (mkL hx hp hw hs hk hst hd hy hfa hm zd zb zt zs zc zo ho hf0 hr0 hf1 hr1 hf2 hr2 hf3 hr3 w h mn sx sy sq sl sp sr sb n tw fx fy fa fb fc qr fo fw0 fh0 fg0 fw1 fh1 fg1 fw2 fh2 fg2 fw3 fh3 fg3 G Sp Bk O Y X0 X1 X2 X3 Dk Bf Dt Sz Ce Co Fq) = [(hx, .inr (4, [.ref hp, .ref hst, .ref hd, .ref hfa])), (hp, .inr (2, [.int (iZ w), .int (iZ h), .int (iZ mn), .ref hw, .ref hs, .ref hk])), (hw, .inl (cL, 16384, .inr (.inl (aL G)))), (hs, .inl (cL, 16384, .inr (.inl (aL Sp)))), (hk, .inl (cL, 64, .inr (.inl (aL Bk)))), (hst, .inr (3, [.ref hp, .int (iZ sx), .int (iZ sy), .int (iZ sq), .int (iZ sl), .int (iZ sp), .int (iZ sr), .int (iZ sb)])), (hd, .inr (0, [.int (iZ n), .ref hy])), (hy, .inl (cB, 4096, .inl (aI Y))), (hfa, .inl (cF, 4, .inr (.inr (.inr (.inr (aQ Fq)))))), (hf0, .inr (1, [.int (iZ fw0), .int (iZ fh0), .int (iZ fg0), .ref hr0])), (hr0, .inl (cI, 8192, .inl (aI X0))), (hf1, .inr (1, [.int (iZ fw1), .int (iZ fh1), .int (iZ fg1), .ref hr1])), (hr1, .inl (cI, 8192, .inl (aI X1))), (hf2, .inr (1, [.int (iZ fw2), .int (iZ fh2), .int (iZ fg2), .ref hr2])), (hr2, .inl (cI, 8192, .inl (aI X2))), (hf3, .inr (1, [.int (iZ fw3), .int (iZ fh3), .int (iZ fg3), .ref hr3])), (hr3, .inl (cI, 8192, .inl (aI X3))), (hm, .inr (6, [.int (iZ tw), .int (iZ w), .int (iZ h), .int (iZ mn), .ref zd, .ref zb, .ref zt, .int (iZ n), .ref zs, .ref zc, .int (iZ fx), .int (iZ fy), .int (iZ fa), .int (iZ fb), .int (iZ fc), .int (iZ qr), .int (iZ fo), .ref zo])), (zd, .inl (cI, 32768, .inl (aI Dk))), (zb, .inl (cI, 32768, .inl (aI Bf))), (zt, .inl (cI, 4096, .inl (aI Dt))), (zs, .inl (cI, 12, .inl (aI Sz))), (zc, .inl (cI, 32768, .inl (aI Ce))), (zo, .inl (cZ, 5200, .inl (aI Co))), (ho, .inl (cL, 1, .inr (.inl (aL O))))] := rfl
theorem mkJm {hx : Nat} {hp : Nat} {hw : Nat} {hs : Nat} {hk : Nat} {hst : Nat} {hd : Nat} {hy : Nat} {hfa : Nat} {hm : Nat} {zd : Nat} {zb : Nat} {zt : Nat} {zs : Nat} {zc : Nat} {zo : Nat} {ho : Nat} {hf0 : Nat} {hr0 : Nat} {hf1 : Nat} {hr1 : Nat} {hf2 : Nat} {hr2 : Nat} {hf3 : Nat} {hr3 : Nat} {w : Int} {h : Int} {mn : Int} {sx : Int} {sy : Int} {sq : Int} {sl : Int} {sp : Int} {sr : Int} {sb : Int} {n : Int} {tw : Int} {fx : Int} {fy : Int} {fa : Int} {fb : Int} {fc : Int} {qr : Int} {fo : Int} {fw0 : Int} {fh0 : Int} {fg0 : Int} {fw1 : Int} {fh1 : Int} {fg1 : Int} {fw2 : Int} {fh2 : Int} {fg2 : Int} {fw3 : Int} {fh3 : Int} {fg3 : Int} {G : Int → Int64} {Sp : Int → Int64} {Bk : Int → Int64} {O : Int → Int64} {Y : Int → Int32} {X0 : Int → Int32} {X1 : Int → Int32} {X2 : Int → Int32} {X3 : Int → Int32} {Dk : Int → Int32} {Bf : Int → Int32} {Dt : Int → Int32} {Sz : Int → Int32} {Ce : Int → Int32} {Co : Int → Int32} {Fq : Int → Option Nat} {pic : Int → Int → Bool} {dr : Int → Int} (j_w1 : 1 ≤ w) (j_w2 : w ≤ 1024) (j_h1 : 1 ≤ h) (j_h2 : h ≤ 1024) (j_mn1 : 0 ≤ mn) (j_mn2 : mn ≤ 2) (j_hR : Rep G pic) (j_hM : RepM Dk pic) (j_hO : Off w h pic) (j_n1 : 0 ≤ n) (j_n2 : n ≤ 4096) (j_hY : RepD Y n dr) (j_hT : RepT Dt n dr) (j_hd : ∀ k, 0 ≤ dr k ∧ dr k ≤ 255) (j_fq0 : Fq 0 = some hf0) (j_fq1 : Fq 1 = some hf1) (j_fq2 : Fq 2 = some hf2) (j_fq3 : Fq 3 = some hf3) (j_fj0 : FontJ fw0 fh0 fg0 X0 Sz Ce 0) (j_fj1 : FontJ fw1 fh1 fg1 X1 Sz Ce 1) (j_fj2 : FontJ fw2 fh2 fg2 X2 Sz Ce 2) (j_fj3 : FontJ fw3 fh3 fg3 X3 Sz Ce 3) : LawJ (mkL hx hp hw hs hk hst hd hy hfa hm zd zb zt zs zc zo ho hf0 hr0 hf1 hr1 hf2 hr2 hf3 hr3 w h mn sx sy sq sl sp sr sb n tw fx fy fa fb fc qr fo fw0 fh0 fg0 fw1 fh1 fg1 fw2 fh2 fg2 fw3 fh3 fg3 G Sp Bk O Y X0 X1 X2 X3 Dk Bf Dt Sz Ce Co Fq) pic dr := mkJ j_w1 j_w2 j_h1 j_h2 j_mn1 j_mn2 j_hR j_hM j_hO j_n1 j_n2 j_hY j_hT j_hd j_fq0 j_fq1 j_fq2 j_fq3 j_fj0 j_fj1 j_fj2 j_fj3
def LawI (v : LawS) : Prop := ∃ (pic : Int → Int → Bool) (dr : Int → Int), LawJ v pic dr
def lawA (p : Program) (l : Launch) (e : Env) (s : State) (m : MethodId) (below : List Frame) (meth : Method) (c : Code) (b : Nat) (dC : Nat → ClassId) (dI : Nat → Nat → Nat) (cL cB cI cZ cF : ClassId) (A : Nat → Prop) (i : Int) (cells slots pc : Nat) : Prop := ∀ (v : LawS), LawI v → ∀ (H : Heap) (locs : List Loc), va_P (dC, dI) vwCl (lawW cL cB cI cZ cF v) H → va_D A (lawW cL cB cI cZ cF v) → va_S A s.heap H locs → ∀ (ls : Array Slot), lv_has ls 8 [(0, .ref b), (1, .ref v.hx), (2, .ref v.hm), (3, .ref v.ho), (4, .int (iZ i))] → W p l e room_1 s m #[Value.ref b] below meth c H locs cells slots (lw_Z below #[Value.ref b] s) (F0 m pc ls [])

/-- the script's ints by whole numbers -/
theorem z_sld {p : Program} {l : Launch} {e : Env} {R : Room} {s : State} {m : MethodId} {args : Array Value} {below : List Frame} {meth : Method} {c : Code} {H H0 : Heap} {locs : List Loc} {cells slots : Nat} {Q : State → Prop} {pc : Nat} {ls : Array Slot} {rest : List Value} {A : Nat → Prop} {cc : ByteArray} (hx : p.tables.exec = Jvm.exec) (hb : c.code = cc) {b L : Nat} {xs : Nat → Int32} (hX : va_X b L xs s H0) (hbl : b < H0.size) (hbA : ¬ A b) (hS : va_S A H0 H locs) {i z : Int} (i0 : 0 ≤ i) (i1 : i < L) (i2 : i ≤ 2147483647) (hz : xs i.toNat = iZ z) (hdg : decode cc pc = .ok (.iaload, 1))
    (kk : W p l e R s m args below meth c H locs cells slots Q (F0 m (pc + 1) ls (.int (iZ z) :: rest))) : W p l e R s m args below meth c H locs cells slots Q (F0 m pc ls (.int (iZ i) :: .ref b :: rest)) := by
  have e9 : (iZ i).toNatClampNeg = i.toNat := iZ_nat i0 i2
  refine va_sld hx hb hX hbl hbA hS (i := iZ i) ?_ hdg ?_
  · rintro (q | q)
    · have h9 := Int32.lt_iff_toInt_lt.mp q
      rw [show (iZ i).toInt = i from iZ_int (by omega) i2] at h9
      have h8 : (0 : Int32).toInt = 0 := rfl
      omega
    · rw [e9] at q; omega
  · rw [e9, hz]; exact kk
theorem s_ex (xs : Nat → Int32) (k : Nat) : ∃ z : Int, xs k = iZ z ∧ -2147483648 ≤ z ∧ z ≤ 2147483647 := ⟨(xs k).toInt, iZ_of _, iZ_lo _, iZ_hi _⟩
