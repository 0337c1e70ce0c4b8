/-! the reference turns and tells -/
def toP (h : Int) (pic : Int → Int → Bool) (x y px py : Int) : Bool := trP h pic px py && decide (h - 1 - px < y ∨ (h - 1 - px = y ∧ py < x))
theorem to_0 {w h : Int} {pic : Int → Int → Bool} {K : Int → Int32} (hO : Off w h pic) (hK : ∀ k : Int, 0 ≤ k → k < 32768 → K k = iZ 0) : RepM K (toP h pic 0 0) := by
  have := rm_0 hK
  intro x y x0 x1 y0 y1
  rw [this x y x0 x1 y0 y1]
  unfold toP trP
  cases e : pic y (h - 1 - x)
  · rfl
  · have := Off_in hO e
    rw [decide_eq_false (by omega)]; rfl
theorem to_row {w h : Int} {pic : Int → Int → Bool} {K : Int → Int32} {x y : Int} (hO : Off w h pic) (hx : w ≤ x) (h0 : RepM K (toP h pic x y)) : RepM K (toP h pic 0 (y + 1)) := by
  intro px py p0 p1 q0 q1
  rw [h0 px py p0 p1 q0 q1]
  unfold toP trP
  cases e : pic py (h - 1 - px)
  · rfl
  · have := Off_in hO e
    rw [Bool.true_and, Bool.true_and]; exact decide_eq_decide.mpr (by omega)
theorem to_end {w h : Int} {pic : Int → Int → Bool} {K : Int → Int32} {x y : Int} (hO : Off w h pic) (hy : h ≤ y) (h0 : RepM K (toP h pic x y)) : RepM K (trP h pic) := by
  intro px py p0 p1 q0 q1
  rw [h0 px py p0 p1 q0 q1]
  unfold toP trP
  cases e : pic py (h - 1 - px)
  · rfl
  · have := Off_in hO e
    rw [decide_eq_true (by omega)]; rfl
theorem to_no {h : Int} {pic : Int → Int → Bool} {K : Int → Int32} {x y : Int} (hp : pic x y = false) (h0 : RepM K (toP h pic x y)) : RepM K (toP h pic (x + 1) y) := by
  intro px py p0 p1 q0 q1
  rw [h0 px py p0 p1 q0 q1]
  unfold toP trP
  by_cases e : py = x ∧ h - 1 - px = y
  · rw [e.1, e.2, hp, Bool.false_and, Bool.false_and]
  · congr 1; exact decide_eq_decide.mpr (by omega)
theorem to_yes {h : Int} {pic : Int → Int → Bool} {u : Int → Int32} {x y : Int} (hp : pic x y = true) (h0 : RepM u (tog (toP h pic x y) (h - 1 - y) x)) : RepM u (toP h pic (x + 1) y) := by
  intro px py p0 p1 q0 q1
  rw [h0 px py p0 p1 q0 q1]
  unfold tog toP trP
  by_cases e : px = h - 1 - y ∧ py = x
  · rw [if_pos e, e.1, e.2, show h - 1 - (h - 1 - y) = y by omega, hp, decide_eq_false (by omega), decide_eq_true (by omega)]; rfl
  · rw [if_neg e]; congr 1; exact decide_eq_decide.mpr (by omega)
theorem rm_bit {K : Int → Int32} {pic : Int → Int → Bool} (hM : RepM K pic) {B : Int → Int32} (hB : ∀ k : Int, 0 ≤ k → k < 32768 → B k = K k) {x y : Int} (x0 : 0 ≤ x) (x1 : x < 1024) (y0 : 0 ≤ y) (y1 : y < 1024) : ((B (32 * y + x / 32) >>> (iZ (x % 32) &&& 31)) &&& iZ 1 = iZ 1) ↔ pic x y = true := by
  rw [hB _ (by omega) (by omega), fb_shr _ (by omega) (by omega), hM x y x0 x1 y0 y1]
def prO (x y px py : Int) : Bool := decide (py < y ∨ (py = y ∧ px < x))
def tdP (pic : Int → Int → Bool) (x y px py : Int) : Bool := pic px py && prO x y px py
theorem tdP_dw (pic : Int → Int → Bool) (x y px py : Int) : tdP pic x y px py = dwP pic x y px py := rfl
/-- edges so far -/
def egQ (pic : Int → Int → Bool) (wh x y v : Int) : Prop := ∃ px py, tdP pic x y px py = true ∧ v = if wh % 2 = 0 then px else py
def egI (pic : Int → Int → Bool) (wh x y ed : Int) : Prop := (wh < 4 → edgeS (egQ pic wh x y) ed) ∧ (¬ wh < 4 → edgeG (egQ pic wh x y) ed)
theorem eg_congr {P Q : Int → Prop} {z : Int} (h : ∀ v, P v ↔ Q v) : (edgeS P z → edgeS Q z) ∧ (edgeG P z → edgeG Q z) := by
  constructor
  · rintro (⟨a, b⟩ | ⟨a, b, c⟩)
    · exact Or.inl ⟨a, fun v q => b v ((h v).mpr q)⟩
    · exact Or.inr ⟨a, (h z).mp b, fun v q => c v ((h v).mpr q)⟩
  · rintro (⟨a, b⟩ | ⟨a, b, c⟩)
    · exact Or.inl ⟨a, fun v q => b v ((h v).mpr q)⟩
    · exact Or.inr ⟨a, (h z).mp b, fun v q => c v ((h v).mpr q)⟩
theorem eg_ext {pic : Int → Int → Bool} {wh x y x2 y2 ed : Int} (q : egI pic wh x y ed) (he : ∀ px py, tdP pic x y px py = tdP pic x2 y2 px py) : egI pic wh x2 y2 ed := by
  have h : ∀ v, egQ pic wh x y v ↔ egQ pic wh x2 y2 v := fun v => by
    constructor
    · rintro ⟨px, py, a, b⟩; exact ⟨px, py, by rw [← he]; exact a, b⟩
    · rintro ⟨px, py, a, b⟩; exact ⟨px, py, by rw [he]; exact a, b⟩
  exact ⟨fun z => (eg_congr h).1 (q.1 z), fun z => (eg_congr h).2 (q.2 z)⟩
theorem td_row {w h : Int} {pic : Int → Int → Bool} (hO : Off w h pic) {x y : Int} (hx : w ≤ x) (px py : Int) : tdP pic x y px py = tdP pic 0 (y + 1) px py := by
  unfold tdP
  cases e : pic px py
  · rfl
  · have := Off_in hO e
    unfold prO; rw [Bool.true_and, Bool.true_and]; exact decide_eq_decide.mpr (by omega)
theorem td_no {pic : Int → Int → Bool} {x y : Int} (hp : pic x y = false) (px py : Int) : tdP pic x y px py = tdP pic (x + 1) y px py := by
  unfold tdP
  by_cases e : px = x ∧ py = y
  · rw [e.1, e.2, hp, Bool.false_and, Bool.false_and]
  · unfold prO; congr 1; exact decide_eq_decide.mpr (by omega)
theorem td_yes {pic : Int → Int → Bool} {x y : Int} (hp : pic x y = true) (px py : Int) : tdP pic (x + 1) y px py = (tdP pic x y px py || decide (px = x ∧ py = y)) := by
  unfold tdP prO
  by_cases e : px = x ∧ py = y
  · rw [e.1, e.2, hp, decide_eq_true (show x = x ∧ y = y from ⟨rfl, rfl⟩), decide_eq_true (show y < y ∨ (y = y ∧ x < x + 1) by omega), Bool.or_true]; rfl
  · rw [decide_eq_false e, Bool.or_false]; congr 1; exact decide_eq_decide.mpr (by omega)
theorem td_0 {w h : Int} {pic : Int → Int → Bool} (hO : Off w h pic) (px py : Int) : tdP pic 0 0 px py = false := by
  unfold tdP
  cases e : pic px py
  · rfl
  · have := Off_in hO e
    unfold prO; rw [decide_eq_false (by omega)]; rfl
theorem td_end {w h : Int} {pic : Int → Int → Bool} (hO : Off w h pic) {x y : Int} (hy : h ≤ y) (px py : Int) : tdP pic x y px py = pic px py := by
  unfold tdP
  cases e : pic px py
  · rfl
  · have := Off_in hO e
    unfold prO; rw [decide_eq_true (by omega)]; rfl
theorem eg_0 {w h : Int} {pic : Int → Int → Bool} (hO : Off w h pic) (wh : Int) : egI pic wh 0 0 (-1) := by
  have n : ∀ v, ¬ egQ pic wh 0 0 v := fun v ⟨px, py, a, _⟩ => by rw [td_0 hO] at a; exact absurd a (by decide)
  exact ⟨fun _ => Or.inl ⟨rfl, n⟩, fun _ => Or.inl ⟨rfl, n⟩⟩
theorem eg_yes {pic : Int → Int → Bool} {wh x y ed v e2 : Int} (q : egI pic wh x y ed) (x0 : 0 ≤ x) (y0 : 0 ≤ y) (hp : pic x y = true) (hv : v = if wh % 2 = 0 then x else y)
    (h1 : (ed < 0 ∨ (wh < 4 ∧ v < ed) ∨ (¬ wh < 4 ∧ v > ed)) → e2 = v) (h2 : ¬ (ed < 0 ∨ (wh < 4 ∧ v < ed) ∨ (¬ wh < 4 ∧ v > ed)) → e2 = ed) : egI pic wh (x + 1) y e2 := by
  have v0 : 0 ≤ v := by rw [hv]; split <;> assumption
  have m : ∀ z, egQ pic wh (x + 1) y z ↔ egQ pic wh x y z ∨ z = v := fun z => by
    constructor
    · rintro ⟨px, py, a, b⟩
      rw [td_yes hp, Bool.or_eq_true] at a
      rcases a with a | a
      · exact Or.inl ⟨px, py, a, b⟩
      · have := of_decide_eq_true a; right; rw [b, hv, this.1, this.2]
    · rintro (⟨px, py, a, b⟩ | b)
      · exact ⟨px, py, by rw [td_yes hp, a]; rfl, b⟩
      · exact ⟨x, y, by rw [td_yes hp, decide_eq_true ⟨rfl, rfl⟩, Bool.or_true], by rw [b, hv]⟩
  constructor
  · intro hw
    rcases q.1 hw with ⟨a, b⟩ | ⟨a, b, c⟩
    · have e := h1 (Or.inl (by omega))
      exact Or.inr ⟨by omega, (m _).mpr (Or.inr e), fun z hz => by rcases (m z).mp hz with k | k; exact absurd k (b z); omega⟩
    · by_cases k : v < ed
      · have e := h1 (Or.inr (Or.inl ⟨hw, k⟩))
        exact Or.inr ⟨by omega, (m _).mpr (Or.inr e), fun z hz => by rcases (m z).mp hz with k2 | k2; have := c z k2; omega; omega⟩
      · have e := h2 (by omega)
        exact Or.inr ⟨by omega, (m _).mpr (Or.inl (by rw [e]; exact b)), fun z hz => by rcases (m z).mp hz with k2 | k2; have := c z k2; omega; omega⟩
  · intro hw
    rcases q.2 hw with ⟨a, b⟩ | ⟨a, b, c⟩
    · have e := h1 (Or.inl (by omega))
      exact Or.inr ⟨by omega, (m _).mpr (Or.inr e), fun z hz => by rcases (m z).mp hz with k | k; exact absurd k (b z); omega⟩
    · by_cases k : v > ed
      · have e := h1 (Or.inr (Or.inr ⟨hw, k⟩))
        exact Or.inr ⟨by omega, (m _).mpr (Or.inr e), fun z hz => by rcases (m z).mp hz with k2 | k2; have := c z k2; omega; omega⟩
      · have e := h2 (by omega)
        exact Or.inr ⟨by omega, (m _).mpr (Or.inl (by rw [e]; exact b)), fun z hz => by rcases (m z).mp hz with k2 | k2; have := c z k2; omega; omega⟩
theorem td_cnt {w h : Int} {pic : Int → Int → Bool} {x y n : Int} (x0 : 0 ≤ x) (x1 : x < w) (y0 : 0 ≤ y) (y1 : y < h) (hp : pic x y = true) (hn : n = cnt w h (tdP pic x y)) : n + 1 = cnt w h (tdP pic (x + 1) y) := by
  rw [hn]; exact dw_cnt x0 x1 y0 y1 hp
theorem tol_of {w h : Int} {pic : Int → Int → Bool} (hO : Off w h pic) {wh x y ed n : Int} (hy : h ≤ y) (h1 : 2 ≤ wh) (hn : n = cnt w h (tdP pic x y)) (q : egI pic wh x y ed) : (wh = 6 → tolS w h pic wh n) ∧ (wh ≠ 6 → tolS w h pic wh ed) := by
  have e6 : wh = 6 → n = cnt w h (dkB pic 0 0 (w - 1) (h - 1)) := fun _ => by
    rw [hn]; apply cnt_ext; intro px py a b c d
    rw [td_end hO hy]; unfold dkB bxB; rw [decide_eq_true (by omega), Bool.true_and]
  refine ⟨fun z => ⟨by omega, by omega, by omega, by omega, by omega, by omega, e6⟩, fun z => ?_⟩
  have mx : wh % 2 = 0 → ∀ v, egQ pic wh x y v ↔ ∃ y, pic v y = true := fun k v => by
    constructor
    · rintro ⟨px, py, a, b⟩; rw [td_end hO hy] at a; rw [if_pos k] at b; exact ⟨py, by rw [b]; exact a⟩
    · rintro ⟨py, a⟩; exact ⟨v, py, by rw [td_end hO hy]; exact a, by rw [if_pos k]⟩
  have my : ¬ wh % 2 = 0 → ∀ v, egQ pic wh x y v ↔ ∃ x, pic x v = true := fun k v => by
    constructor
    · rintro ⟨px, py, a, b⟩; rw [td_end hO hy] at a; rw [if_neg k] at b; exact ⟨px, by rw [b]; exact a⟩
    · rintro ⟨px, a⟩; exact ⟨px, v, by rw [td_end hO hy]; exact a, by rw [if_neg k]⟩
  exact ⟨by omega, by omega, fun k => (eg_congr (mx (by omega))).1 (q.1 (by omega)), fun k => (eg_congr (my (by omega))).1 (q.1 (by omega)), fun k => (eg_congr (mx (by omega))).2 (q.2 (by omega)), fun k => (eg_congr (my (by omega))).2 (q.2 (by omega)), fun k => absurd k z⟩
theorem ck_yes {w h : Int} {P : Int → Int → Bool} {x y n : Int} (x0 : 0 ≤ x) (x1 : x < w) (y0 : 0 ≤ y) (y1 : y < h) (hp : P x y = true) (hn : n = cnt w h (dwP P x y)) : n + 1 = cnt w h (dwP P (x + 1) y) := by rw [hn]; exact dw_cnt x0 x1 y0 y1 hp
theorem ck_no {w h : Int} {P : Int → Int → Bool} {x y n : Int} (hp : P x y = false) (hn : n = cnt w h (dwP P x y)) : n + 0 = cnt w h (dwP P (x + 1) y) := by
  rw [hn, Int.add_zero]; apply cnt_ext; intro px py _ _ _ _; exact td_no hp px py
theorem ck_row {w h : Int} {P : Int → Int → Bool} {x y n : Int} (hx : w ≤ x) (hn : n = cnt w h (dwP P x y)) : n = cnt w h (dwP P 0 (y + 1)) := by
  rw [hn]; apply cnt_ext; intro px py _ _ _ _; unfold dwP; congr 1; exact decide_eq_decide.mpr (by omega)
theorem ck_0 {w h : Int} {P : Int → Int → Bool} : 0 = cnt w h (dwP P 0 0) := by
  rw [cnt_no]; intro px py _ _ _ _; unfold dwP; rw [decide_eq_false (by omega), Bool.and_false]
theorem ck_end {w h : Int} {P : Int → Int → Bool} {x y n : Int} (hy : h ≤ y) (hn : n = cnt w h (dwP P x y)) : n = cnt w h P := by
  rw [hn]; apply cnt_ext; intro px py _ _ _ _; unfold dwP; rw [decide_eq_true (by omega), Bool.and_true]
theorem dk_t {pic : Int → Int → Bool} {l t r b x y : Int} (h1 : l ≤ x ∧ x ≤ r ∧ t ≤ y ∧ y ≤ b) (h2 : pic x y = true) : dkB pic l t r b x y = true := by unfold dkB bxB; rw [decide_eq_true h1, h2]; rfl
theorem dk_f {pic : Int → Int → Bool} {l t r b x y : Int} (h1 : ¬ (l ≤ x ∧ x ≤ r ∧ t ≤ y ∧ y ≤ b)) : dkB pic l t r b x y = false := by unfold dkB bxB; rw [decide_eq_false h1]; rfl
theorem dk_g {pic : Int → Int → Bool} {l t r b x y : Int} (h2 : pic x y = false) : dkB pic l t r b x y = false := by unfold dkB; rw [h2, Bool.and_false]
theorem d_Mo_turnOnce_0 : decode c_yMo_turnOnce 0 = .ok (.iconst 0, 1) := by decide +kernel
theorem d_Mo_turnOnce_1 : decode c_yMo_turnOnce 1 = .ok (.istore_n 1, 1) := by decide +kernel
theorem d_Mo_turnOnce_2 : decode c_yMo_turnOnce 2 = .ok (.iload_n 1, 1) := by decide +kernel
theorem d_Mo_turnOnce_3 : decode c_yMo_turnOnce 3 = .ok (.ldc 16, 2) := by decide +kernel
theorem d_Mo_turnOnce_5 : decode c_yMo_turnOnce 5 = .ok (.if_icmp .ge 28, 3) := by decide +kernel
theorem d_Mo_turnOnce_8 : decode c_yMo_turnOnce 8 = .ok (.aload_n 0, 1) := by decide +kernel
theorem d_Mo_turnOnce_9 : decode c_yMo_turnOnce 9 = .ok (.getfield 21, 3) := by decide +kernel
theorem d_Mo_turnOnce_12 : decode c_yMo_turnOnce 12 = .ok (.iload_n 1, 1) := by decide +kernel
theorem d_Mo_turnOnce_13 : decode c_yMo_turnOnce 13 = .ok (.aload_n 0, 1) := by decide +kernel
theorem d_Mo_turnOnce_14 : decode c_yMo_turnOnce 14 = .ok (.getfield 17, 3) := by decide +kernel
theorem d_Mo_turnOnce_17 : decode c_yMo_turnOnce 17 = .ok (.iload_n 1, 1) := by decide +kernel
theorem d_Mo_turnOnce_18 : decode c_yMo_turnOnce 18 = .ok (.iaload, 1) := by decide +kernel
theorem d_Mo_turnOnce_19 : decode c_yMo_turnOnce 19 = .ok (.iastore, 1) := by decide +kernel
theorem d_Mo_turnOnce_20 : decode c_yMo_turnOnce 20 = .ok (.aload_n 0, 1) := by decide +kernel
theorem d_Mo_turnOnce_21 : decode c_yMo_turnOnce 21 = .ok (.getfield 17, 3) := by decide +kernel
theorem d_Mo_turnOnce_24 : decode c_yMo_turnOnce 24 = .ok (.iload_n 1, 1) := by decide +kernel
theorem d_Mo_turnOnce_25 : decode c_yMo_turnOnce 25 = .ok (.iconst 0, 1) := by decide +kernel
theorem d_Mo_turnOnce_26 : decode c_yMo_turnOnce 26 = .ok (.iastore, 1) := by decide +kernel
theorem d_Mo_turnOnce_27 : decode c_yMo_turnOnce 27 = .ok (.iinc 1 1, 3) := by decide +kernel
theorem d_Mo_turnOnce_30 : decode c_yMo_turnOnce 30 = .ok (.goto (-28), 3) := by decide +kernel
theorem d_Mo_turnOnce_33 : decode c_yMo_turnOnce 33 = .ok (.aload_n 0, 1) := by decide +kernel
theorem d_Mo_turnOnce_34 : decode c_yMo_turnOnce 34 = .ok (.getfield 7, 3) := by decide +kernel
theorem d_Mo_turnOnce_37 : decode c_yMo_turnOnce 37 = .ok (.istore_n 1, 1) := by decide +kernel
theorem d_Mo_turnOnce_38 : decode c_yMo_turnOnce 38 = .ok (.aload_n 0, 1) := by decide +kernel
theorem d_Mo_turnOnce_39 : decode c_yMo_turnOnce 39 = .ok (.getfield 13, 3) := by decide +kernel
theorem d_Mo_turnOnce_42 : decode c_yMo_turnOnce 42 = .ok (.istore_n 2, 1) := by decide +kernel
theorem d_Mo_turnOnce_43 : decode c_yMo_turnOnce 43 = .ok (.aload_n 0, 1) := by decide +kernel
theorem d_Mo_turnOnce_44 : decode c_yMo_turnOnce 44 = .ok (.iload_n 2, 1) := by decide +kernel
theorem d_Mo_turnOnce_45 : decode c_yMo_turnOnce 45 = .ok (.putfield 7, 3) := by decide +kernel
theorem d_Mo_turnOnce_48 : decode c_yMo_turnOnce 48 = .ok (.aload_n 0, 1) := by decide +kernel
theorem d_Mo_turnOnce_49 : decode c_yMo_turnOnce 49 = .ok (.iload_n 1, 1) := by decide +kernel
theorem d_Mo_turnOnce_50 : decode c_yMo_turnOnce 50 = .ok (.putfield 13, 3) := by decide +kernel
theorem d_Mo_turnOnce_53 : decode c_yMo_turnOnce 53 = .ok (.iconst 0, 1) := by decide +kernel
theorem d_Mo_turnOnce_54 : decode c_yMo_turnOnce 54 = .ok (.istore_n 3, 1) := by decide +kernel
theorem d_Mo_turnOnce_55 : decode c_yMo_turnOnce 55 = .ok (.iload_n 3, 1) := by decide +kernel
theorem d_Mo_turnOnce_56 : decode c_yMo_turnOnce 56 = .ok (.iload_n 2, 1) := by decide +kernel
theorem d_Mo_turnOnce_57 : decode c_yMo_turnOnce 57 = .ok (.if_icmp .ge 62, 3) := by decide +kernel
theorem d_Mo_turnOnce_60 : decode c_yMo_turnOnce 60 = .ok (.iconst 0, 1) := by decide +kernel
theorem d_Mo_turnOnce_61 : decode c_yMo_turnOnce 61 = .ok (.istore 4, 2) := by decide +kernel
theorem d_Mo_turnOnce_63 : decode c_yMo_turnOnce 63 = .ok (.iload 4, 2) := by decide +kernel
theorem d_Mo_turnOnce_65 : decode c_yMo_turnOnce 65 = .ok (.iload_n 1, 1) := by decide +kernel
theorem d_Mo_turnOnce_66 : decode c_yMo_turnOnce 66 = .ok (.if_icmp .ge 47, 3) := by decide +kernel
theorem d_Mo_turnOnce_69 : decode c_yMo_turnOnce 69 = .ok (.aload_n 0, 1) := by decide +kernel
theorem d_Mo_turnOnce_70 : decode c_yMo_turnOnce 70 = .ok (.getfield 21, 3) := by decide +kernel
theorem d_Mo_turnOnce_73 : decode c_yMo_turnOnce 73 = .ok (.bipush 32, 2) := by decide +kernel
theorem d_Mo_turnOnce_75 : decode c_yMo_turnOnce 75 = .ok (.iload_n 3, 1) := by decide +kernel
theorem d_Mo_turnOnce_76 : decode c_yMo_turnOnce 76 = .ok (.imul, 1) := by decide +kernel
theorem d_Mo_turnOnce_77 : decode c_yMo_turnOnce 77 = .ok (.iload 4, 2) := by decide +kernel
theorem d_Mo_turnOnce_79 : decode c_yMo_turnOnce 79 = .ok (.bipush 32, 2) := by decide +kernel
theorem d_Mo_turnOnce_81 : decode c_yMo_turnOnce 81 = .ok (.idiv, 1) := by decide +kernel
theorem d_Mo_turnOnce_82 : decode c_yMo_turnOnce 82 = .ok (.iadd, 1) := by decide +kernel
theorem d_Mo_turnOnce_83 : decode c_yMo_turnOnce 83 = .ok (.iaload, 1) := by decide +kernel
theorem d_Mo_turnOnce_84 : decode c_yMo_turnOnce 84 = .ok (.iload 4, 2) := by decide +kernel
theorem d_Mo_turnOnce_86 : decode c_yMo_turnOnce 86 = .ok (.bipush 32, 2) := by decide +kernel
theorem d_Mo_turnOnce_88 : decode c_yMo_turnOnce 88 = .ok (.irem, 1) := by decide +kernel
theorem d_Mo_turnOnce_89 : decode c_yMo_turnOnce 89 = .ok (.ishr, 1) := by decide +kernel
theorem d_Mo_turnOnce_90 : decode c_yMo_turnOnce 90 = .ok (.iconst 1, 1) := by decide +kernel
theorem d_Mo_turnOnce_91 : decode c_yMo_turnOnce 91 = .ok (.iand, 1) := by decide +kernel
theorem d_Mo_turnOnce_92 : decode c_yMo_turnOnce 92 = .ok (.iconst 1, 1) := by decide +kernel
theorem d_Mo_turnOnce_93 : decode c_yMo_turnOnce 93 = .ok (.if_icmp .ne 14, 3) := by decide +kernel
theorem d_Mo_turnOnce_96 : decode c_yMo_turnOnce 96 = .ok (.aload_n 0, 1) := by decide +kernel
theorem d_Mo_turnOnce_97 : decode c_yMo_turnOnce 97 = .ok (.iload_n 2, 1) := by decide +kernel
theorem d_Mo_turnOnce_98 : decode c_yMo_turnOnce 98 = .ok (.iconst 1, 1) := by decide +kernel
theorem d_Mo_turnOnce_99 : decode c_yMo_turnOnce 99 = .ok (.isub, 1) := by decide +kernel
theorem d_Mo_turnOnce_100 : decode c_yMo_turnOnce 100 = .ok (.iload_n 3, 1) := by decide +kernel
theorem d_Mo_turnOnce_101 : decode c_yMo_turnOnce 101 = .ok (.isub, 1) := by decide +kernel
theorem d_Mo_turnOnce_102 : decode c_yMo_turnOnce 102 = .ok (.iload 4, 2) := by decide +kernel
theorem d_Mo_turnOnce_104 : decode c_yMo_turnOnce 104 = .ok (.invokevirtual 117, 3) := by decide +kernel
theorem d_Mo_turnOnce_107 : decode c_yMo_turnOnce 107 = .ok (.iinc 4 1, 3) := by decide +kernel
theorem d_Mo_turnOnce_110 : decode c_yMo_turnOnce 110 = .ok (.goto (-47), 3) := by decide +kernel
theorem d_Mo_turnOnce_113 : decode c_yMo_turnOnce 113 = .ok (.iinc 3 1, 3) := by decide +kernel
theorem d_Mo_turnOnce_116 : decode c_yMo_turnOnce 116 = .ok (.goto (-61), 3) := by decide +kernel
theorem d_Mo_turnOnce_119 : decode c_yMo_turnOnce 119 = .ok (.return_, 1) := by decide +kernel
set_option maxHeartbeats 4000000 in
set_option maxRecDepth 100000 in
theorem c_Model_turnOnce (l : Launch) (dC : Nat → ClassId) (dI : Nat → Nat → Nat) (hm zd zb zt zs zc zo : Nat) (tw w h mn n fx fy fa fb fc qr fo : Int) (cI : ClassId) (Dk : Int → Int32) (pic : Int → Int → Bool) (Bf : Int → Int32) (sz : Nat) (w1 : 1 ≤ w) (w2 : w ≤ 1024) (h1 : 1 ≤ h) (h2 : h ≤ 1024) (hM : RepM Dk pic) (hO : Off w h pic) : Met l y_Mo_turnOnce w_Mo_turnOnce ({ frames := 1, cells := 0, slots := 0, locals := 22 }) (va_Pc [.ref hm] (zPm (dC, dI) vwCl [(hm, .inr (6, [.int (iZ tw), .int (iZ w), .int (iZ h), .int (iZ mn), .ref zd, .ref zb, .ref zt, .int (iZ n), .ref zs, .ref zc, .int (iZ fx), .int (iZ fy), .int (iZ fa), .int (iZ fb), .int (iZ fc), .int (iZ qr), .int (iZ fo), .ref zo])), (zd, .inl (cI, 32768, .inl (aI Dk))), (zb, .inl (cI, 32768, .inl (aI Bf)))] [(cI, .int)] sz)) (va_Qv (fun (u : (Int → Int32) × (Int → Int32)) => RepM u.1 (trP h pic)) (fun u => zB (dC, dI) vwCl [(cI, .int)] (va_A [(hm, .inr (6, [.int (iZ tw), .int (iZ w), .int (iZ h), .int (iZ mn), .ref zd, .ref zb, .ref zt, .int (iZ n), .ref zs, .ref zc, .int (iZ fx), .int (iZ fy), .int (iZ fa), .int (iZ fb), .int (iZ fc), .int (iZ qr), .int (iZ fo), .ref zo])), (zd, .inl (cI, 32768, .inl (aI Dk))), (zb, .inl (cI, 32768, .inl (aI Bf)))] sz) [(hm, .inr (6, [.int (iZ tw), .int (iZ h), .int (iZ w), .int (iZ mn), .ref zd, .ref zb, .ref zt, .int (iZ n), .ref zs, .ref zc, .int (iZ fx), .int (iZ fy), .int (iZ fa), .int (iZ fb), .int (iZ fc), .int (iZ qr), .int (iZ fo), .ref zo])), (zd, .inl (cI, 32768, .inl (aI u.1))), (zb, .inl (cI, 32768, .inl (aI u.2)))]) (va_A [(hm, .inr (6, [.int (iZ tw), .int (iZ w), .int (iZ h), .int (iZ mn), .ref zd, .ref zb, .ref zt, .int (iZ n), .ref zs, .ref zc, .int (iZ fx), .int (iZ fy), .int (iZ fa), .int (iZ fb), .int (iZ fc), .int (iZ qr), .int (iZ fo), .ref zo])), (zd, .inl (cI, 32768, .inl (aI Dk))), (zb, .inl (cI, 32768, .inl (aI Bf)))] sz)) 0 0 (va_A [(hm, .inr (6, [.int (iZ tw), .int (iZ w), .int (iZ h), .int (iZ mn), .ref zd, .ref zb, .ref zt, .int (iZ n), .ref zs, .ref zc, .int (iZ fx), .int (iZ fy), .int (iZ fa), .int (iZ fb), .int (iZ fc), .int (iZ qr), .int (iZ fo), .ref zo])), (zd, .inl (cI, 32768, .inl (aI Dk))), (zb, .inl (cI, 32768, .inl (aI Bf)))] sz) := by
  refine Met.ofW (cc := c_yMo_turnOnce) (maxL := 5) (ret := none) (by decide) rfl ?_
  intro p e s m args below meth c s₁ B hml hv
  obtain ⟨rfl, hsz, hP, hK, hD0⟩ := hv
  have hx := B.exec
  have hb := B.bytes
  have hr := B.returns
  have hts0 := atoms_spec (ws := w_Mo_turnOnce) B.pre
  have hts : ∀ w ∈ gT, w.before _ s = true := fun w h => hts0 w (List.mem_cons_of_mem _ h)
  have hown : s.vm.findClass R_Mo = some m.cls := findClass_of_methodNamed B.named
  have hlocks := B.notSynchronized
  subst hsz
  have hD := hD0.self (sz := s.heap.size)
  generalize hAe : va_A [(hm, .inr (6, [.int (iZ tw), .int (iZ w), .int (iZ h), .int (iZ mn), .ref zd, .ref zb, .ref zt, .int (iZ n), .ref zs, .ref zc, .int (iZ fx), .int (iZ fy), .int (iZ fa), .int (iZ fb), .int (iZ fc), .int (iZ qr), .int (iZ fo), .ref zo])), (zd, .inl (cI, 32768, .inl (aI Dk))), (zb, .inl (cI, 32768, .inl (aI Bf)))] s.heap.size = A at hD ⊢
  have hA : ∀ q : Nat, s.heap.size ≤ q → A q := fun q h => by rw [← hAe]; exact Or.inr h
  obtain ⟨H, hH⟩ : ∃ H, s.heap = H := ⟨_, rfl⟩
  have hS : va_S A s.heap H [] := by rw [← hH]; exact va_S.rf
  rw [hH] at hP
  rw [hH]
  have hl := lv_entry ([.ref hm]) (n := 5) (Nat.le_of_ble_eq_true rfl)
  rw [lg_entry_eq]
  generalize (lg_sl ([.ref hm]) ++ List.replicate (5 - (lg_sl ([.ref hm])).length) Slot.unset).toArray = ls at hl ⊢
  have hl : lv_has ls 5 [(0, .ref hm)] := hl
  refine lv_iconst (v := iZ (0)) hx hb d_Mo_turnOnce_0 rfl ?_
  refine lv_istore_n (lv' := [(1, .int (iZ 0)), (0, .ref hm)]) hx hb d_Mo_turnOnce_1 rfl hl (by decide) rfl (fun ls hl => ?_)
  have LP_2 : ∀ (n_2 : Nat) (k : Int) (K : Int → Int32) (B1 : Int → Int32), (0 ≤ k) → (k ≤ 32768) → (∀ j : Int, 0 ≤ j → j < k → K j = iZ 0) → (∀ j : Int, k ≤ j → K j = Dk j) → (∀ j : Int, 0 ≤ j → j < k → B1 j = Dk j) → (32768 - k).toNat < n_2 → ∀ (H : Heap) (locs : List Loc), va_P (dC, dI) vwCl [(hm, .inr (6, [.int (iZ tw), .int (iZ w), .int (iZ h), .int (iZ mn), .ref zd, .ref zb, .ref zt, .int (iZ n), .ref zs, .ref zc, .int (iZ fx), .int (iZ fy), .int (iZ fa), .int (iZ fb), .int (iZ fc), .int (iZ qr), .int (iZ fo), .ref zo])), (zd, .inl (cI, 32768, .inl (aI K))), (zb, .inl (cI, 32768, .inl (aI B1)))] H → va_D A [(hm, .inr (6, [.int (iZ tw), .int (iZ w), .int (iZ h), .int (iZ mn), .ref zd, .ref zb, .ref zt, .int (iZ n), .ref zs, .ref zc, .int (iZ fx), .int (iZ fy), .int (iZ fa), .int (iZ fb), .int (iZ fc), .int (iZ qr), .int (iZ fo), .ref zo])), (zd, .inl (cI, 32768, .inl (aI K))), (zb, .inl (cI, 32768, .inl (aI B1)))] → va_S A s.heap H locs → ∀ (ls : Array Slot), lv_has ls 5 [(0, .ref hm), (1, .int (iZ k))] → W p l e ({ frames := 1, cells := 0, slots := 0, locals := 22 } : Room) s m ([.ref hm] : List Value).toArray below meth c H locs 0 0 (MQ below (va_Qv (fun (u : (Int → Int32) × (Int → Int32)) => RepM u.1 (trP h pic)) (fun u => zB (dC, dI) vwCl [(cI, .int)] A [(hm, .inr (6, [.int (iZ tw), .int (iZ h), .int (iZ w), .int (iZ mn), .ref zd, .ref zb, .ref zt, .int (iZ n), .ref zs, .ref zc, .int (iZ fx), .int (iZ fy), .int (iZ fa), .int (iZ fb), .int (iZ fc), .int (iZ qr), .int (iZ fo), .ref zo])), (zd, .inl (cI, 32768, .inl (aI u.1))), (zb, .inl (cI, 32768, .inl (aI u.2)))]) A) ([.ref hm] : List Value).toArray s 0 0 A) (F0 m 2 ls []) := by
    intro n_2
    induction n_2 with
    | zero => intro k K B1 i1 i2 i3 i4 i5 hm; exact absurd hm (by omega)
    | succ n_2 ih_2 =>
      intro k K B1 i1 i2 i3 i4 i5 hm_2 H locs hP hD hS ls hl
      refine lv_iload_n hx hb d_Mo_turnOnce_2 rfl (lv_at hl 1 rfl) ?_
      refine lv_ldc (v := iZ (32768)) hx hb hown (hts _ t_683) d_Mo_turnOnce_3 ?_
      refine zi_ge (tgt := 33) hx hb d_Mo_turnOnce_5 (by decide) (by omega) (by omega) (by omega) (by omega) (fun c_5 => ?_) (fun c_5 => ?_)
      · refine lv_aload_n hx hb d_Mo_turnOnce_33 rfl (lv_at hl 0 rfl) ?_
        refine va_get (D := (dC, dI)) (ci := 6) (v := .int (iZ w)) (C := R_Mo) (T := T_Mo) (N := 18) hx hb hts wi_Mo hown hK hP 0 rfl rfl 1 (by decide) (hts _ t_685) (fun _ h9 => h9) rfl d_Mo_turnOnce_34 ?_
        refine lv_istore_n (lv' := [(1, .int (iZ w)), (0, .ref hm)]) hx hb d_Mo_turnOnce_37 rfl hl (by decide) rfl (fun ls hl => ?_)
        refine lv_aload_n hx hb d_Mo_turnOnce_38 rfl (lv_at hl 1 rfl) ?_
        refine va_get (D := (dC, dI)) (ci := 6) (v := .int (iZ h)) (C := R_Mo) (T := T_Mo) (N := 18) hx hb hts wi_Mo hown hK hP 0 rfl rfl 2 (by decide) (hts _ t_686) (fun _ h9 => h9) rfl d_Mo_turnOnce_39 ?_
        refine lv_istore_n (lv' := [(2, .int (iZ h)), (1, .int (iZ w)), (0, .ref hm)]) hx hb d_Mo_turnOnce_42 rfl hl (by decide) rfl (fun ls hl => ?_)
        refine lv_aload_n hx hb d_Mo_turnOnce_43 rfl (lv_at hl 2 rfl) ?_
        refine lv_iload_n hx hb d_Mo_turnOnce_44 rfl (lv_at hl 0 rfl) ?_
        refine va_put (D := (dC, dI)) (ci := 6) (v := .int (iZ h)) (ty := .int) (C := R_Mo) (T := T_Mo) (N := 18) hx hb hts wi_Mo ty_Mo ty_Mo_ok nd_Mo hown hK hP hD hS 0 rfl rfl 1 (by decide) (hts _ t_685) (fun _ h9 => h9) rfl (by decide +kernel) rfl rfl (Nat.le_of_ble_eq_true rfl) d_Mo_turnOnce_45 (fun H locs hP hD hS => ?_)
        have hP : va_P (dC, dI) vwCl [(hm, .inr (6, [.int (iZ tw), .int (iZ h), .int (iZ h), .int (iZ mn), .ref zd, .ref zb, .ref zt, .int (iZ n), .ref zs, .ref zc, .int (iZ fx), .int (iZ fy), .int (iZ fa), .int (iZ fb), .int (iZ fc), .int (iZ qr), .int (iZ fo), .ref zo])), (zd, .inl (cI, 32768, .inl (aI K))), (zb, .inl (cI, 32768, .inl (aI B1)))] H := hP
        have hD : va_D A [(hm, .inr (6, [.int (iZ tw), .int (iZ h), .int (iZ h), .int (iZ mn), .ref zd, .ref zb, .ref zt, .int (iZ n), .ref zs, .ref zc, .int (iZ fx), .int (iZ fy), .int (iZ fa), .int (iZ fb), .int (iZ fc), .int (iZ qr), .int (iZ fo), .ref zo])), (zd, .inl (cI, 32768, .inl (aI K))), (zb, .inl (cI, 32768, .inl (aI B1)))] := hD
        refine lv_aload_n hx hb d_Mo_turnOnce_48 rfl (lv_at hl 2 rfl) ?_
        refine lv_iload_n hx hb d_Mo_turnOnce_49 rfl (lv_at hl 1 rfl) ?_
        refine va_put (D := (dC, dI)) (ci := 6) (v := .int (iZ w)) (ty := .int) (C := R_Mo) (T := T_Mo) (N := 18) hx hb hts wi_Mo ty_Mo ty_Mo_ok nd_Mo hown hK hP hD hS 0 rfl rfl 2 (by decide) (hts _ t_686) (fun _ h9 => h9) rfl (by decide +kernel) rfl rfl (Nat.le_of_ble_eq_true rfl) d_Mo_turnOnce_50 (fun H locs hP hD hS => ?_)
        have hP : va_P (dC, dI) vwCl [(hm, .inr (6, [.int (iZ tw), .int (iZ h), .int (iZ w), .int (iZ mn), .ref zd, .ref zb, .ref zt, .int (iZ n), .ref zs, .ref zc, .int (iZ fx), .int (iZ fy), .int (iZ fa), .int (iZ fb), .int (iZ fc), .int (iZ qr), .int (iZ fo), .ref zo])), (zd, .inl (cI, 32768, .inl (aI K))), (zb, .inl (cI, 32768, .inl (aI B1)))] H := hP
        have hD : va_D A [(hm, .inr (6, [.int (iZ tw), .int (iZ h), .int (iZ w), .int (iZ mn), .ref zd, .ref zb, .ref zt, .int (iZ n), .ref zs, .ref zc, .int (iZ fx), .int (iZ fy), .int (iZ fa), .int (iZ fb), .int (iZ fc), .int (iZ qr), .int (iZ fo), .ref zo])), (zd, .inl (cI, 32768, .inl (aI K))), (zb, .inl (cI, 32768, .inl (aI B1)))] := hD
        refine lv_iconst (v := iZ (0)) hx hb d_Mo_turnOnce_53 rfl ?_
        refine lv_istore_n (lv' := [(3, .int (iZ 0)), (2, .int (iZ h)), (1, .int (iZ w)), (0, .ref hm)]) hx hb d_Mo_turnOnce_54 rfl hl (by decide) rfl (fun ls hl => ?_)
        have LP_55 : ∀ (n_55 : Nat) (yy : Int) (K1 : Int → Int32), (0 ≤ yy) → (yy ≤ h) → (RepM K1 (toP h pic 0 yy)) → (∀ j : Int, 0 ≤ j → j < 32768 → B1 j = Dk j) → (h - yy).toNat < n_55 → ∀ (H : Heap) (locs : List Loc), va_P (dC, dI) vwCl [(hm, .inr (6, [.int (iZ tw), .int (iZ h), .int (iZ w), .int (iZ mn), .ref zd, .ref zb, .ref zt, .int (iZ n), .ref zs, .ref zc, .int (iZ fx), .int (iZ fy), .int (iZ fa), .int (iZ fb), .int (iZ fc), .int (iZ qr), .int (iZ fo), .ref zo])), (zd, .inl (cI, 32768, .inl (aI K1))), (zb, .inl (cI, 32768, .inl (aI B1)))] H → va_D A [(hm, .inr (6, [.int (iZ tw), .int (iZ h), .int (iZ w), .int (iZ mn), .ref zd, .ref zb, .ref zt, .int (iZ n), .ref zs, .ref zc, .int (iZ fx), .int (iZ fy), .int (iZ fa), .int (iZ fb), .int (iZ fc), .int (iZ qr), .int (iZ fo), .ref zo])), (zd, .inl (cI, 32768, .inl (aI K1))), (zb, .inl (cI, 32768, .inl (aI B1)))] → va_S A s.heap H locs → ∀ (ls : Array Slot), lv_has ls 5 [(0, .ref hm), (1, .int (iZ w)), (2, .int (iZ h)), (3, .int (iZ yy))] → W p l e ({ frames := 1, cells := 0, slots := 0, locals := 22 } : Room) s m ([.ref hm] : List Value).toArray below meth c H locs 0 0 (MQ below (va_Qv (fun (u : (Int → Int32) × (Int → Int32)) => RepM u.1 (trP h pic)) (fun u => zB (dC, dI) vwCl [(cI, .int)] A [(hm, .inr (6, [.int (iZ tw), .int (iZ h), .int (iZ w), .int (iZ mn), .ref zd, .ref zb, .ref zt, .int (iZ n), .ref zs, .ref zc, .int (iZ fx), .int (iZ fy), .int (iZ fa), .int (iZ fb), .int (iZ fc), .int (iZ qr), .int (iZ fo), .ref zo])), (zd, .inl (cI, 32768, .inl (aI u.1))), (zb, .inl (cI, 32768, .inl (aI u.2)))]) A) ([.ref hm] : List Value).toArray s 0 0 A) (F0 m 55 ls []) := by
          intro n_55
          induction n_55 with
          | zero => intro yy K1 l1 l2 l3 j5 hm; exact absurd hm (by omega)
          | succ n_55 ih_55 =>
            intro yy K1 l1 l2 l3 j5 hm_55 H locs hP hD hS ls hl
            refine lv_iload_n hx hb d_Mo_turnOnce_55 rfl (lv_at hl 3 rfl) ?_
            refine lv_iload_n hx hb d_Mo_turnOnce_56 rfl (lv_at hl 2 rfl) ?_
            refine zi_ge (tgt := 119) hx hb d_Mo_turnOnce_57 (by decide) (by omega) (by omega) (by omega) (by omega) (fun c_57 => ?_) (fun c_57 => ?_)
            · exact W.vret hx hb hr (fun t ht hW => ⟨⟨((K1, B1)), rfl, to_end hO (by omega) l3, by rw [ht]; exact hP, va_K.moved hW.alike hK, hD⟩, hS.F ht⟩) hS.2.2 d_Mo_turnOnce_119
            · refine lv_iconst (v := iZ (0)) hx hb d_Mo_turnOnce_60 rfl ?_
              refine lv_istore (lv' := [(4, .int (iZ 0)), (0, .ref hm), (1, .int (iZ w)), (2, .int (iZ h)), (3, .int (iZ yy))]) hx hb d_Mo_turnOnce_61 hl (by decide) rfl (fun ls hl => ?_)
              have LP_63 : ∀ (n_63 : Nat) (xx : Int) (K2 : Int → Int32), (0 ≤ xx) → (xx ≤ w) → (RepM K2 (toP h pic xx yy)) → (w - xx).toNat < n_63 → ∀ (H : Heap) (locs : List Loc), va_P (dC, dI) vwCl [(hm, .inr (6, [.int (iZ tw), .int (iZ h), .int (iZ w), .int (iZ mn), .ref zd, .ref zb, .ref zt, .int (iZ n), .ref zs, .ref zc, .int (iZ fx), .int (iZ fy), .int (iZ fa), .int (iZ fb), .int (iZ fc), .int (iZ qr), .int (iZ fo), .ref zo])), (zd, .inl (cI, 32768, .inl (aI K2))), (zb, .inl (cI, 32768, .inl (aI B1)))] H → va_D A [(hm, .inr (6, [.int (iZ tw), .int (iZ h), .int (iZ w), .int (iZ mn), .ref zd, .ref zb, .ref zt, .int (iZ n), .ref zs, .ref zc, .int (iZ fx), .int (iZ fy), .int (iZ fa), .int (iZ fb), .int (iZ fc), .int (iZ qr), .int (iZ fo), .ref zo])), (zd, .inl (cI, 32768, .inl (aI K2))), (zb, .inl (cI, 32768, .inl (aI B1)))] → va_S A s.heap H locs → ∀ (ls : Array Slot), lv_has ls 5 [(0, .ref hm), (1, .int (iZ w)), (2, .int (iZ h)), (3, .int (iZ yy)), (4, .int (iZ xx))] → W p l e ({ frames := 1, cells := 0, slots := 0, locals := 22 } : Room) s m ([.ref hm] : List Value).toArray below meth c H locs 0 0 (MQ below (va_Qv (fun (u : (Int → Int32) × (Int → Int32)) => RepM u.1 (trP h pic)) (fun u => zB (dC, dI) vwCl [(cI, .int)] A [(hm, .inr (6, [.int (iZ tw), .int (iZ h), .int (iZ w), .int (iZ mn), .ref zd, .ref zb, .ref zt, .int (iZ n), .ref zs, .ref zc, .int (iZ fx), .int (iZ fy), .int (iZ fa), .int (iZ fb), .int (iZ fc), .int (iZ qr), .int (iZ fo), .ref zo])), (zd, .inl (cI, 32768, .inl (aI u.1))), (zb, .inl (cI, 32768, .inl (aI u.2)))]) A) ([.ref hm] : List Value).toArray s 0 0 A) (F0 m 63 ls []) := by
                intro n_63
                induction n_63 with
                | zero => intro xx K2 k1 k2 k3 hm; exact absurd hm (by omega)
                | succ n_63 ih_63 =>
                  intro xx K2 k1 k2 k3 hm_63 H locs hP hD hS ls hl
                  refine lv_iload hx hb d_Mo_turnOnce_63 (lv_at hl 4 rfl) ?_
                  refine lv_iload_n hx hb d_Mo_turnOnce_65 rfl (lv_at hl 1 rfl) ?_
                  refine zi_ge (tgt := 113) hx hb d_Mo_turnOnce_66 (by decide) (by omega) (by omega) (by omega) (by omega) (fun c_66 => ?_) (fun c_66 => ?_)
                  · refine lv_iinc (v := iZ (yy + 1)) (lv' := [(3, .int (iZ (yy + 1))), (0, .ref hm), (1, .int (iZ w)), (2, .int (iZ h)), (4, .int (iZ xx))]) hx hb d_Mo_turnOnce_113 hl (k := 3) rfl (iZ_add _ _) (by decide) rfl (fun ls hl => ?_)
                    refine lv_goto (tgt := 55) hx hb d_Mo_turnOnce_116 (by decide) ?_
                    exact ih_55 (yy + 1) K2 (by omega) (by omega) (to_row hO (by omega) k3) (j5) (by omega) _ _ hP hD hS ls (lv_sub hl [1, 2, 3, 0] rfl)
                  · refine lv_aload_n hx hb d_Mo_turnOnce_69 rfl (lv_at hl 0 rfl) ?_
                    refine va_get (D := (dC, dI)) (ci := 6) (v := .ref zb) (C := R_Mo) (T := T_Mo) (N := 18) hx hb hts wi_Mo hown hK hP 0 rfl rfl 5 (by decide) (hts _ t_689) (fun _ h9 => h9) rfl d_Mo_turnOnce_70 ?_
                    refine lv_bipush (v := iZ (32)) hx hb d_Mo_turnOnce_73 (by decide) ?_
                    refine lv_iload_n hx hb d_Mo_turnOnce_75 rfl (lv_at hl 3 rfl) ?_
                    refine zi_mul hx hb d_Mo_turnOnce_76 ?_
                    refine lv_iload hx hb d_Mo_turnOnce_77 (lv_at hl 4 rfl) ?_
                    refine lv_bipush (v := iZ (32)) hx hb d_Mo_turnOnce_79 (by decide) ?_
                    refine zi_div hx hb d_Mo_turnOnce_81 (by omega) (by omega) (by omega) (by omega) ?_
                    refine zi_add hx hb d_Mo_turnOnce_82 ?_
                    refine z_iald hx hb hK hP 2 0 rfl rfl (by omega) (by omega) (by omega) d_Mo_turnOnce_83 ?_
                    refine lv_iload hx hb d_Mo_turnOnce_84 (lv_at hl 4 rfl) ?_
                    refine lv_bipush (v := iZ (32)) hx hb d_Mo_turnOnce_86 (by decide) ?_
                    refine zi_rem hx hb d_Mo_turnOnce_88 (by omega) (by omega) (by omega) (by omega) ?_
                    refine lv_ishr hx hb d_Mo_turnOnce_89 ?_
                    refine lv_iconst (v := iZ (1)) hx hb d_Mo_turnOnce_90 rfl ?_
                    refine lv_iand hx hb d_Mo_turnOnce_91 ?_
                    refine lv_iconst (v := iZ (1)) hx hb d_Mo_turnOnce_92 rfl ?_
                    have d9 := rm_bit hM j5 (x := xx) (y := yy) (by omega) (by omega) (by omega) (by omega)
                    refine lv_icmp_ne (tgt := 107) hx hb d_Mo_turnOnce_93 (by decide) (fun c_93 => ?_) (fun c_93 => ?_)
                    · refine lv_iinc (v := iZ (xx + 1)) (lv' := [(4, .int (iZ (xx + 1))), (0, .ref hm), (1, .int (iZ w)), (2, .int (iZ h)), (3, .int (iZ yy))]) hx hb d_Mo_turnOnce_107 hl (k := 4) rfl (iZ_add _ _) (by decide) rfl (fun ls hl => ?_)
                      refine lv_goto (tgt := 63) hx hb d_Mo_turnOnce_110 (by decide) ?_
                      exact ih_63 (xx + 1) K2 (by omega) (by omega) (by first | exact to_no (Bool.eq_false_iff.mpr (fun z9 => c_93 (d9.mpr z9))) k3 | exact to_yes (d9.mp c_93) q_104) (by omega) _ _ hP hD hS ls (lv_sub hl [1, 2, 3, 4, 0] rfl)
                    · refine lv_aload_n hx hb d_Mo_turnOnce_96 rfl (lv_at hl 0 rfl) ?_
                      refine lv_iload_n hx hb d_Mo_turnOnce_97 rfl (lv_at hl 2 rfl) ?_
                      refine lv_iconst (v := iZ (1)) hx hb d_Mo_turnOnce_98 rfl ?_
                      refine zi_sub hx hb d_Mo_turnOnce_99 ?_
                      refine lv_iload_n hx hb d_Mo_turnOnce_100 rfl (lv_at hl 3 rfl) ?_
                      refine zi_sub hx hb d_Mo_turnOnce_101 ?_
                      refine lv_iload hx hb d_Mo_turnOnce_102 (lv_at hl 4 rfl) ?_
                      refine zc_v (w1 := fun (u_104 : Int → Int32) => [(hm, .inr (6, [.int (iZ tw), .int (iZ h), .int (iZ w), .int (iZ mn), .ref zd, .ref zb, .ref zt, .int (iZ n), .ref zs, .ref zc, .int (iZ fx), .int (iZ fy), .int (iZ fa), .int (iZ fb), .int (iZ fc), .int (iZ qr), .int (iZ fo), .ref zo])), (zd, .inl (cI, 32768, .inl (aI u_104)))]) (wr := [(zb, .inl (cI, 32768, .inl (aI B1)))]) (va_runV (As := [.int (iZ ((h - 1) - yy)), .int (iZ xx)]) (rest := []) ⟨hx, hb, hml, hown, hts⟩ (c_Model_other l dC dI hm zd zb zt zs zc zo tw h w mn n fx fy fa fb fc qr fo cI K2 (toP h pic xx yy) ((h - 1) - yy) xx H.size (k3) (by first | omega | assumption) (by first | omega | assumption) (by first | omega | assumption) (by first | omega | assumption)) (cwV 2 hts (gV t_835 t_837 s_29 t_6 t_838) rfl rfl rfl (by decide +kernel) ⟨Nat.le_of_ble_eq_true rfl, Nat.le_of_ble_eq_true rfl⟩) ⟨zPm_blind, va_recv hK hP (ci := 6) (q0 := 0) rfl rfl, zPm_pre hP hD hK [0, 1] [0] rfl rfl rfl rfl⟩ rfl rfl hl.1 rfl (lv_room (Nat.le_of_ble_eq_true rfl)) d_Mo_turnOnce_104 ⟨Nat.le_of_ble_eq_true rfl, Nat.le_of_ble_eq_true rfl⟩) hP hD hS hA [0, 1] [2] rfl rfl rfl (by decide) (fun u_104 H locs q_104 hP hD hS => ?_)
                      have hP : va_P (dC, dI) vwCl [(zb, .inl (cI, 32768, .inl (aI B1))), (hm, .inr (6, [.int (iZ tw), .int (iZ h), .int (iZ w), .int (iZ mn), .ref zd, .ref zb, .ref zt, .int (iZ n), .ref zs, .ref zc, .int (iZ fx), .int (iZ fy), .int (iZ fa), .int (iZ fb), .int (iZ fc), .int (iZ qr), .int (iZ fo), .ref zo])), (zd, .inl (cI, 32768, .inl (aI u_104)))] H := hP
                      have hD : va_D A [(zb, .inl (cI, 32768, .inl (aI B1))), (hm, .inr (6, [.int (iZ tw), .int (iZ h), .int (iZ w), .int (iZ mn), .ref zd, .ref zb, .ref zt, .int (iZ n), .ref zs, .ref zc, .int (iZ fx), .int (iZ fy), .int (iZ fa), .int (iZ fb), .int (iZ fc), .int (iZ qr), .int (iZ fo), .ref zo])), (zd, .inl (cI, 32768, .inl (aI u_104)))] := hD
                      refine lv_iinc (v := iZ (xx + 1)) (lv' := [(4, .int (iZ (xx + 1))), (0, .ref hm), (1, .int (iZ w)), (2, .int (iZ h)), (3, .int (iZ yy))]) hx hb d_Mo_turnOnce_107 hl (k := 4) rfl (iZ_add _ _) (by decide) rfl (fun ls hl => ?_)
                      refine lv_goto (tgt := 63) hx hb d_Mo_turnOnce_110 (by decide) ?_
                      exact ih_63 (xx + 1) u_104 (by omega) (by omega) (by first | exact to_no (Bool.eq_false_iff.mpr (fun z9 => c_93 (d9.mpr z9))) k3 | exact to_yes (d9.mp c_93) q_104) (by omega) _ _ (hP.sub (ws' := [(hm, .inr (6, [.int (iZ tw), .int (iZ h), .int (iZ w), .int (iZ mn), .ref zd, .ref zb, .ref zt, .int (iZ n), .ref zs, .ref zc, .int (iZ fx), .int (iZ fy), .int (iZ fa), .int (iZ fb), .int (iZ fc), .int (iZ qr), .int (iZ fo), .ref zo])), (zd, .inl (cI, 32768, .inl (aI u_104))), (zb, .inl (cI, 32768, .inl (aI B1)))]) [1, 2, 0] rfl) (hD.sub (ws' := [(hm, .inr (6, [.int (iZ tw), .int (iZ h), .int (iZ w), .int (iZ mn), .ref zd, .ref zb, .ref zt, .int (iZ n), .ref zs, .ref zc, .int (iZ fx), .int (iZ fy), .int (iZ fa), .int (iZ fb), .int (iZ fc), .int (iZ qr), .int (iZ fo), .ref zo])), (zd, .inl (cI, 32768, .inl (aI u_104))), (zb, .inl (cI, 32768, .inl (aI B1)))]) [1, 2, 0] (by decide) rfl) hS ls (lv_sub hl [1, 2, 3, 4, 0] rfl)
              exact LP_63 _ 0 K1 (by omega) (by omega) (l3) (Nat.lt_succ_self _) _ _ hP hD hS ls (lv_sub hl [1, 2, 3, 4, 0] rfl)
        exact LP_55 _ 0 K (by omega) (by omega) (to_0 hO (fun j j1 j2 => i3 j j1 (by omega))) (fun j j1 j2 => i5 j j1 (by omega)) (Nat.lt_succ_self _) _ _ hP hD hS ls (lv_sub hl [3, 2, 1, 0] rfl)
      · refine lv_aload_n hx hb d_Mo_turnOnce_8 rfl (lv_at hl 0 rfl) ?_
        refine va_get (D := (dC, dI)) (ci := 6) (v := .ref zb) (C := R_Mo) (T := T_Mo) (N := 18) hx hb hts wi_Mo hown hK hP 0 rfl rfl 5 (by decide) (hts _ t_689) (fun _ h9 => h9) rfl d_Mo_turnOnce_9 ?_
        refine lv_iload_n hx hb d_Mo_turnOnce_12 rfl (lv_at hl 1 rfl) ?_
        refine lv_aload_n hx hb d_Mo_turnOnce_13 rfl (lv_at hl 0 rfl) ?_
        refine va_get (D := (dC, dI)) (ci := 6) (v := .ref zd) (C := R_Mo) (T := T_Mo) (N := 18) hx hb hts wi_Mo hown hK hP 0 rfl rfl 4 (by decide) (hts _ t_688) (fun _ h9 => h9) rfl d_Mo_turnOnce_14 ?_
        refine lv_iload_n hx hb d_Mo_turnOnce_17 rfl (lv_at hl 1 rfl) ?_
        refine z_iald hx hb hK hP 1 0 rfl rfl (by omega) (by omega) (by omega) d_Mo_turnOnce_18 ?_
        refine z_iast hx hb hK hP hD hS 2 0 rfl rfl (by omega) (by omega) (by omega) d_Mo_turnOnce_19 (fun H locs hP hD hS => ?_)
        have hP : va_P (dC, dI) vwCl [(hm, .inr (6, [.int (iZ tw), .int (iZ w), .int (iZ h), .int (iZ mn), .ref zd, .ref zb, .ref zt, .int (iZ n), .ref zs, .ref zc, .int (iZ fx), .int (iZ fy), .int (iZ fa), .int (iZ fb), .int (iZ fc), .int (iZ qr), .int (iZ fo), .ref zo])), (zd, .inl (cI, 32768, .inl (aI K))), (zb, .inl (cI, 32768, .inl (aI (upZ B1 k (K k)))))] H := hP
        have hD : va_D A [(hm, .inr (6, [.int (iZ tw), .int (iZ w), .int (iZ h), .int (iZ mn), .ref zd, .ref zb, .ref zt, .int (iZ n), .ref zs, .ref zc, .int (iZ fx), .int (iZ fy), .int (iZ fa), .int (iZ fb), .int (iZ fc), .int (iZ qr), .int (iZ fo), .ref zo])), (zd, .inl (cI, 32768, .inl (aI K))), (zb, .inl (cI, 32768, .inl (aI (upZ B1 k (K k)))))] := hD
        refine lv_aload_n hx hb d_Mo_turnOnce_20 rfl (lv_at hl 0 rfl) ?_
        refine va_get (D := (dC, dI)) (ci := 6) (v := .ref zd) (C := R_Mo) (T := T_Mo) (N := 18) hx hb hts wi_Mo hown hK hP 0 rfl rfl 4 (by decide) (hts _ t_688) (fun _ h9 => h9) rfl d_Mo_turnOnce_21 ?_
        refine lv_iload_n hx hb d_Mo_turnOnce_24 rfl (lv_at hl 1 rfl) ?_
        refine lv_iconst (v := iZ (0)) hx hb d_Mo_turnOnce_25 rfl ?_
        refine z_iast hx hb hK hP hD hS 1 0 rfl rfl (by omega) (by omega) (by omega) d_Mo_turnOnce_26 (fun H locs hP hD hS => ?_)
        have hP : va_P (dC, dI) vwCl [(hm, .inr (6, [.int (iZ tw), .int (iZ w), .int (iZ h), .int (iZ mn), .ref zd, .ref zb, .ref zt, .int (iZ n), .ref zs, .ref zc, .int (iZ fx), .int (iZ fy), .int (iZ fa), .int (iZ fb), .int (iZ fc), .int (iZ qr), .int (iZ fo), .ref zo])), (zd, .inl (cI, 32768, .inl (aI (upZ K k (iZ 0))))), (zb, .inl (cI, 32768, .inl (aI (upZ B1 k (K k)))))] H := hP
        have hD : va_D A [(hm, .inr (6, [.int (iZ tw), .int (iZ w), .int (iZ h), .int (iZ mn), .ref zd, .ref zb, .ref zt, .int (iZ n), .ref zs, .ref zc, .int (iZ fx), .int (iZ fy), .int (iZ fa), .int (iZ fb), .int (iZ fc), .int (iZ qr), .int (iZ fo), .ref zo])), (zd, .inl (cI, 32768, .inl (aI (upZ K k (iZ 0))))), (zb, .inl (cI, 32768, .inl (aI (upZ B1 k (K k)))))] := hD
        refine lv_iinc (v := iZ (k + 1)) (lv' := [(1, .int (iZ (k + 1))), (0, .ref hm)]) hx hb d_Mo_turnOnce_27 hl (k := 1) rfl (iZ_add _ _) (by decide) rfl (fun ls hl => ?_)
        refine lv_goto (tgt := 2) hx hb d_Mo_turnOnce_30 (by decide) ?_
        exact ih_2 (k + 1) (upZ K k (iZ 0)) (upZ B1 k (K k)) (by omega) (by omega) (fun j j1 j2 => by by_cases q : j = k; (rw [q, upZ_s]); (rw [upZ_n _ _ q]; exact i3 j j1 (by omega))) (fun j j1 => by rw [upZ_n _ _ (by omega)]; exact i4 j (by omega)) (fun j j1 j2 => by by_cases q : j = k; (rw [q, upZ_s]; exact i4 k (by omega)); (rw [upZ_n _ _ q]; exact i5 j j1 (by omega))) (by omega) _ _ hP hD hS ls (lv_sub hl [1, 0] rfl)
  exact LP_2 _ 0 Dk Bf (by omega) (by omega) (fun j j1 j2 => absurd j2 (by omega)) (fun j _ => rfl) (fun j j1 j2 => absurd j2 (by omega)) (Nat.lt_succ_self _) _ _ hP hD hS ls (lv_sub hl [1, 0] rfl)
theorem d_Mo_turn_0 : decode c_yMo_turn 0 = .ok (.aload_n 0, 1) := by decide +kernel
theorem d_Mo_turn_1 : decode c_yMo_turn 1 = .ok (.iload_n 1, 1) := by decide +kernel
theorem d_Mo_turn_2 : decode c_yMo_turn 2 = .ok (.iconst 0, 1) := by decide +kernel
theorem d_Mo_turn_3 : decode c_yMo_turn 3 = .ok (.iconst 3, 1) := by decide +kernel
theorem d_Mo_turn_4 : decode c_yMo_turn 4 = .ok (.invokestatic 121, 3) := by decide +kernel
theorem d_Mo_turn_7 : decode c_yMo_turn 7 = .ok (.ifCond .eq 7, 3) := by decide +kernel
theorem d_Mo_turn_10 : decode c_yMo_turn 10 = .ok (.iconst 1, 1) := by decide +kernel
theorem d_Mo_turn_11 : decode c_yMo_turn 11 = .ok (.goto 4, 3) := by decide +kernel
theorem d_Mo_turn_14 : decode c_yMo_turn 14 = .ok (.iconst 0, 1) := by decide +kernel
theorem d_Mo_turn_15 : decode c_yMo_turn 15 = .ok (.putfield 37, 3) := by decide +kernel
theorem d_Mo_turn_18 : decode c_yMo_turn 18 = .ok (.iconst 0, 1) := by decide +kernel
theorem d_Mo_turn_19 : decode c_yMo_turn 19 = .ok (.istore_n 2, 1) := by decide +kernel
theorem d_Mo_turn_20 : decode c_yMo_turn 20 = .ok (.iload_n 2, 1) := by decide +kernel
theorem d_Mo_turn_21 : decode c_yMo_turn 21 = .ok (.iload_n 1, 1) := by decide +kernel
theorem d_Mo_turn_22 : decode c_yMo_turn 22 = .ok (.if_icmp .ge 20, 3) := by decide +kernel
theorem d_Mo_turn_25 : decode c_yMo_turn 25 = .ok (.aload_n 0, 1) := by decide +kernel
theorem d_Mo_turn_26 : decode c_yMo_turn 26 = .ok (.getfield 37, 3) := by decide +kernel
theorem d_Mo_turn_29 : decode c_yMo_turn 29 = .ok (.ifCond .ne 13, 3) := by decide +kernel
theorem d_Mo_turn_32 : decode c_yMo_turn 32 = .ok (.aload_n 0, 1) := by decide +kernel
theorem d_Mo_turn_33 : decode c_yMo_turn 33 = .ok (.invokevirtual 138, 3) := by decide +kernel
theorem d_Mo_turn_36 : decode c_yMo_turn 36 = .ok (.iinc 2 1, 3) := by decide +kernel
theorem d_Mo_turn_39 : decode c_yMo_turn 39 = .ok (.goto (-19), 3) := by decide +kernel
theorem d_Mo_turn_42 : decode c_yMo_turn 42 = .ok (.return_, 1) := by decide +kernel
set_option maxHeartbeats 4000000 in
set_option maxRecDepth 100000 in
theorem c_Model_turn (l : Launch) (dC : Nat → ClassId) (dI : Nat → Nat → Nat) (hm zd zb zt zs zc zo : Nat) (tw w h mn n fx fy fa fb fc qr fo : Int) (cI : ClassId) (Dk : Int → Int32) (pic : Int → Int → Bool) (Bf : Int → Int32) (aq : Int) (sz : Nat) (w1 : 1 ≤ w) (w2 : w ≤ 1024) (h1 : 1 ≤ h) (h2 : h ≤ 1024) (hM : RepM Dk pic) (hO : Off w h pic) (aq1 : -2147483648 ≤ aq) (aq2 : aq ≤ 2147483647) : Met l y_Mo_turn w_Mo_turn ({ frames := 2, cells := 0, slots := 0, locals := 46 }) (va_Pc [.ref hm, .int (iZ aq)] (zPm (dC, dI) vwCl [(hm, .inr (6, [.int (iZ tw), .int (iZ w), .int (iZ h), .int (iZ mn), .ref zd, .ref zb, .ref zt, .int (iZ n), .ref zs, .ref zc, .int (iZ fx), .int (iZ fy), .int (iZ fa), .int (iZ fb), .int (iZ fc), .int (iZ qr), .int (iZ fo), .ref zo])), (zd, .inl (cI, 32768, .inl (aI Dk))), (zb, .inl (cI, 32768, .inl (aI Bf)))] [(cI, .int)] sz)) (va_Qv (fun (u : Int × Int × Int × (Int → Int32) × (Int → Int32)) => ((0 ≤ aq ∧ aq ≤ 3) ∧ u.1 = 0 ∧ u.2.1 = (trN w h pic aq.toNat).1 ∧ u.2.2.1 = (trN w h pic aq.toNat).2.1 ∧ RepM u.2.2.2.1 (trN w h pic aq.toNat).2.2) ∨ (¬ (0 ≤ aq ∧ aq ≤ 3) ∧ u.1 = 1 ∧ u.2.1 = w ∧ u.2.2.1 = h ∧ u.2.2.2.1 = Dk)) (fun u => zB (dC, dI) vwCl [(cI, .int)] (va_A [(hm, .inr (6, [.int (iZ tw), .int (iZ w), .int (iZ h), .int (iZ mn), .ref zd, .ref zb, .ref zt, .int (iZ n), .ref zs, .ref zc, .int (iZ fx), .int (iZ fy), .int (iZ fa), .int (iZ fb), .int (iZ fc), .int (iZ qr), .int (iZ fo), .ref zo])), (zd, .inl (cI, 32768, .inl (aI Dk))), (zb, .inl (cI, 32768, .inl (aI Bf)))] sz) [(hm, .inr (6, [.int (iZ u.1), .int (iZ u.2.1), .int (iZ u.2.2.1), .int (iZ mn), .ref zd, .ref zb, .ref zt, .int (iZ n), .ref zs, .ref zc, .int (iZ fx), .int (iZ fy), .int (iZ fa), .int (iZ fb), .int (iZ fc), .int (iZ qr), .int (iZ fo), .ref zo])), (zd, .inl (cI, 32768, .inl (aI u.2.2.2.1))), (zb, .inl (cI, 32768, .inl (aI u.2.2.2.2)))]) (va_A [(hm, .inr (6, [.int (iZ tw), .int (iZ w), .int (iZ h), .int (iZ mn), .ref zd, .ref zb, .ref zt, .int (iZ n), .ref zs, .ref zc, .int (iZ fx), .int (iZ fy), .int (iZ fa), .int (iZ fb), .int (iZ fc), .int (iZ qr), .int (iZ fo), .ref zo])), (zd, .inl (cI, 32768, .inl (aI Dk))), (zb, .inl (cI, 32768, .inl (aI Bf)))] sz)) 0 0 (va_A [(hm, .inr (6, [.int (iZ tw), .int (iZ w), .int (iZ h), .int (iZ mn), .ref zd, .ref zb, .ref zt, .int (iZ n), .ref zs, .ref zc, .int (iZ fx), .int (iZ fy), .int (iZ fa), .int (iZ fb), .int (iZ fc), .int (iZ qr), .int (iZ fo), .ref zo])), (zd, .inl (cI, 32768, .inl (aI Dk))), (zb, .inl (cI, 32768, .inl (aI Bf)))] sz) := by
  refine Met.ofW (cc := c_yMo_turn) (maxL := 3) (ret := none) (by decide) rfl ?_
  intro p e s m args below meth c s₁ B hml hv
  obtain ⟨rfl, hsz, hP, hK, hD0⟩ := hv
  have hx := B.exec
  have hb := B.bytes
  have hr := B.returns
  have hts0 := atoms_spec (ws := w_Mo_turn) B.pre
  have hts : ∀ w ∈ gT, w.before _ s = true := fun w h => hts0 w (List.mem_cons_of_mem _ h)
  have hown : s.vm.findClass R_Mo = some m.cls := findClass_of_methodNamed B.named
  have hlocks := B.notSynchronized
  subst hsz
  have hD := hD0.self (sz := s.heap.size)
  generalize hAe : va_A [(hm, .inr (6, [.int (iZ tw), .int (iZ w), .int (iZ h), .int (iZ mn), .ref zd, .ref zb, .ref zt, .int (iZ n), .ref zs, .ref zc, .int (iZ fx), .int (iZ fy), .int (iZ fa), .int (iZ fb), .int (iZ fc), .int (iZ qr), .int (iZ fo), .ref zo])), (zd, .inl (cI, 32768, .inl (aI Dk))), (zb, .inl (cI, 32768, .inl (aI Bf)))] s.heap.size = A at hD ⊢
  have hA : ∀ q : Nat, s.heap.size ≤ q → A q := fun q h => by rw [← hAe]; exact Or.inr h
  obtain ⟨H, hH⟩ : ∃ H, s.heap = H := ⟨_, rfl⟩
  have hS : va_S A s.heap H [] := by rw [← hH]; exact va_S.rf
  rw [hH] at hP
  rw [hH]
  have hl := lv_entry ([.ref hm, .int (iZ aq)]) (n := 3) (Nat.le_of_ble_eq_true rfl)
  rw [lg_entry_eq]
  generalize (lg_sl ([.ref hm, .int (iZ aq)]) ++ List.replicate (3 - (lg_sl ([.ref hm, .int (iZ aq)])).length) Slot.unset).toArray = ls at hl ⊢
  have hl : lv_has ls 3 [(0, .ref hm), (1, .int (iZ aq))] := hl
  refine lv_aload_n hx hb d_Mo_turn_0 rfl (lv_at hl 0 rfl) ?_
  refine lv_iload_n hx hb d_Mo_turn_1 rfl (lv_at hl 1 rfl) ?_
  refine lv_iconst (v := iZ (0)) hx hb d_Mo_turn_2 rfl ?_
  refine lv_iconst (v := iZ (3)) hx hb d_Mo_turn_3 rfl ?_
  refine vp_callSi (va_runS (As := [.int (iZ aq), .int (iZ 0), .int (iZ 3)]) (rest := [.ref hm]) ⟨hx, hb, hml, hown, hts⟩ (c_Model_isNot l dC dI aq 0 3 (by first | omega | assumption) (by first | omega | assumption) (by first | omega | assumption) (by first | omega | assumption) (by first | omega | assumption) (by first | omega | assumption)) (va_cwS 3 hts (gS t_771 t_772 t_6 t_773) rfl rfl rfl (by decide +kernel) ⟨Nat.le_of_ble_eq_true rfl, Nat.le_of_ble_eq_true rfl⟩) ⟨zPr_blind, zPr_pre hP hK [] [] rfl rfl⟩ rfl rfl hl.1 rfl (lv_room (Nat.le_of_ble_eq_true rfl)) d_Mo_turn_4 ⟨Nat.le_of_ble_eq_true rfl, Nat.le_of_ble_eq_true rfl⟩).run (fun r_4 q_4 => ?_)
  obtain rfl := q_4
  refine zb_if_eq (tgt := 14) hx hb d_Mo_turn_7 (by decide) (fun c_7 => ?_) (fun c_7 => ?_)
  · have c_7 := of_decide_eq_false c_7
    refine lv_iconst (v := iZ (0)) hx hb d_Mo_turn_14 rfl ?_
    refine va_put (D := (dC, dI)) (ci := 6) (v := .int (iZ 0)) (ty := .int) (C := R_Mo) (T := T_Mo) (N := 18) hx hb hts wi_Mo ty_Mo ty_Mo_ok nd_Mo hown hK hP hD hS 0 rfl rfl 0 (by decide) (hts _ t_684) (fun _ h9 => h9) rfl (by decide +kernel) rfl rfl (Nat.le_of_ble_eq_true rfl) d_Mo_turn_15 (fun H locs hP hD hS => ?_)
    have hP : va_P (dC, dI) vwCl [(hm, .inr (6, [.int (iZ 0), .int (iZ w), .int (iZ h), .int (iZ mn), .ref zd, .ref zb, .ref zt, .int (iZ n), .ref zs, .ref zc, .int (iZ fx), .int (iZ fy), .int (iZ fa), .int (iZ fb), .int (iZ fc), .int (iZ qr), .int (iZ fo), .ref zo])), (zd, .inl (cI, 32768, .inl (aI Dk))), (zb, .inl (cI, 32768, .inl (aI Bf)))] H := hP
    have hD : va_D A [(hm, .inr (6, [.int (iZ 0), .int (iZ w), .int (iZ h), .int (iZ mn), .ref zd, .ref zb, .ref zt, .int (iZ n), .ref zs, .ref zc, .int (iZ fx), .int (iZ fy), .int (iZ fa), .int (iZ fb), .int (iZ fc), .int (iZ qr), .int (iZ fo), .ref zo])), (zd, .inl (cI, 32768, .inl (aI Dk))), (zb, .inl (cI, 32768, .inl (aI Bf)))] := hD
    refine lv_iconst (v := iZ (0)) hx hb d_Mo_turn_18 rfl ?_
    refine lv_istore_n (lv' := [(2, .int (iZ 0)), (0, .ref hm), (1, .int (iZ aq))]) hx hb d_Mo_turn_19 rfl hl (by decide) rfl (fun ls hl => ?_)
    refine lv_iload_n hx hb d_Mo_turn_20 rfl (lv_at hl 0 rfl) ?_
    refine lv_iload_n hx hb d_Mo_turn_21 rfl (lv_at hl 2 rfl) ?_
    refine zi_ge (tgt := 42) hx hb d_Mo_turn_22 (by decide) (by omega) (by omega) (by omega) (by omega) (fun c_22 => ?_) (fun c_22 => ?_)
    · exact W.vret hx hb hr (fun t ht hW => ⟨⟨((0, w, h, Dk, Bf)), rfl, Or.inl ⟨by omega, rfl, by rw [show aq.toNat = 0 by omega]; rfl, by rw [show aq.toNat = 0 by omega]; rfl, by rw [show aq.toNat = 0 by omega]; exact hM⟩, by rw [ht]; exact hP, va_K.moved hW.alike hK, hD⟩, hS.F ht⟩) hS.2.2 d_Mo_turn_42
    · refine lv_aload_n hx hb d_Mo_turn_25 rfl (lv_at hl 1 rfl) ?_
      refine va_get (D := (dC, dI)) (ci := 6) (v := .int (iZ 0)) (C := R_Mo) (T := T_Mo) (N := 18) hx hb hts wi_Mo hown hK hP 0 rfl rfl 0 (by decide) (hts _ t_684) (fun _ h9 => h9) rfl d_Mo_turn_26 ?_
      refine zi_if_ne (tgt := 42) hx hb d_Mo_turn_29 (by decide) (by omega) (by omega) (fun c_29 => ?_) (fun c_29 => ?_)
      · exact absurd c_29 (by omega)
      · refine lv_aload_n hx hb d_Mo_turn_32 rfl (lv_at hl 1 rfl) ?_
        refine zc_v (w1 := fun (u_33 : (Int → Int32) × (Int → Int32)) => [(hm, .inr (6, [.int (iZ 0), .int (iZ h), .int (iZ w), .int (iZ mn), .ref zd, .ref zb, .ref zt, .int (iZ n), .ref zs, .ref zc, .int (iZ fx), .int (iZ fy), .int (iZ fa), .int (iZ fb), .int (iZ fc), .int (iZ qr), .int (iZ fo), .ref zo])), (zd, .inl (cI, 32768, .inl (aI u_33.1))), (zb, .inl (cI, 32768, .inl (aI u_33.2)))]) (wr := []) (va_runV (As := []) (rest := []) ⟨hx, hb, hml, hown, hts⟩ (c_Model_turnOnce l dC dI hm zd zb zt zs zc zo 0 w h mn n fx fy fa fb fc qr fo cI Dk pic Bf H.size (by first | omega | assumption) (by first | omega | assumption) (by first | omega | assumption) (by first | omega | assumption) (hM) (hO)) (cwV 0 hts (gV t_875 t_877 s_30 t_6 t_878) rfl rfl rfl (by decide +kernel) ⟨Nat.le_of_ble_eq_true rfl, Nat.le_of_ble_eq_true rfl⟩) ⟨zPm_blind, va_recv hK hP (ci := 6) (q0 := 0) rfl rfl, zPm_pre hP hD hK [0, 1, 2] [0] rfl rfl rfl rfl⟩ rfl rfl hl.1 rfl (lv_room (Nat.le_of_ble_eq_true rfl)) d_Mo_turn_33 ⟨Nat.le_of_ble_eq_true rfl, Nat.le_of_ble_eq_true rfl⟩) hP hD hS hA [0, 1, 2] [] rfl rfl rfl (by decide) (fun u_33 H locs q_33 hP hD hS => ?_)
        have hP : va_P (dC, dI) vwCl [(hm, .inr (6, [.int (iZ 0), .int (iZ h), .int (iZ w), .int (iZ mn), .ref zd, .ref zb, .ref zt, .int (iZ n), .ref zs, .ref zc, .int (iZ fx), .int (iZ fy), .int (iZ fa), .int (iZ fb), .int (iZ fc), .int (iZ qr), .int (iZ fo), .ref zo])), (zd, .inl (cI, 32768, .inl (aI u_33.1))), (zb, .inl (cI, 32768, .inl (aI u_33.2)))] H := hP
        have hD : va_D A [(hm, .inr (6, [.int (iZ 0), .int (iZ h), .int (iZ w), .int (iZ mn), .ref zd, .ref zb, .ref zt, .int (iZ n), .ref zs, .ref zc, .int (iZ fx), .int (iZ fy), .int (iZ fa), .int (iZ fb), .int (iZ fc), .int (iZ qr), .int (iZ fo), .ref zo])), (zd, .inl (cI, 32768, .inl (aI u_33.1))), (zb, .inl (cI, 32768, .inl (aI u_33.2)))] := hD
        refine lv_iinc (v := iZ (0 + 1)) (lv' := [(2, .int (iZ (0 + 1))), (0, .ref hm), (1, .int (iZ aq))]) hx hb d_Mo_turn_36 hl (k := 0) rfl (iZ_add _ _) (by decide) rfl (fun ls hl => ?_)
        refine lv_goto (tgt := 20) hx hb d_Mo_turn_39 (by decide) ?_
        refine lv_iload_n hx hb d_Mo_turn_20 rfl (lv_at hl 0 rfl) ?_
        refine lv_iload_n hx hb d_Mo_turn_21 rfl (lv_at hl 2 rfl) ?_
        refine zi_ge (tgt := 42) hx hb d_Mo_turn_22 (by decide) (by omega) (by omega) (by omega) (by omega) (fun c_22 => ?_) (fun c_22 => ?_)
        · exact W.vret hx hb hr (fun t ht hW => ⟨⟨((0, h, w, u_33.1, u_33.2)), rfl, Or.inl ⟨by omega, rfl, by rw [show aq.toNat = 1 by omega]; rfl, by rw [show aq.toNat = 1 by omega]; rfl, by rw [show aq.toNat = 1 by omega]; exact q_33⟩, by rw [ht]; exact hP, va_K.moved hW.alike hK, hD⟩, hS.F ht⟩) hS.2.2 d_Mo_turn_42
        · refine lv_aload_n hx hb d_Mo_turn_25 rfl (lv_at hl 1 rfl) ?_
          refine va_get (D := (dC, dI)) (ci := 6) (v := .int (iZ 0)) (C := R_Mo) (T := T_Mo) (N := 18) hx hb hts wi_Mo hown hK hP 0 rfl rfl 0 (by decide) (hts _ t_684) (fun _ h9 => h9) rfl d_Mo_turn_26 ?_
          refine zi_if_ne (tgt := 42) hx hb d_Mo_turn_29 (by decide) (by omega) (by omega) (fun c_29 => ?_) (fun c_29 => ?_)
          · exact absurd c_29 (by omega)
          · refine lv_aload_n hx hb d_Mo_turn_32 rfl (lv_at hl 1 rfl) ?_
            refine zc_v (w1 := fun (u_33_1 : (Int → Int32) × (Int → Int32)) => [(hm, .inr (6, [.int (iZ 0), .int (iZ w), .int (iZ h), .int (iZ mn), .ref zd, .ref zb, .ref zt, .int (iZ n), .ref zs, .ref zc, .int (iZ fx), .int (iZ fy), .int (iZ fa), .int (iZ fb), .int (iZ fc), .int (iZ qr), .int (iZ fo), .ref zo])), (zd, .inl (cI, 32768, .inl (aI u_33_1.1))), (zb, .inl (cI, 32768, .inl (aI u_33_1.2)))]) (wr := []) (va_runV (As := []) (rest := []) ⟨hx, hb, hml, hown, hts⟩ (c_Model_turnOnce l dC dI hm zd zb zt zs zc zo 0 h w mn n fx fy fa fb fc qr fo cI u_33.1 (trP h pic) u_33.2 H.size (by first | omega | assumption) (by first | omega | assumption) (by first | omega | assumption) (by first | omega | assumption) (q_33) (tr_off hO)) (cwV 0 hts (gV t_875 t_877 s_30 t_6 t_878) rfl rfl rfl (by decide +kernel) ⟨Nat.le_of_ble_eq_true rfl, Nat.le_of_ble_eq_true rfl⟩) ⟨zPm_blind, va_recv hK hP (ci := 6) (q0 := 0) rfl rfl, zPm_pre hP hD hK [0, 1, 2] [0] rfl rfl rfl rfl⟩ rfl rfl hl.1 rfl (lv_room (Nat.le_of_ble_eq_true rfl)) d_Mo_turn_33 ⟨Nat.le_of_ble_eq_true rfl, Nat.le_of_ble_eq_true rfl⟩) hP hD hS hA [0, 1, 2] [] rfl rfl rfl (by decide) (fun u_33_1 H locs q_33_1 hP hD hS => ?_)
            have hP : va_P (dC, dI) vwCl [(hm, .inr (6, [.int (iZ 0), .int (iZ w), .int (iZ h), .int (iZ mn), .ref zd, .ref zb, .ref zt, .int (iZ n), .ref zs, .ref zc, .int (iZ fx), .int (iZ fy), .int (iZ fa), .int (iZ fb), .int (iZ fc), .int (iZ qr), .int (iZ fo), .ref zo])), (zd, .inl (cI, 32768, .inl (aI u_33_1.1))), (zb, .inl (cI, 32768, .inl (aI u_33_1.2)))] H := hP
            have hD : va_D A [(hm, .inr (6, [.int (iZ 0), .int (iZ w), .int (iZ h), .int (iZ mn), .ref zd, .ref zb, .ref zt, .int (iZ n), .ref zs, .ref zc, .int (iZ fx), .int (iZ fy), .int (iZ fa), .int (iZ fb), .int (iZ fc), .int (iZ qr), .int (iZ fo), .ref zo])), (zd, .inl (cI, 32768, .inl (aI u_33_1.1))), (zb, .inl (cI, 32768, .inl (aI u_33_1.2)))] := hD
            refine lv_iinc (v := iZ ((0 + 1) + 1)) (lv' := [(2, .int (iZ ((0 + 1) + 1))), (0, .ref hm), (1, .int (iZ aq))]) hx hb d_Mo_turn_36 hl (k := 0) rfl (iZ_add _ _) (by decide) rfl (fun ls hl => ?_)
            refine lv_goto (tgt := 20) hx hb d_Mo_turn_39 (by decide) ?_
            refine lv_iload_n hx hb d_Mo_turn_20 rfl (lv_at hl 0 rfl) ?_
            refine lv_iload_n hx hb d_Mo_turn_21 rfl (lv_at hl 2 rfl) ?_
            refine zi_ge (tgt := 42) hx hb d_Mo_turn_22 (by decide) (by omega) (by omega) (by omega) (by omega) (fun c_22 => ?_) (fun c_22 => ?_)
            · exact W.vret hx hb hr (fun t ht hW => ⟨⟨((0, w, h, u_33_1.1, u_33_1.2)), rfl, Or.inl ⟨by omega, rfl, by rw [show aq.toNat = 2 by omega]; rfl, by rw [show aq.toNat = 2 by omega]; rfl, by rw [show aq.toNat = 2 by omega]; exact q_33_1⟩, by rw [ht]; exact hP, va_K.moved hW.alike hK, hD⟩, hS.F ht⟩) hS.2.2 d_Mo_turn_42
            · refine lv_aload_n hx hb d_Mo_turn_25 rfl (lv_at hl 1 rfl) ?_
              refine va_get (D := (dC, dI)) (ci := 6) (v := .int (iZ 0)) (C := R_Mo) (T := T_Mo) (N := 18) hx hb hts wi_Mo hown hK hP 0 rfl rfl 0 (by decide) (hts _ t_684) (fun _ h9 => h9) rfl d_Mo_turn_26 ?_
              refine zi_if_ne (tgt := 42) hx hb d_Mo_turn_29 (by decide) (by omega) (by omega) (fun c_29 => ?_) (fun c_29 => ?_)
              · exact absurd c_29 (by omega)
              · refine lv_aload_n hx hb d_Mo_turn_32 rfl (lv_at hl 1 rfl) ?_
                refine zc_v (w1 := fun (u_33_2 : (Int → Int32) × (Int → Int32)) => [(hm, .inr (6, [.int (iZ 0), .int (iZ h), .int (iZ w), .int (iZ mn), .ref zd, .ref zb, .ref zt, .int (iZ n), .ref zs, .ref zc, .int (iZ fx), .int (iZ fy), .int (iZ fa), .int (iZ fb), .int (iZ fc), .int (iZ qr), .int (iZ fo), .ref zo])), (zd, .inl (cI, 32768, .inl (aI u_33_2.1))), (zb, .inl (cI, 32768, .inl (aI u_33_2.2)))]) (wr := []) (va_runV (As := []) (rest := []) ⟨hx, hb, hml, hown, hts⟩ (c_Model_turnOnce l dC dI hm zd zb zt zs zc zo 0 w h mn n fx fy fa fb fc qr fo cI u_33_1.1 (trP w (trP h pic)) u_33_1.2 H.size (by first | omega | assumption) (by first | omega | assumption) (by first | omega | assumption) (by first | omega | assumption) (q_33_1) (tr_off (tr_off hO))) (cwV 0 hts (gV t_875 t_877 s_30 t_6 t_878) rfl rfl rfl (by decide +kernel) ⟨Nat.le_of_ble_eq_true rfl, Nat.le_of_ble_eq_true rfl⟩) ⟨zPm_blind, va_recv hK hP (ci := 6) (q0 := 0) rfl rfl, zPm_pre hP hD hK [0, 1, 2] [0] rfl rfl rfl rfl⟩ rfl rfl hl.1 rfl (lv_room (Nat.le_of_ble_eq_true rfl)) d_Mo_turn_33 ⟨Nat.le_of_ble_eq_true rfl, Nat.le_of_ble_eq_true rfl⟩) hP hD hS hA [0, 1, 2] [] rfl rfl rfl (by decide) (fun u_33_2 H locs q_33_2 hP hD hS => ?_)
                have hP : va_P (dC, dI) vwCl [(hm, .inr (6, [.int (iZ 0), .int (iZ h), .int (iZ w), .int (iZ mn), .ref zd, .ref zb, .ref zt, .int (iZ n), .ref zs, .ref zc, .int (iZ fx), .int (iZ fy), .int (iZ fa), .int (iZ fb), .int (iZ fc), .int (iZ qr), .int (iZ fo), .ref zo])), (zd, .inl (cI, 32768, .inl (aI u_33_2.1))), (zb, .inl (cI, 32768, .inl (aI u_33_2.2)))] H := hP
                have hD : va_D A [(hm, .inr (6, [.int (iZ 0), .int (iZ h), .int (iZ w), .int (iZ mn), .ref zd, .ref zb, .ref zt, .int (iZ n), .ref zs, .ref zc, .int (iZ fx), .int (iZ fy), .int (iZ fa), .int (iZ fb), .int (iZ fc), .int (iZ qr), .int (iZ fo), .ref zo])), (zd, .inl (cI, 32768, .inl (aI u_33_2.1))), (zb, .inl (cI, 32768, .inl (aI u_33_2.2)))] := hD
                refine lv_iinc (v := iZ (((0 + 1) + 1) + 1)) (lv' := [(2, .int (iZ (((0 + 1) + 1) + 1))), (0, .ref hm), (1, .int (iZ aq))]) hx hb d_Mo_turn_36 hl (k := 0) rfl (iZ_add _ _) (by decide) rfl (fun ls hl => ?_)
                refine lv_goto (tgt := 20) hx hb d_Mo_turn_39 (by decide) ?_
                refine lv_iload_n hx hb d_Mo_turn_20 rfl (lv_at hl 0 rfl) ?_
                refine lv_iload_n hx hb d_Mo_turn_21 rfl (lv_at hl 2 rfl) ?_
                refine zi_ge (tgt := 42) hx hb d_Mo_turn_22 (by decide) (by omega) (by omega) (by omega) (by omega) (fun c_22 => ?_) (fun c_22 => ?_)
                · exact W.vret hx hb hr (fun t ht hW => ⟨⟨((0, h, w, u_33_2.1, u_33_2.2)), rfl, Or.inl ⟨by omega, rfl, by rw [show aq.toNat = 3 by omega]; rfl, by rw [show aq.toNat = 3 by omega]; rfl, by rw [show aq.toNat = 3 by omega]; exact q_33_2⟩, by rw [ht]; exact hP, va_K.moved hW.alike hK, hD⟩, hS.F ht⟩) hS.2.2 d_Mo_turn_42
                · exact absurd c_22 (by omega)
  · have c_7 := of_decide_eq_true c_7
    refine lv_iconst (v := iZ (1)) hx hb d_Mo_turn_10 rfl ?_
    refine lv_goto (tgt := 15) hx hb d_Mo_turn_11 (by decide) ?_
    refine va_put (D := (dC, dI)) (ci := 6) (v := .int (iZ 1)) (ty := .int) (C := R_Mo) (T := T_Mo) (N := 18) hx hb hts wi_Mo ty_Mo ty_Mo_ok nd_Mo hown hK hP hD hS 0 rfl rfl 0 (by decide) (hts _ t_684) (fun _ h9 => h9) rfl (by decide +kernel) rfl rfl (Nat.le_of_ble_eq_true rfl) d_Mo_turn_15 (fun H locs hP hD hS => ?_)
    have hP : va_P (dC, dI) vwCl [(hm, .inr (6, [.int (iZ 1), .int (iZ w), .int (iZ h), .int (iZ mn), .ref zd, .ref zb, .ref zt, .int (iZ n), .ref zs, .ref zc, .int (iZ fx), .int (iZ fy), .int (iZ fa), .int (iZ fb), .int (iZ fc), .int (iZ qr), .int (iZ fo), .ref zo])), (zd, .inl (cI, 32768, .inl (aI Dk))), (zb, .inl (cI, 32768, .inl (aI Bf)))] H := hP
    have hD : va_D A [(hm, .inr (6, [.int (iZ 1), .int (iZ w), .int (iZ h), .int (iZ mn), .ref zd, .ref zb, .ref zt, .int (iZ n), .ref zs, .ref zc, .int (iZ fx), .int (iZ fy), .int (iZ fa), .int (iZ fb), .int (iZ fc), .int (iZ qr), .int (iZ fo), .ref zo])), (zd, .inl (cI, 32768, .inl (aI Dk))), (zb, .inl (cI, 32768, .inl (aI Bf)))] := hD
    refine lv_iconst (v := iZ (0)) hx hb d_Mo_turn_18 rfl ?_
    refine lv_istore_n (lv' := [(2, .int (iZ 0)), (0, .ref hm), (1, .int (iZ aq))]) hx hb d_Mo_turn_19 rfl hl (by decide) rfl (fun ls hl => ?_)
    refine lv_iload_n hx hb d_Mo_turn_20 rfl (lv_at hl 0 rfl) ?_
    refine lv_iload_n hx hb d_Mo_turn_21 rfl (lv_at hl 2 rfl) ?_
    refine zi_ge (tgt := 42) hx hb d_Mo_turn_22 (by decide) (by omega) (by omega) (by omega) (by omega) (fun c_22 => ?_) (fun c_22 => ?_)
    · exact W.vret hx hb hr (fun t ht hW => ⟨⟨((1, w, h, Dk, Bf)), rfl, Or.inr ⟨by omega, rfl, rfl, rfl, rfl⟩, by rw [ht]; exact hP, va_K.moved hW.alike hK, hD⟩, hS.F ht⟩) hS.2.2 d_Mo_turn_42
    · refine lv_aload_n hx hb d_Mo_turn_25 rfl (lv_at hl 1 rfl) ?_
      refine va_get (D := (dC, dI)) (ci := 6) (v := .int (iZ 1)) (C := R_Mo) (T := T_Mo) (N := 18) hx hb hts wi_Mo hown hK hP 0 rfl rfl 0 (by decide) (hts _ t_684) (fun _ h9 => h9) rfl d_Mo_turn_26 ?_
      refine zi_if_ne (tgt := 42) hx hb d_Mo_turn_29 (by decide) (by omega) (by omega) (fun c_29 => ?_) (fun c_29 => ?_)
      · exact W.vret hx hb hr (fun t ht hW => ⟨⟨((1, w, h, Dk, Bf)), rfl, Or.inr ⟨by omega, rfl, rfl, rfl, rfl⟩, by rw [ht]; exact hP, va_K.moved hW.alike hK, hD⟩, hS.F ht⟩) hS.2.2 d_Mo_turn_42
      · exact absurd c_29 (by omega)
theorem d_Mo_told_0 : decode c_yMo_told 0 = .ok (.aload_n 0, 1) := by decide +kernel
theorem d_Mo_told_1 : decode c_yMo_told 1 = .ok (.iload_n 1, 1) := by decide +kernel
theorem d_Mo_told_2 : decode c_yMo_told 2 = .ok (.iconst 0, 1) := by decide +kernel
theorem d_Mo_told_3 : decode c_yMo_told 3 = .ok (.bipush 6, 2) := by decide +kernel
theorem d_Mo_told_5 : decode c_yMo_told 5 = .ok (.invokestatic 121, 3) := by decide +kernel
theorem d_Mo_told_8 : decode c_yMo_told 8 = .ok (.ifCond .eq 7, 3) := by decide +kernel
theorem d_Mo_told_11 : decode c_yMo_told 11 = .ok (.iconst 1, 1) := by decide +kernel
theorem d_Mo_told_12 : decode c_yMo_told 12 = .ok (.goto 4, 3) := by decide +kernel
theorem d_Mo_told_15 : decode c_yMo_told 15 = .ok (.iconst 0, 1) := by decide +kernel
theorem d_Mo_told_16 : decode c_yMo_told 16 = .ok (.putfield 37, 3) := by decide +kernel
theorem d_Mo_told_19 : decode c_yMo_told 19 = .ok (.aload_n 0, 1) := by decide +kernel
theorem d_Mo_told_20 : decode c_yMo_told 20 = .ok (.getfield 37, 3) := by decide +kernel
theorem d_Mo_told_23 : decode c_yMo_told 23 = .ok (.ifCond .gt 8, 3) := by decide +kernel
theorem d_Mo_told_26 : decode c_yMo_told 26 = .ok (.iload_n 1, 1) := by decide +kernel
theorem d_Mo_told_27 : decode c_yMo_told 27 = .ok (.iconst 2, 1) := by decide +kernel
theorem d_Mo_told_28 : decode c_yMo_told 28 = .ok (.if_icmp .ge 30, 3) := by decide +kernel
theorem d_Mo_told_31 : decode c_yMo_told 31 = .ok (.aload_n 0, 1) := by decide +kernel
theorem d_Mo_told_32 : decode c_yMo_told 32 = .ok (.getfield 37, 3) := by decide +kernel
theorem d_Mo_told_35 : decode c_yMo_told 35 = .ok (.ifCond .le 7, 3) := by decide +kernel
theorem d_Mo_told_38 : decode c_yMo_told 38 = .ok (.iconst 0, 1) := by decide +kernel
theorem d_Mo_told_39 : decode c_yMo_told 39 = .ok (.goto 18, 3) := by decide +kernel
theorem d_Mo_told_42 : decode c_yMo_told 42 = .ok (.iload_n 1, 1) := by decide +kernel
theorem d_Mo_told_43 : decode c_yMo_told 43 = .ok (.ifCond .ne 10, 3) := by decide +kernel
theorem d_Mo_told_46 : decode c_yMo_told 46 = .ok (.aload_n 0, 1) := by decide +kernel
theorem d_Mo_told_47 : decode c_yMo_told 47 = .ok (.getfield 7, 3) := by decide +kernel
theorem d_Mo_told_50 : decode c_yMo_told 50 = .ok (.goto 7, 3) := by decide +kernel
theorem d_Mo_told_53 : decode c_yMo_told 53 = .ok (.aload_n 0, 1) := by decide +kernel
theorem d_Mo_told_54 : decode c_yMo_told 54 = .ok (.getfield 13, 3) := by decide +kernel
theorem d_Mo_told_57 : decode c_yMo_told 57 = .ok (.ireturn, 1) := by decide +kernel
theorem d_Mo_told_58 : decode c_yMo_told 58 = .ok (.iconst 0, 1) := by decide +kernel
theorem d_Mo_told_59 : decode c_yMo_told 59 = .ok (.istore_n 2, 1) := by decide +kernel
theorem d_Mo_told_60 : decode c_yMo_told 60 = .ok (.iconst (-1), 1) := by decide +kernel
theorem d_Mo_told_61 : decode c_yMo_told 61 = .ok (.istore_n 3, 1) := by decide +kernel
theorem d_Mo_told_62 : decode c_yMo_told 62 = .ok (.iconst 0, 1) := by decide +kernel
theorem d_Mo_told_63 : decode c_yMo_told 63 = .ok (.istore 4, 2) := by decide +kernel
theorem d_Mo_told_65 : decode c_yMo_told 65 = .ok (.iload 4, 2) := by decide +kernel
theorem d_Mo_told_67 : decode c_yMo_told 67 = .ok (.aload_n 0, 1) := by decide +kernel
theorem d_Mo_told_68 : decode c_yMo_told 68 = .ok (.getfield 13, 3) := by decide +kernel
theorem d_Mo_told_71 : decode c_yMo_told 71 = .ok (.if_icmp .ge 87, 3) := by decide +kernel
theorem d_Mo_told_74 : decode c_yMo_told 74 = .ok (.iconst 0, 1) := by decide +kernel
theorem d_Mo_told_75 : decode c_yMo_told 75 = .ok (.istore 5, 2) := by decide +kernel
theorem d_Mo_told_77 : decode c_yMo_told 77 = .ok (.iload 5, 2) := by decide +kernel
theorem d_Mo_told_79 : decode c_yMo_told 79 = .ok (.aload_n 0, 1) := by decide +kernel
theorem d_Mo_told_80 : decode c_yMo_told 80 = .ok (.getfield 7, 3) := by decide +kernel
theorem d_Mo_told_83 : decode c_yMo_told 83 = .ok (.if_icmp .ge 69, 3) := by decide +kernel
theorem d_Mo_told_86 : decode c_yMo_told 86 = .ok (.aload_n 0, 1) := by decide +kernel
theorem d_Mo_told_87 : decode c_yMo_told 87 = .ok (.iload 5, 2) := by decide +kernel
theorem d_Mo_told_89 : decode c_yMo_told 89 = .ok (.iload 4, 2) := by decide +kernel
theorem d_Mo_told_91 : decode c_yMo_told 91 = .ok (.invokevirtual 114, 3) := by decide +kernel
theorem d_Mo_told_94 : decode c_yMo_told 94 = .ok (.ifCond .eq 52, 3) := by decide +kernel
theorem d_Mo_told_97 : decode c_yMo_told 97 = .ok (.iinc 2 1, 3) := by decide +kernel
theorem d_Mo_told_100 : decode c_yMo_told 100 = .ok (.iload_n 1, 1) := by decide +kernel
theorem d_Mo_told_101 : decode c_yMo_told 101 = .ok (.iconst 2, 1) := by decide +kernel
theorem d_Mo_told_102 : decode c_yMo_told 102 = .ok (.irem, 1) := by decide +kernel
theorem d_Mo_told_103 : decode c_yMo_told 103 = .ok (.ifCond .ne 8, 3) := by decide +kernel
theorem d_Mo_told_106 : decode c_yMo_told 106 = .ok (.iload 5, 2) := by decide +kernel
theorem d_Mo_told_108 : decode c_yMo_told 108 = .ok (.goto 5, 3) := by decide +kernel
theorem d_Mo_told_111 : decode c_yMo_told 111 = .ok (.iload 4, 2) := by decide +kernel
theorem d_Mo_told_113 : decode c_yMo_told 113 = .ok (.istore 6, 2) := by decide +kernel
theorem d_Mo_told_115 : decode c_yMo_told 115 = .ok (.iload_n 3, 1) := by decide +kernel
theorem d_Mo_told_116 : decode c_yMo_told 116 = .ok (.ifCond .lt 23, 3) := by decide +kernel
theorem d_Mo_told_119 : decode c_yMo_told 119 = .ok (.iload_n 1, 1) := by decide +kernel
theorem d_Mo_told_120 : decode c_yMo_told 120 = .ok (.iconst 4, 1) := by decide +kernel
theorem d_Mo_told_121 : decode c_yMo_told 121 = .ok (.if_icmp .ge 12, 3) := by decide +kernel
theorem d_Mo_told_124 : decode c_yMo_told 124 = .ok (.iload 6, 2) := by decide +kernel
theorem d_Mo_told_126 : decode c_yMo_told 126 = .ok (.iload_n 3, 1) := by decide +kernel
theorem d_Mo_told_127 : decode c_yMo_told 127 = .ok (.if_icmp .ge 17, 3) := by decide +kernel
theorem d_Mo_told_130 : decode c_yMo_told 130 = .ok (.goto 9, 3) := by decide +kernel
theorem d_Mo_told_133 : decode c_yMo_told 133 = .ok (.iload 6, 2) := by decide +kernel
theorem d_Mo_told_135 : decode c_yMo_told 135 = .ok (.iload_n 3, 1) := by decide +kernel
theorem d_Mo_told_136 : decode c_yMo_told 136 = .ok (.if_icmp .le 8, 3) := by decide +kernel
theorem d_Mo_told_139 : decode c_yMo_told 139 = .ok (.iload 6, 2) := by decide +kernel
theorem d_Mo_told_141 : decode c_yMo_told 141 = .ok (.goto 4, 3) := by decide +kernel
theorem d_Mo_told_144 : decode c_yMo_told 144 = .ok (.iload_n 3, 1) := by decide +kernel
theorem d_Mo_told_145 : decode c_yMo_told 145 = .ok (.istore_n 3, 1) := by decide +kernel
theorem d_Mo_told_146 : decode c_yMo_told 146 = .ok (.iinc 5 1, 3) := by decide +kernel
theorem d_Mo_told_149 : decode c_yMo_told 149 = .ok (.goto (-72), 3) := by decide +kernel
theorem d_Mo_told_152 : decode c_yMo_told 152 = .ok (.iinc 4 1, 3) := by decide +kernel
theorem d_Mo_told_155 : decode c_yMo_told 155 = .ok (.goto (-90), 3) := by decide +kernel
theorem d_Mo_told_158 : decode c_yMo_told 158 = .ok (.iload_n 1, 1) := by decide +kernel
theorem d_Mo_told_159 : decode c_yMo_told 159 = .ok (.bipush 6, 2) := by decide +kernel
theorem d_Mo_told_161 : decode c_yMo_told 161 = .ok (.if_icmp .ne 7, 3) := by decide +kernel
theorem d_Mo_told_164 : decode c_yMo_told 164 = .ok (.iload_n 2, 1) := by decide +kernel
theorem d_Mo_told_165 : decode c_yMo_told 165 = .ok (.goto 4, 3) := by decide +kernel
theorem d_Mo_told_168 : decode c_yMo_told 168 = .ok (.iload_n 3, 1) := by decide +kernel
theorem d_Mo_told_169 : decode c_yMo_told 169 = .ok (.ireturn, 1) := by decide +kernel
set_option maxHeartbeats 4000000 in
set_option maxRecDepth 100000 in
theorem c_Model_told (l : Launch) (dC : Nat → ClassId) (dI : Nat → Nat → Nat) (hm zd zb zt zs zc zo : Nat) (tw w h mn n fx fy fa fb fc qr fo : Int) (cI : ClassId) (Dk : Int → Int32) (pic : Int → Int → Bool) (wh : Int) (sz : Nat) (w1 : 1 ≤ w) (w2 : w ≤ 1024) (h1 : 1 ≤ h) (h2 : h ≤ 1024) (hM : RepM Dk pic) (hO : Off w h pic) (wh1 : -2147483648 ≤ wh) (wh2 : wh ≤ 2147483647) : Met l y_Mo_told w_Mo_told ({ frames := 2, cells := 0, slots := 0, locals := 44 }) (va_Pc [.ref hm, .int (iZ wh)] (zPm (dC, dI) vwCl [(hm, .inr (6, [.int (iZ tw), .int (iZ w), .int (iZ h), .int (iZ mn), .ref zd, .ref zb, .ref zt, .int (iZ n), .ref zs, .ref zc, .int (iZ fx), .int (iZ fy), .int (iZ fa), .int (iZ fb), .int (iZ fc), .int (iZ qr), .int (iZ fo), .ref zo])), (zd, .inl (cI, 32768, .inl (aI Dk)))] [(cI, .int)] sz)) (va_Qi (fun (r : Int32) (u : Int) => ∃ z : Int, r = iZ z ∧ (((0 ≤ wh ∧ wh ≤ 6) ∧ u = 0 ∧ tolS w h pic wh z) ∨ (¬ (0 ≤ wh ∧ wh ≤ 6) ∧ u = 1))) (fun u => zB (dC, dI) vwCl [(cI, .int)] (va_A [(hm, .inr (6, [.int (iZ tw), .int (iZ w), .int (iZ h), .int (iZ mn), .ref zd, .ref zb, .ref zt, .int (iZ n), .ref zs, .ref zc, .int (iZ fx), .int (iZ fy), .int (iZ fa), .int (iZ fb), .int (iZ fc), .int (iZ qr), .int (iZ fo), .ref zo])), (zd, .inl (cI, 32768, .inl (aI Dk)))] sz) [(hm, .inr (6, [.int (iZ u), .int (iZ w), .int (iZ h), .int (iZ mn), .ref zd, .ref zb, .ref zt, .int (iZ n), .ref zs, .ref zc, .int (iZ fx), .int (iZ fy), .int (iZ fa), .int (iZ fb), .int (iZ fc), .int (iZ qr), .int (iZ fo), .ref zo])), (zd, .inl (cI, 32768, .inl (aI Dk)))]) (va_A [(hm, .inr (6, [.int (iZ tw), .int (iZ w), .int (iZ h), .int (iZ mn), .ref zd, .ref zb, .ref zt, .int (iZ n), .ref zs, .ref zc, .int (iZ fx), .int (iZ fy), .int (iZ fa), .int (iZ fb), .int (iZ fc), .int (iZ qr), .int (iZ fo), .ref zo])), (zd, .inl (cI, 32768, .inl (aI Dk)))] sz)) 0 0 (va_A [(hm, .inr (6, [.int (iZ tw), .int (iZ w), .int (iZ h), .int (iZ mn), .ref zd, .ref zb, .ref zt, .int (iZ n), .ref zs, .ref zc, .int (iZ fx), .int (iZ fy), .int (iZ fa), .int (iZ fb), .int (iZ fc), .int (iZ qr), .int (iZ fo), .ref zo])), (zd, .inl (cI, 32768, .inl (aI Dk)))] sz) := by
  refine Met.ofW (cc := c_yMo_told) (maxL := 7) (ret := (some .int)) (by decide) rfl ?_
  intro p e s m args below meth c s₁ B hml hv
  obtain ⟨rfl, hsz, hP, hK, hD0⟩ := hv
  have hx := B.exec
  have hb := B.bytes
  have hr := B.returns
  have hts0 := atoms_spec (ws := w_Mo_told) B.pre
  have hts : ∀ w ∈ gT, w.before _ s = true := fun w h => hts0 w (List.mem_cons_of_mem _ h)
  have hown : s.vm.findClass R_Mo = some m.cls := findClass_of_methodNamed B.named
  have hlocks := B.notSynchronized
  subst hsz
  have hD := hD0.self (sz := s.heap.size)
  generalize hAe : va_A [(hm, .inr (6, [.int (iZ tw), .int (iZ w), .int (iZ h), .int (iZ mn), .ref zd, .ref zb, .ref zt, .int (iZ n), .ref zs, .ref zc, .int (iZ fx), .int (iZ fy), .int (iZ fa), .int (iZ fb), .int (iZ fc), .int (iZ qr), .int (iZ fo), .ref zo])), (zd, .inl (cI, 32768, .inl (aI Dk)))] s.heap.size = A at hD ⊢
  have hA : ∀ q : Nat, s.heap.size ≤ q → A q := fun q h => by rw [← hAe]; exact Or.inr h
  obtain ⟨H, hH⟩ : ∃ H, s.heap = H := ⟨_, rfl⟩
  have hS : va_S A s.heap H [] := by rw [← hH]; exact va_S.rf
  rw [hH] at hP
  rw [hH]
  have hl := lv_entry ([.ref hm, .int (iZ wh)]) (n := 7) (Nat.le_of_ble_eq_true rfl)
  rw [lg_entry_eq]
  generalize (lg_sl ([.ref hm, .int (iZ wh)]) ++ List.replicate (7 - (lg_sl ([.ref hm, .int (iZ wh)])).length) Slot.unset).toArray = ls at hl ⊢
  have hl : lv_has ls 7 [(0, .ref hm), (1, .int (iZ wh))] := hl
  refine lv_aload_n hx hb d_Mo_told_0 rfl (lv_at hl 0 rfl) ?_
  refine lv_iload_n hx hb d_Mo_told_1 rfl (lv_at hl 1 rfl) ?_
  refine lv_iconst (v := iZ (0)) hx hb d_Mo_told_2 rfl ?_
  refine lv_bipush (v := iZ (6)) hx hb d_Mo_told_3 (by decide) ?_
  refine vp_callSi (va_runS (As := [.int (iZ wh), .int (iZ 0), .int (iZ 6)]) (rest := [.ref hm]) ⟨hx, hb, hml, hown, hts⟩ (c_Model_isNot l dC dI wh 0 6 (by first | omega | assumption) (by first | omega | assumption) (by first | omega | assumption) (by first | omega | assumption) (by first | omega | assumption) (by first | omega | assumption)) (va_cwS 3 hts (gS t_771 t_772 t_6 t_773) rfl rfl rfl (by decide +kernel) ⟨Nat.le_of_ble_eq_true rfl, Nat.le_of_ble_eq_true rfl⟩) ⟨zPr_blind, zPr_pre hP hK [] [] rfl rfl⟩ rfl rfl hl.1 rfl (lv_room (Nat.le_of_ble_eq_true rfl)) d_Mo_told_5 ⟨Nat.le_of_ble_eq_true rfl, Nat.le_of_ble_eq_true rfl⟩).run (fun r_5 q_5 => ?_)
  obtain rfl := q_5
  refine zb_if_eq (tgt := 15) hx hb d_Mo_told_8 (by decide) (fun c_8 => ?_) (fun c_8 => ?_)
  · have c_8 := of_decide_eq_false c_8
    refine lv_iconst (v := iZ (0)) hx hb d_Mo_told_15 rfl ?_
    refine va_put (D := (dC, dI)) (ci := 6) (v := .int (iZ 0)) (ty := .int) (C := R_Mo) (T := T_Mo) (N := 18) hx hb hts wi_Mo ty_Mo ty_Mo_ok nd_Mo hown hK hP hD hS 0 rfl rfl 0 (by decide) (hts _ t_684) (fun _ h9 => h9) rfl (by decide +kernel) rfl rfl (Nat.le_of_ble_eq_true rfl) d_Mo_told_16 (fun H locs hP hD hS => ?_)
    have hP : va_P (dC, dI) vwCl [(hm, .inr (6, [.int (iZ 0), .int (iZ w), .int (iZ h), .int (iZ mn), .ref zd, .ref zb, .ref zt, .int (iZ n), .ref zs, .ref zc, .int (iZ fx), .int (iZ fy), .int (iZ fa), .int (iZ fb), .int (iZ fc), .int (iZ qr), .int (iZ fo), .ref zo])), (zd, .inl (cI, 32768, .inl (aI Dk)))] H := hP
    have hD : va_D A [(hm, .inr (6, [.int (iZ 0), .int (iZ w), .int (iZ h), .int (iZ mn), .ref zd, .ref zb, .ref zt, .int (iZ n), .ref zs, .ref zc, .int (iZ fx), .int (iZ fy), .int (iZ fa), .int (iZ fb), .int (iZ fc), .int (iZ qr), .int (iZ fo), .ref zo])), (zd, .inl (cI, 32768, .inl (aI Dk)))] := hD
    refine lv_aload_n hx hb d_Mo_told_19 rfl (lv_at hl 0 rfl) ?_
    refine va_get (D := (dC, dI)) (ci := 6) (v := .int (iZ 0)) (C := R_Mo) (T := T_Mo) (N := 18) hx hb hts wi_Mo hown hK hP 0 rfl rfl 0 (by decide) (hts _ t_684) (fun _ h9 => h9) rfl d_Mo_told_20 ?_
    refine zi_if_gt (tgt := 31) hx hb d_Mo_told_23 (by decide) (by omega) (by omega) (fun c_23 => ?_) (fun c_23 => ?_)
    · exact absurd c_23 (by omega)
    · refine lv_iload_n hx hb d_Mo_told_26 rfl (lv_at hl 1 rfl) ?_
      refine lv_iconst (v := iZ (2)) hx hb d_Mo_told_27 rfl ?_
      refine zi_ge (tgt := 58) hx hb d_Mo_told_28 (by decide) (by omega) (by omega) (by omega) (by omega) (fun c_28 => ?_) (fun c_28 => ?_)
      · refine lv_iconst (v := iZ (0)) hx hb d_Mo_told_58 rfl ?_
        refine lv_istore_n (lv' := [(2, .int (iZ 0)), (0, .ref hm), (1, .int (iZ wh))]) hx hb d_Mo_told_59 rfl hl (by decide) rfl (fun ls hl => ?_)
        refine lv_iconst (v := iZ (-1)) hx hb d_Mo_told_60 rfl ?_
        refine zn_z (fun v3_61 e_v3_61 => ?_)
        refine lv_istore_n (lv' := [(3, .int (iZ v3_61)), (2, .int (iZ 0)), (0, .ref hm), (1, .int (iZ wh))]) hx hb d_Mo_told_61 rfl hl (by decide) rfl (fun ls hl => ?_)
        refine lv_iconst (v := iZ (0)) hx hb d_Mo_told_62 rfl ?_
        refine lv_istore (lv' := [(4, .int (iZ 0)), (3, .int (iZ v3_61)), (2, .int (iZ 0)), (0, .ref hm), (1, .int (iZ wh))]) hx hb d_Mo_told_63 hl (by decide) rfl (fun ls hl => ?_)
        have LP_65 : ∀ (n_65 : Nat) (yy : Int) (nn : Int) (ed : Int), (0 ≤ yy) → (yy ≤ h) → (nn = cnt w h (tdP pic 0 yy)) → (egI pic wh 0 yy ed) → (-1 ≤ ed ∧ ed ≤ 1023) → (h - yy).toNat < n_65 → ∀ (H : Heap) (locs : List Loc), va_P (dC, dI) vwCl [(hm, .inr (6, [.int (iZ 0), .int (iZ w), .int (iZ h), .int (iZ mn), .ref zd, .ref zb, .ref zt, .int (iZ n), .ref zs, .ref zc, .int (iZ fx), .int (iZ fy), .int (iZ fa), .int (iZ fb), .int (iZ fc), .int (iZ qr), .int (iZ fo), .ref zo])), (zd, .inl (cI, 32768, .inl (aI Dk)))] H → va_D A [(hm, .inr (6, [.int (iZ 0), .int (iZ w), .int (iZ h), .int (iZ mn), .ref zd, .ref zb, .ref zt, .int (iZ n), .ref zs, .ref zc, .int (iZ fx), .int (iZ fy), .int (iZ fa), .int (iZ fb), .int (iZ fc), .int (iZ qr), .int (iZ fo), .ref zo])), (zd, .inl (cI, 32768, .inl (aI Dk)))] → va_S A s.heap H locs → ∀ (ls : Array Slot), lv_has ls 7 [(0, .ref hm), (1, .int (iZ wh)), (2, .int (iZ nn)), (3, .int (iZ ed)), (4, .int (iZ yy))] → W p l e ({ frames := 2, cells := 0, slots := 0, locals := 44 } : Room) s m ([.ref hm, .int (iZ wh)] : List Value).toArray below meth c H locs 0 0 (MQ below (va_Qi (fun (r : Int32) (u : Int) => ∃ z : Int, r = iZ z ∧ (((0 ≤ wh ∧ wh ≤ 6) ∧ u = 0 ∧ tolS w h pic wh z) ∨ (¬ (0 ≤ wh ∧ wh ≤ 6) ∧ u = 1))) (fun u => zB (dC, dI) vwCl [(cI, .int)] A [(hm, .inr (6, [.int (iZ u), .int (iZ w), .int (iZ h), .int (iZ mn), .ref zd, .ref zb, .ref zt, .int (iZ n), .ref zs, .ref zc, .int (iZ fx), .int (iZ fy), .int (iZ fa), .int (iZ fb), .int (iZ fc), .int (iZ qr), .int (iZ fo), .ref zo])), (zd, .inl (cI, 32768, .inl (aI Dk)))]) A) ([.ref hm, .int (iZ wh)] : List Value).toArray s 0 0 A) (F0 m 65 ls []) := by
          intro n_65
          induction n_65 with
          | zero => intro yy nn ed i1 i2 i3 i4 i5 hm; exact absurd hm (by omega)
          | succ n_65 ih_65 =>
            intro yy nn ed i1 i2 i3 i4 i5 hm_65 H locs hP hD hS ls hl
            refine lv_iload hx hb d_Mo_told_65 (lv_at hl 4 rfl) ?_
            refine lv_aload_n hx hb d_Mo_told_67 rfl (lv_at hl 0 rfl) ?_
            refine va_get (D := (dC, dI)) (ci := 6) (v := .int (iZ h)) (C := R_Mo) (T := T_Mo) (N := 18) hx hb hts wi_Mo hown hK hP 0 rfl rfl 2 (by decide) (hts _ t_686) (fun _ h9 => h9) rfl d_Mo_told_68 ?_
            refine zi_ge (tgt := 158) hx hb d_Mo_told_71 (by decide) (by omega) (by omega) (by omega) (by omega) (fun c_71 => ?_) (fun c_71 => ?_)
            · refine lv_iload_n hx hb d_Mo_told_158 rfl (lv_at hl 1 rfl) ?_
              refine lv_bipush (v := iZ (6)) hx hb d_Mo_told_159 (by decide) ?_
              refine zi_ne (tgt := 168) hx hb d_Mo_told_161 (by decide) (by omega) (by omega) (by omega) (by omega) (fun c_161 => ?_) (fun c_161 => ?_)
              · refine lv_iload_n hx hb d_Mo_told_168 rfl (lv_at hl 3 rfl) ?_
                exact W.iret hx hb hr (fun t ht hW => ⟨⟨_, 0, rfl, ⟨_, rfl, Or.inl ⟨by omega, rfl, (tol_of hO (by omega) (by omega) i3 i4).2 c_161⟩⟩, by rw [ht]; exact hP, va_K.moved hW.alike hK, hD⟩, hS.F ht⟩) hS.2.2 d_Mo_told_169
              · refine lv_iload_n hx hb d_Mo_told_164 rfl (lv_at hl 2 rfl) ?_
                refine lv_goto (tgt := 169) hx hb d_Mo_told_165 (by decide) ?_
                exact W.iret hx hb hr (fun t ht hW => ⟨⟨_, 0, rfl, ⟨_, rfl, Or.inl ⟨by omega, rfl, (tol_of hO (by omega) (by omega) i3 i4).1 c_161⟩⟩, by rw [ht]; exact hP, va_K.moved hW.alike hK, hD⟩, hS.F ht⟩) hS.2.2 d_Mo_told_169
            · refine lv_iconst (v := iZ (0)) hx hb d_Mo_told_74 rfl ?_
              refine lv_istore (lv' := [(5, .int (iZ 0)), (0, .ref hm), (1, .int (iZ wh)), (2, .int (iZ nn)), (3, .int (iZ ed)), (4, .int (iZ yy))]) hx hb d_Mo_told_75 hl (by decide) rfl (fun ls hl => ?_)
              have LP_77 : ∀ (n_77 : Nat) (xx : Int) (n2_ : Int) (ed2 : Int), (0 ≤ xx) → (xx ≤ w) → (n2_ = cnt w h (tdP pic xx yy)) → (egI pic wh xx yy ed2) → (-1 ≤ ed2 ∧ ed2 ≤ 1023) → (w - xx).toNat < n_77 → ∀ (H : Heap) (locs : List Loc), va_P (dC, dI) vwCl [(hm, .inr (6, [.int (iZ 0), .int (iZ w), .int (iZ h), .int (iZ mn), .ref zd, .ref zb, .ref zt, .int (iZ n), .ref zs, .ref zc, .int (iZ fx), .int (iZ fy), .int (iZ fa), .int (iZ fb), .int (iZ fc), .int (iZ qr), .int (iZ fo), .ref zo])), (zd, .inl (cI, 32768, .inl (aI Dk)))] H → va_D A [(hm, .inr (6, [.int (iZ 0), .int (iZ w), .int (iZ h), .int (iZ mn), .ref zd, .ref zb, .ref zt, .int (iZ n), .ref zs, .ref zc, .int (iZ fx), .int (iZ fy), .int (iZ fa), .int (iZ fb), .int (iZ fc), .int (iZ qr), .int (iZ fo), .ref zo])), (zd, .inl (cI, 32768, .inl (aI Dk)))] → va_S A s.heap H locs → ∀ (ls : Array Slot), lv_has ls 7 [(0, .ref hm), (1, .int (iZ wh)), (2, .int (iZ n2_)), (3, .int (iZ ed2)), (4, .int (iZ yy)), (5, .int (iZ xx))] → W p l e ({ frames := 2, cells := 0, slots := 0, locals := 44 } : Room) s m ([.ref hm, .int (iZ wh)] : List Value).toArray below meth c H locs 0 0 (MQ below (va_Qi (fun (r : Int32) (u : Int) => ∃ z : Int, r = iZ z ∧ (((0 ≤ wh ∧ wh ≤ 6) ∧ u = 0 ∧ tolS w h pic wh z) ∨ (¬ (0 ≤ wh ∧ wh ≤ 6) ∧ u = 1))) (fun u => zB (dC, dI) vwCl [(cI, .int)] A [(hm, .inr (6, [.int (iZ u), .int (iZ w), .int (iZ h), .int (iZ mn), .ref zd, .ref zb, .ref zt, .int (iZ n), .ref zs, .ref zc, .int (iZ fx), .int (iZ fy), .int (iZ fa), .int (iZ fb), .int (iZ fc), .int (iZ qr), .int (iZ fo), .ref zo])), (zd, .inl (cI, 32768, .inl (aI Dk)))]) A) ([.ref hm, .int (iZ wh)] : List Value).toArray s 0 0 A) (F0 m 77 ls []) := by
                intro n_77
                induction n_77 with
                | zero => intro xx n2_ ed2 j1 j2 j3 j4 j5 hm; exact absurd hm (by omega)
                | succ n_77 ih_77 =>
                  intro xx n2_ ed2 j1 j2 j3 j4 j5 hm_77 H locs hP hD hS ls hl
                  refine lv_iload hx hb d_Mo_told_77 (lv_at hl 5 rfl) ?_
                  refine lv_aload_n hx hb d_Mo_told_79 rfl (lv_at hl 0 rfl) ?_
                  refine va_get (D := (dC, dI)) (ci := 6) (v := .int (iZ w)) (C := R_Mo) (T := T_Mo) (N := 18) hx hb hts wi_Mo hown hK hP 0 rfl rfl 1 (by decide) (hts _ t_685) (fun _ h9 => h9) rfl d_Mo_told_80 ?_
                  refine zi_ge (tgt := 152) hx hb d_Mo_told_83 (by decide) (by omega) (by omega) (by omega) (by omega) (fun c_83 => ?_) (fun c_83 => ?_)
                  · refine lv_iinc (v := iZ (yy + 1)) (lv' := [(4, .int (iZ (yy + 1))), (0, .ref hm), (1, .int (iZ wh)), (2, .int (iZ n2_)), (3, .int (iZ ed2)), (5, .int (iZ xx))]) hx hb d_Mo_told_152 hl (k := 4) rfl (iZ_add _ _) (by decide) rfl (fun ls hl => ?_)
                    refine lv_goto (tgt := 65) hx hb d_Mo_told_155 (by decide) ?_
                    exact ih_65 (yy + 1) n2_ ed2 (by omega) (by omega) (ck_row (P := pic) (by omega) j3) (eg_ext j4 (fun px py => td_row hO (by omega) px py)) (by omega) (by omega) _ _ hP hD hS ls (lv_sub hl [1, 2, 3, 4, 0] rfl)
                  · refine lv_aload_n hx hb d_Mo_told_86 rfl (lv_at hl 0 rfl) ?_
                    refine lv_iload hx hb d_Mo_told_87 (lv_at hl 5 rfl) ?_
                    refine lv_iload hx hb d_Mo_told_89 (lv_at hl 4 rfl) ?_
                    refine vp_callSi (va_runV (As := [.int (iZ xx), .int (iZ yy)]) (rest := []) ⟨hx, hb, hml, hown, hts⟩ (c_Model_isDark l dC dI hm zd zb zt zs zc zo 0 w h mn n fx fy fa fb fc qr fo cI Dk pic xx yy (by first | omega | assumption) (by first | omega | assumption) (by first | omega | assumption) (by first | omega | assumption) (by first | omega | assumption) (by first | omega | assumption) (by first | omega | assumption) (by first | omega | assumption) (by first | omega | assumption) (by first | omega | assumption)) (cwV 2 hts (gV t_827 t_829 s_27 t_6 t_830) rfl rfl rfl (by decide +kernel) ⟨Nat.le_of_ble_eq_true rfl, Nat.le_of_ble_eq_true rfl⟩) ⟨zPr_blind, va_recv hK hP (ci := 6) (q0 := 0) rfl rfl, zPr_pre hP hK [0, 1] [0] rfl rfl⟩ rfl rfl hl.1 rfl (lv_room (Nat.le_of_ble_eq_true rfl)) d_Mo_told_91 ⟨Nat.le_of_ble_eq_true rfl, Nat.le_of_ble_eq_true rfl⟩).run (fun r_91 q_91 => ?_)
                    obtain rfl := q_91
                    refine zb_if_eq (tgt := 146) hx hb d_Mo_told_94 (by decide) (fun c_94 => ?_) (fun c_94 => ?_)
                    · refine lv_iinc (v := iZ (xx + 1)) (lv' := [(5, .int (iZ (xx + 1))), (0, .ref hm), (1, .int (iZ wh)), (2, .int (iZ n2_)), (3, .int (iZ ed2)), (4, .int (iZ yy))]) hx hb d_Mo_told_146 hl (k := 5) rfl (iZ_add _ _) (by decide) rfl (fun ls hl => ?_)
                      refine lv_goto (tgt := 77) hx hb d_Mo_told_149 (by decide) ?_
                      exact ih_77 (xx + 1) n2_ ed2 (by omega) (by omega) (by first | (have z9 := ck_no (P := pic) c_94 j3; rw [Int.add_zero] at z9; exact z9) | exact td_cnt j1 (by omega) i1 (by omega) c_94 j3) (by first | exact eg_ext j4 (fun px py => td_no c_94 px py) | exact eg_yes (v := xx) j4 j1 i1 c_94 (if_pos (by omega)).symm (fun z9 => by omega) (fun z9 => by omega) | exact eg_yes (v := yy) j4 j1 i1 c_94 (if_neg (by omega)).symm (fun z9 => by omega) (fun z9 => by omega)) (by omega) (by omega) _ _ hP hD hS ls (lv_sub hl [1, 2, 3, 4, 5, 0] rfl)
                    · refine lv_iinc (v := iZ (n2_ + 1)) (lv' := [(2, .int (iZ (n2_ + 1))), (0, .ref hm), (1, .int (iZ wh)), (3, .int (iZ ed2)), (4, .int (iZ yy)), (5, .int (iZ xx))]) hx hb d_Mo_told_97 hl (k := 2) rfl (iZ_add _ _) (by decide) rfl (fun ls hl => ?_)
                      refine lv_iload_n hx hb d_Mo_told_100 rfl (lv_at hl 2 rfl) ?_
                      refine lv_iconst (v := iZ (2)) hx hb d_Mo_told_101 rfl ?_
                      refine zi_rem hx hb d_Mo_told_102 (by omega) (by omega) (by omega) (by omega) ?_
                      refine zi_if_ne (tgt := 111) hx hb d_Mo_told_103 (by decide) (by omega) (by omega) (fun c_103 => ?_) (fun c_103 => ?_)
                      · refine lv_iload hx hb d_Mo_told_111 (lv_at hl 4 rfl) ?_
                        refine lv_istore (lv' := [(6, .int (iZ yy)), (2, .int (iZ (n2_ + 1))), (0, .ref hm), (1, .int (iZ wh)), (3, .int (iZ ed2)), (4, .int (iZ yy)), (5, .int (iZ xx))]) hx hb d_Mo_told_113 hl (by decide) rfl (fun ls hl => ?_)
                        refine lv_iload_n hx hb d_Mo_told_115 rfl (lv_at hl 4 rfl) ?_
                        refine zi_if_lt (tgt := 139) hx hb d_Mo_told_116 (by decide) (by omega) (by omega) (fun c_116 => ?_) (fun c_116 => ?_)
                        · refine lv_iload hx hb d_Mo_told_139 (lv_at hl 0 rfl) ?_
                          refine lv_goto (tgt := 145) hx hb d_Mo_told_141 (by decide) ?_
                          refine lv_istore_n (lv' := [(3, .int (iZ yy)), (6, .int (iZ yy)), (2, .int (iZ (n2_ + 1))), (0, .ref hm), (1, .int (iZ wh)), (4, .int (iZ yy)), (5, .int (iZ xx))]) hx hb d_Mo_told_145 rfl hl (by decide) rfl (fun ls hl => ?_)
                          refine lv_iinc (v := iZ (xx + 1)) (lv' := [(5, .int (iZ (xx + 1))), (3, .int (iZ yy)), (6, .int (iZ yy)), (2, .int (iZ (n2_ + 1))), (0, .ref hm), (1, .int (iZ wh)), (4, .int (iZ yy))]) hx hb d_Mo_told_146 hl (k := 6) rfl (iZ_add _ _) (by decide) rfl (fun ls hl => ?_)
                          refine lv_goto (tgt := 77) hx hb d_Mo_told_149 (by decide) ?_
                          exact ih_77 (xx + 1) (n2_ + 1) yy (by omega) (by omega) (by first | (have z9 := ck_no (P := pic) c_94 j3; rw [Int.add_zero] at z9; exact z9) | exact td_cnt j1 (by omega) i1 (by omega) c_94 j3) (by first | exact eg_ext j4 (fun px py => td_no c_94 px py) | exact eg_yes (v := xx) j4 j1 i1 c_94 (if_pos (by omega)).symm (fun z9 => by omega) (fun z9 => by omega) | exact eg_yes (v := yy) j4 j1 i1 c_94 (if_neg (by omega)).symm (fun z9 => by omega) (fun z9 => by omega)) (by omega) (by omega) _ _ hP hD hS ls (lv_sub hl [4, 5, 3, 1, 6, 0] rfl)
                        · refine lv_iload_n hx hb d_Mo_told_119 rfl (lv_at hl 3 rfl) ?_
                          refine lv_iconst (v := iZ (4)) hx hb d_Mo_told_120 rfl ?_
                          refine zi_ge (tgt := 133) hx hb d_Mo_told_121 (by decide) (by omega) (by omega) (by omega) (by omega) (fun c_121 => ?_) (fun c_121 => ?_)
                          · refine lv_iload hx hb d_Mo_told_133 (lv_at hl 0 rfl) ?_
                            refine lv_iload_n hx hb d_Mo_told_135 rfl (lv_at hl 4 rfl) ?_
                            refine zi_le (tgt := 144) hx hb d_Mo_told_136 (by decide) (by omega) (by omega) (by omega) (by omega) (fun c_136 => ?_) (fun c_136 => ?_)
                            · refine lv_iload_n hx hb d_Mo_told_144 rfl (lv_at hl 4 rfl) ?_
                              refine lv_istore_n (lv' := [(3, .int (iZ ed2)), (6, .int (iZ yy)), (2, .int (iZ (n2_ + 1))), (0, .ref hm), (1, .int (iZ wh)), (4, .int (iZ yy)), (5, .int (iZ xx))]) hx hb d_Mo_told_145 rfl hl (by decide) rfl (fun ls hl => ?_)
                              refine lv_iinc (v := iZ (xx + 1)) (lv' := [(5, .int (iZ (xx + 1))), (3, .int (iZ ed2)), (6, .int (iZ yy)), (2, .int (iZ (n2_ + 1))), (0, .ref hm), (1, .int (iZ wh)), (4, .int (iZ yy))]) hx hb d_Mo_told_146 hl (k := 6) rfl (iZ_add _ _) (by decide) rfl (fun ls hl => ?_)
                              refine lv_goto (tgt := 77) hx hb d_Mo_told_149 (by decide) ?_
                              exact ih_77 (xx + 1) (n2_ + 1) ed2 (by omega) (by omega) (by first | (have z9 := ck_no (P := pic) c_94 j3; rw [Int.add_zero] at z9; exact z9) | exact td_cnt j1 (by omega) i1 (by omega) c_94 j3) (by first | exact eg_ext j4 (fun px py => td_no c_94 px py) | exact eg_yes (v := xx) j4 j1 i1 c_94 (if_pos (by omega)).symm (fun z9 => by omega) (fun z9 => by omega) | exact eg_yes (v := yy) j4 j1 i1 c_94 (if_neg (by omega)).symm (fun z9 => by omega) (fun z9 => by omega)) (by omega) (by omega) _ _ hP hD hS ls (lv_sub hl [4, 5, 3, 1, 6, 0] rfl)
                            · refine lv_iload hx hb d_Mo_told_139 (lv_at hl 0 rfl) ?_
                              refine lv_goto (tgt := 145) hx hb d_Mo_told_141 (by decide) ?_
                              refine lv_istore_n (lv' := [(3, .int (iZ yy)), (6, .int (iZ yy)), (2, .int (iZ (n2_ + 1))), (0, .ref hm), (1, .int (iZ wh)), (4, .int (iZ yy)), (5, .int (iZ xx))]) hx hb d_Mo_told_145 rfl hl (by decide) rfl (fun ls hl => ?_)
                              refine lv_iinc (v := iZ (xx + 1)) (lv' := [(5, .int (iZ (xx + 1))), (3, .int (iZ yy)), (6, .int (iZ yy)), (2, .int (iZ (n2_ + 1))), (0, .ref hm), (1, .int (iZ wh)), (4, .int (iZ yy))]) hx hb d_Mo_told_146 hl (k := 6) rfl (iZ_add _ _) (by decide) rfl (fun ls hl => ?_)
                              refine lv_goto (tgt := 77) hx hb d_Mo_told_149 (by decide) ?_
                              exact ih_77 (xx + 1) (n2_ + 1) yy (by omega) (by omega) (by first | (have z9 := ck_no (P := pic) c_94 j3; rw [Int.add_zero] at z9; exact z9) | exact td_cnt j1 (by omega) i1 (by omega) c_94 j3) (by first | exact eg_ext j4 (fun px py => td_no c_94 px py) | exact eg_yes (v := xx) j4 j1 i1 c_94 (if_pos (by omega)).symm (fun z9 => by omega) (fun z9 => by omega) | exact eg_yes (v := yy) j4 j1 i1 c_94 (if_neg (by omega)).symm (fun z9 => by omega) (fun z9 => by omega)) (by omega) (by omega) _ _ hP hD hS ls (lv_sub hl [4, 5, 3, 1, 6, 0] rfl)
                          · refine lv_iload hx hb d_Mo_told_124 (lv_at hl 0 rfl) ?_
                            refine lv_iload_n hx hb d_Mo_told_126 rfl (lv_at hl 4 rfl) ?_
                            refine zi_ge (tgt := 144) hx hb d_Mo_told_127 (by decide) (by omega) (by omega) (by omega) (by omega) (fun c_127 => ?_) (fun c_127 => ?_)
                            · refine lv_iload_n hx hb d_Mo_told_144 rfl (lv_at hl 4 rfl) ?_
                              refine lv_istore_n (lv' := [(3, .int (iZ ed2)), (6, .int (iZ yy)), (2, .int (iZ (n2_ + 1))), (0, .ref hm), (1, .int (iZ wh)), (4, .int (iZ yy)), (5, .int (iZ xx))]) hx hb d_Mo_told_145 rfl hl (by decide) rfl (fun ls hl => ?_)
                              refine lv_iinc (v := iZ (xx + 1)) (lv' := [(5, .int (iZ (xx + 1))), (3, .int (iZ ed2)), (6, .int (iZ yy)), (2, .int (iZ (n2_ + 1))), (0, .ref hm), (1, .int (iZ wh)), (4, .int (iZ yy))]) hx hb d_Mo_told_146 hl (k := 6) rfl (iZ_add _ _) (by decide) rfl (fun ls hl => ?_)
                              refine lv_goto (tgt := 77) hx hb d_Mo_told_149 (by decide) ?_
                              exact ih_77 (xx + 1) (n2_ + 1) ed2 (by omega) (by omega) (by first | (have z9 := ck_no (P := pic) c_94 j3; rw [Int.add_zero] at z9; exact z9) | exact td_cnt j1 (by omega) i1 (by omega) c_94 j3) (by first | exact eg_ext j4 (fun px py => td_no c_94 px py) | exact eg_yes (v := xx) j4 j1 i1 c_94 (if_pos (by omega)).symm (fun z9 => by omega) (fun z9 => by omega) | exact eg_yes (v := yy) j4 j1 i1 c_94 (if_neg (by omega)).symm (fun z9 => by omega) (fun z9 => by omega)) (by omega) (by omega) _ _ hP hD hS ls (lv_sub hl [4, 5, 3, 1, 6, 0] rfl)
                            · refine lv_goto (tgt := 139) hx hb d_Mo_told_130 (by decide) ?_
                              refine lv_iload hx hb d_Mo_told_139 (lv_at hl 0 rfl) ?_
                              refine lv_goto (tgt := 145) hx hb d_Mo_told_141 (by decide) ?_
                              refine lv_istore_n (lv' := [(3, .int (iZ yy)), (6, .int (iZ yy)), (2, .int (iZ (n2_ + 1))), (0, .ref hm), (1, .int (iZ wh)), (4, .int (iZ yy)), (5, .int (iZ xx))]) hx hb d_Mo_told_145 rfl hl (by decide) rfl (fun ls hl => ?_)
                              refine lv_iinc (v := iZ (xx + 1)) (lv' := [(5, .int (iZ (xx + 1))), (3, .int (iZ yy)), (6, .int (iZ yy)), (2, .int (iZ (n2_ + 1))), (0, .ref hm), (1, .int (iZ wh)), (4, .int (iZ yy))]) hx hb d_Mo_told_146 hl (k := 6) rfl (iZ_add _ _) (by decide) rfl (fun ls hl => ?_)
                              refine lv_goto (tgt := 77) hx hb d_Mo_told_149 (by decide) ?_
                              exact ih_77 (xx + 1) (n2_ + 1) yy (by omega) (by omega) (by first | (have z9 := ck_no (P := pic) c_94 j3; rw [Int.add_zero] at z9; exact z9) | exact td_cnt j1 (by omega) i1 (by omega) c_94 j3) (by first | exact eg_ext j4 (fun px py => td_no c_94 px py) | exact eg_yes (v := xx) j4 j1 i1 c_94 (if_pos (by omega)).symm (fun z9 => by omega) (fun z9 => by omega) | exact eg_yes (v := yy) j4 j1 i1 c_94 (if_neg (by omega)).symm (fun z9 => by omega) (fun z9 => by omega)) (by omega) (by omega) _ _ hP hD hS ls (lv_sub hl [4, 5, 3, 1, 6, 0] rfl)
                      · refine lv_iload hx hb d_Mo_told_106 (lv_at hl 5 rfl) ?_
                        refine lv_goto (tgt := 113) hx hb d_Mo_told_108 (by decide) ?_
                        refine lv_istore (lv' := [(6, .int (iZ xx)), (2, .int (iZ (n2_ + 1))), (0, .ref hm), (1, .int (iZ wh)), (3, .int (iZ ed2)), (4, .int (iZ yy)), (5, .int (iZ xx))]) hx hb d_Mo_told_113 hl (by decide) rfl (fun ls hl => ?_)
                        refine lv_iload_n hx hb d_Mo_told_115 rfl (lv_at hl 4 rfl) ?_
                        refine zi_if_lt (tgt := 139) hx hb d_Mo_told_116 (by decide) (by omega) (by omega) (fun c_116 => ?_) (fun c_116 => ?_)
                        · refine lv_iload hx hb d_Mo_told_139 (lv_at hl 0 rfl) ?_
                          refine lv_goto (tgt := 145) hx hb d_Mo_told_141 (by decide) ?_
                          refine lv_istore_n (lv' := [(3, .int (iZ xx)), (6, .int (iZ xx)), (2, .int (iZ (n2_ + 1))), (0, .ref hm), (1, .int (iZ wh)), (4, .int (iZ yy)), (5, .int (iZ xx))]) hx hb d_Mo_told_145 rfl hl (by decide) rfl (fun ls hl => ?_)
                          refine lv_iinc (v := iZ (xx + 1)) (lv' := [(5, .int (iZ (xx + 1))), (3, .int (iZ xx)), (6, .int (iZ xx)), (2, .int (iZ (n2_ + 1))), (0, .ref hm), (1, .int (iZ wh)), (4, .int (iZ yy))]) hx hb d_Mo_told_146 hl (k := 6) rfl (iZ_add _ _) (by decide) rfl (fun ls hl => ?_)
                          refine lv_goto (tgt := 77) hx hb d_Mo_told_149 (by decide) ?_
                          exact ih_77 (xx + 1) (n2_ + 1) xx (by omega) (by omega) (by first | (have z9 := ck_no (P := pic) c_94 j3; rw [Int.add_zero] at z9; exact z9) | exact td_cnt j1 (by omega) i1 (by omega) c_94 j3) (by first | exact eg_ext j4 (fun px py => td_no c_94 px py) | exact eg_yes (v := xx) j4 j1 i1 c_94 (if_pos (by omega)).symm (fun z9 => by omega) (fun z9 => by omega) | exact eg_yes (v := yy) j4 j1 i1 c_94 (if_neg (by omega)).symm (fun z9 => by omega) (fun z9 => by omega)) (by omega) (by omega) _ _ hP hD hS ls (lv_sub hl [4, 5, 3, 1, 6, 0] rfl)
                        · refine lv_iload_n hx hb d_Mo_told_119 rfl (lv_at hl 3 rfl) ?_
                          refine lv_iconst (v := iZ (4)) hx hb d_Mo_told_120 rfl ?_
                          refine zi_ge (tgt := 133) hx hb d_Mo_told_121 (by decide) (by omega) (by omega) (by omega) (by omega) (fun c_121 => ?_) (fun c_121 => ?_)
                          · refine lv_iload hx hb d_Mo_told_133 (lv_at hl 0 rfl) ?_
                            refine lv_iload_n hx hb d_Mo_told_135 rfl (lv_at hl 4 rfl) ?_
                            refine zi_le (tgt := 144) hx hb d_Mo_told_136 (by decide) (by omega) (by omega) (by omega) (by omega) (fun c_136 => ?_) (fun c_136 => ?_)
                            · refine lv_iload_n hx hb d_Mo_told_144 rfl (lv_at hl 4 rfl) ?_
                              refine lv_istore_n (lv' := [(3, .int (iZ ed2)), (6, .int (iZ xx)), (2, .int (iZ (n2_ + 1))), (0, .ref hm), (1, .int (iZ wh)), (4, .int (iZ yy)), (5, .int (iZ xx))]) hx hb d_Mo_told_145 rfl hl (by decide) rfl (fun ls hl => ?_)
                              refine lv_iinc (v := iZ (xx + 1)) (lv' := [(5, .int (iZ (xx + 1))), (3, .int (iZ ed2)), (6, .int (iZ xx)), (2, .int (iZ (n2_ + 1))), (0, .ref hm), (1, .int (iZ wh)), (4, .int (iZ yy))]) hx hb d_Mo_told_146 hl (k := 6) rfl (iZ_add _ _) (by decide) rfl (fun ls hl => ?_)
                              refine lv_goto (tgt := 77) hx hb d_Mo_told_149 (by decide) ?_
                              exact ih_77 (xx + 1) (n2_ + 1) ed2 (by omega) (by omega) (by first | (have z9 := ck_no (P := pic) c_94 j3; rw [Int.add_zero] at z9; exact z9) | exact td_cnt j1 (by omega) i1 (by omega) c_94 j3) (by first | exact eg_ext j4 (fun px py => td_no c_94 px py) | exact eg_yes (v := xx) j4 j1 i1 c_94 (if_pos (by omega)).symm (fun z9 => by omega) (fun z9 => by omega) | exact eg_yes (v := yy) j4 j1 i1 c_94 (if_neg (by omega)).symm (fun z9 => by omega) (fun z9 => by omega)) (by omega) (by omega) _ _ hP hD hS ls (lv_sub hl [4, 5, 3, 1, 6, 0] rfl)
                            · refine lv_iload hx hb d_Mo_told_139 (lv_at hl 0 rfl) ?_
                              refine lv_goto (tgt := 145) hx hb d_Mo_told_141 (by decide) ?_
                              refine lv_istore_n (lv' := [(3, .int (iZ xx)), (6, .int (iZ xx)), (2, .int (iZ (n2_ + 1))), (0, .ref hm), (1, .int (iZ wh)), (4, .int (iZ yy)), (5, .int (iZ xx))]) hx hb d_Mo_told_145 rfl hl (by decide) rfl (fun ls hl => ?_)
                              refine lv_iinc (v := iZ (xx + 1)) (lv' := [(5, .int (iZ (xx + 1))), (3, .int (iZ xx)), (6, .int (iZ xx)), (2, .int (iZ (n2_ + 1))), (0, .ref hm), (1, .int (iZ wh)), (4, .int (iZ yy))]) hx hb d_Mo_told_146 hl (k := 6) rfl (iZ_add _ _) (by decide) rfl (fun ls hl => ?_)
                              refine lv_goto (tgt := 77) hx hb d_Mo_told_149 (by decide) ?_
                              exact ih_77 (xx + 1) (n2_ + 1) xx (by omega) (by omega) (by first | (have z9 := ck_no (P := pic) c_94 j3; rw [Int.add_zero] at z9; exact z9) | exact td_cnt j1 (by omega) i1 (by omega) c_94 j3) (by first | exact eg_ext j4 (fun px py => td_no c_94 px py) | exact eg_yes (v := xx) j4 j1 i1 c_94 (if_pos (by omega)).symm (fun z9 => by omega) (fun z9 => by omega) | exact eg_yes (v := yy) j4 j1 i1 c_94 (if_neg (by omega)).symm (fun z9 => by omega) (fun z9 => by omega)) (by omega) (by omega) _ _ hP hD hS ls (lv_sub hl [4, 5, 3, 1, 6, 0] rfl)
                          · refine lv_iload hx hb d_Mo_told_124 (lv_at hl 0 rfl) ?_
                            refine lv_iload_n hx hb d_Mo_told_126 rfl (lv_at hl 4 rfl) ?_
                            refine zi_ge (tgt := 144) hx hb d_Mo_told_127 (by decide) (by omega) (by omega) (by omega) (by omega) (fun c_127 => ?_) (fun c_127 => ?_)
                            · refine lv_iload_n hx hb d_Mo_told_144 rfl (lv_at hl 4 rfl) ?_
                              refine lv_istore_n (lv' := [(3, .int (iZ ed2)), (6, .int (iZ xx)), (2, .int (iZ (n2_ + 1))), (0, .ref hm), (1, .int (iZ wh)), (4, .int (iZ yy)), (5, .int (iZ xx))]) hx hb d_Mo_told_145 rfl hl (by decide) rfl (fun ls hl => ?_)
                              refine lv_iinc (v := iZ (xx + 1)) (lv' := [(5, .int (iZ (xx + 1))), (3, .int (iZ ed2)), (6, .int (iZ xx)), (2, .int (iZ (n2_ + 1))), (0, .ref hm), (1, .int (iZ wh)), (4, .int (iZ yy))]) hx hb d_Mo_told_146 hl (k := 6) rfl (iZ_add _ _) (by decide) rfl (fun ls hl => ?_)
                              refine lv_goto (tgt := 77) hx hb d_Mo_told_149 (by decide) ?_
                              exact ih_77 (xx + 1) (n2_ + 1) ed2 (by omega) (by omega) (by first | (have z9 := ck_no (P := pic) c_94 j3; rw [Int.add_zero] at z9; exact z9) | exact td_cnt j1 (by omega) i1 (by omega) c_94 j3) (by first | exact eg_ext j4 (fun px py => td_no c_94 px py) | exact eg_yes (v := xx) j4 j1 i1 c_94 (if_pos (by omega)).symm (fun z9 => by omega) (fun z9 => by omega) | exact eg_yes (v := yy) j4 j1 i1 c_94 (if_neg (by omega)).symm (fun z9 => by omega) (fun z9 => by omega)) (by omega) (by omega) _ _ hP hD hS ls (lv_sub hl [4, 5, 3, 1, 6, 0] rfl)
                            · refine lv_goto (tgt := 139) hx hb d_Mo_told_130 (by decide) ?_
                              refine lv_iload hx hb d_Mo_told_139 (lv_at hl 0 rfl) ?_
                              refine lv_goto (tgt := 145) hx hb d_Mo_told_141 (by decide) ?_
                              refine lv_istore_n (lv' := [(3, .int (iZ xx)), (6, .int (iZ xx)), (2, .int (iZ (n2_ + 1))), (0, .ref hm), (1, .int (iZ wh)), (4, .int (iZ yy)), (5, .int (iZ xx))]) hx hb d_Mo_told_145 rfl hl (by decide) rfl (fun ls hl => ?_)
                              refine lv_iinc (v := iZ (xx + 1)) (lv' := [(5, .int (iZ (xx + 1))), (3, .int (iZ xx)), (6, .int (iZ xx)), (2, .int (iZ (n2_ + 1))), (0, .ref hm), (1, .int (iZ wh)), (4, .int (iZ yy))]) hx hb d_Mo_told_146 hl (k := 6) rfl (iZ_add _ _) (by decide) rfl (fun ls hl => ?_)
                              refine lv_goto (tgt := 77) hx hb d_Mo_told_149 (by decide) ?_
                              exact ih_77 (xx + 1) (n2_ + 1) xx (by omega) (by omega) (by first | (have z9 := ck_no (P := pic) c_94 j3; rw [Int.add_zero] at z9; exact z9) | exact td_cnt j1 (by omega) i1 (by omega) c_94 j3) (by first | exact eg_ext j4 (fun px py => td_no c_94 px py) | exact eg_yes (v := xx) j4 j1 i1 c_94 (if_pos (by omega)).symm (fun z9 => by omega) (fun z9 => by omega) | exact eg_yes (v := yy) j4 j1 i1 c_94 (if_neg (by omega)).symm (fun z9 => by omega) (fun z9 => by omega)) (by omega) (by omega) _ _ hP hD hS ls (lv_sub hl [4, 5, 3, 1, 6, 0] rfl)
              exact LP_77 _ 0 nn ed (by omega) (by omega) (i3) (i4) (i5) (Nat.lt_succ_self _) _ _ hP hD hS ls (lv_sub hl [1, 2, 3, 4, 5, 0] rfl)
        exact LP_65 _ 0 0 v3_61 (by omega) (by omega) (ck_0) (by rw [e_v3_61]; exact eg_0 hO wh) (by omega) (Nat.lt_succ_self _) _ _ hP hD hS ls (lv_sub hl [3, 4, 2, 1, 0] rfl)
      · refine lv_aload_n hx hb d_Mo_told_31 rfl (lv_at hl 0 rfl) ?_
        refine va_get (D := (dC, dI)) (ci := 6) (v := .int (iZ 0)) (C := R_Mo) (T := T_Mo) (N := 18) hx hb hts wi_Mo hown hK hP 0 rfl rfl 0 (by decide) (hts _ t_684) (fun _ h9 => h9) rfl d_Mo_told_32 ?_
        refine zi_if_le (tgt := 42) hx hb d_Mo_told_35 (by decide) (by omega) (by omega) (fun c_35 => ?_) (fun c_35 => ?_)
        · refine lv_iload_n hx hb d_Mo_told_42 rfl (lv_at hl 1 rfl) ?_
          refine zi_if_ne (tgt := 53) hx hb d_Mo_told_43 (by decide) (by omega) (by omega) (fun c_43 => ?_) (fun c_43 => ?_)
          · refine lv_aload_n hx hb d_Mo_told_53 rfl (lv_at hl 0 rfl) ?_
            refine va_get (D := (dC, dI)) (ci := 6) (v := .int (iZ h)) (C := R_Mo) (T := T_Mo) (N := 18) hx hb hts wi_Mo hown hK hP 0 rfl rfl 2 (by decide) (hts _ t_686) (fun _ h9 => h9) rfl d_Mo_told_54 ?_
            exact W.iret hx hb hr (fun t ht hW => ⟨⟨_, 0, rfl, ⟨_, rfl, Or.inl ⟨by omega, rfl, by omega, fun z9 => rfl, by omega, by omega, by omega, by omega, by omega⟩⟩, by rw [ht]; exact hP, va_K.moved hW.alike hK, hD⟩, hS.F ht⟩) hS.2.2 d_Mo_told_57
          · refine lv_aload_n hx hb d_Mo_told_46 rfl (lv_at hl 0 rfl) ?_
            refine va_get (D := (dC, dI)) (ci := 6) (v := .int (iZ w)) (C := R_Mo) (T := T_Mo) (N := 18) hx hb hts wi_Mo hown hK hP 0 rfl rfl 1 (by decide) (hts _ t_685) (fun _ h9 => h9) rfl d_Mo_told_47 ?_
            refine lv_goto (tgt := 57) hx hb d_Mo_told_50 (by decide) ?_
            exact W.iret hx hb hr (fun t ht hW => ⟨⟨_, 0, rfl, ⟨_, rfl, Or.inl ⟨by omega, rfl, fun z9 => rfl, by omega, by omega, by omega, by omega, by omega, by omega⟩⟩, by rw [ht]; exact hP, va_K.moved hW.alike hK, hD⟩, hS.F ht⟩) hS.2.2 d_Mo_told_57
        · exact absurd c_35 (by omega)
  · have c_8 := of_decide_eq_true c_8
    refine lv_iconst (v := iZ (1)) hx hb d_Mo_told_11 rfl ?_
    refine lv_goto (tgt := 16) hx hb d_Mo_told_12 (by decide) ?_
    refine va_put (D := (dC, dI)) (ci := 6) (v := .int (iZ 1)) (ty := .int) (C := R_Mo) (T := T_Mo) (N := 18) hx hb hts wi_Mo ty_Mo ty_Mo_ok nd_Mo hown hK hP hD hS 0 rfl rfl 0 (by decide) (hts _ t_684) (fun _ h9 => h9) rfl (by decide +kernel) rfl rfl (Nat.le_of_ble_eq_true rfl) d_Mo_told_16 (fun H locs hP hD hS => ?_)
    have hP : va_P (dC, dI) vwCl [(hm, .inr (6, [.int (iZ 1), .int (iZ w), .int (iZ h), .int (iZ mn), .ref zd, .ref zb, .ref zt, .int (iZ n), .ref zs, .ref zc, .int (iZ fx), .int (iZ fy), .int (iZ fa), .int (iZ fb), .int (iZ fc), .int (iZ qr), .int (iZ fo), .ref zo])), (zd, .inl (cI, 32768, .inl (aI Dk)))] H := hP
    have hD : va_D A [(hm, .inr (6, [.int (iZ 1), .int (iZ w), .int (iZ h), .int (iZ mn), .ref zd, .ref zb, .ref zt, .int (iZ n), .ref zs, .ref zc, .int (iZ fx), .int (iZ fy), .int (iZ fa), .int (iZ fb), .int (iZ fc), .int (iZ qr), .int (iZ fo), .ref zo])), (zd, .inl (cI, 32768, .inl (aI Dk)))] := hD
    refine lv_aload_n hx hb d_Mo_told_19 rfl (lv_at hl 0 rfl) ?_
    refine va_get (D := (dC, dI)) (ci := 6) (v := .int (iZ 1)) (C := R_Mo) (T := T_Mo) (N := 18) hx hb hts wi_Mo hown hK hP 0 rfl rfl 0 (by decide) (hts _ t_684) (fun _ h9 => h9) rfl d_Mo_told_20 ?_
    refine zi_if_gt (tgt := 31) hx hb d_Mo_told_23 (by decide) (by omega) (by omega) (fun c_23 => ?_) (fun c_23 => ?_)
    · refine lv_aload_n hx hb d_Mo_told_31 rfl (lv_at hl 0 rfl) ?_
      refine va_get (D := (dC, dI)) (ci := 6) (v := .int (iZ 1)) (C := R_Mo) (T := T_Mo) (N := 18) hx hb hts wi_Mo hown hK hP 0 rfl rfl 0 (by decide) (hts _ t_684) (fun _ h9 => h9) rfl d_Mo_told_32 ?_
      refine zi_if_le (tgt := 42) hx hb d_Mo_told_35 (by decide) (by omega) (by omega) (fun c_35 => ?_) (fun c_35 => ?_)
      · exact absurd c_35 (by omega)
      · refine lv_iconst (v := iZ (0)) hx hb d_Mo_told_38 rfl ?_
        refine lv_goto (tgt := 57) hx hb d_Mo_told_39 (by decide) ?_
        exact W.iret hx hb hr (fun t ht hW => ⟨⟨_, 1, rfl, ⟨_, rfl, Or.inr ⟨by omega, rfl⟩⟩, by rw [ht]; exact hP, va_K.moved hW.alike hK, hD⟩, hS.F ht⟩) hS.2.2 d_Mo_told_57
    · exact absurd c_23 (by omega)
theorem d_Mo_count_0 : decode c_yMo_count 0 = .ok (.aload_n 0, 1) := by decide +kernel
theorem d_Mo_count_1 : decode c_yMo_count 1 = .ok (.iload_n 1, 1) := by decide +kernel
theorem d_Mo_count_2 : decode c_yMo_count 2 = .ok (.iload_n 2, 1) := by decide +kernel
theorem d_Mo_count_3 : decode c_yMo_count 3 = .ok (.invokestatic 124, 3) := by decide +kernel
theorem d_Mo_count_6 : decode c_yMo_count 6 = .ok (.ifCond .ne 26, 3) := by decide +kernel
theorem d_Mo_count_9 : decode c_yMo_count 9 = .ok (.iload_n 3, 1) := by decide +kernel
theorem d_Mo_count_10 : decode c_yMo_count 10 = .ok (.iconst 1, 1) := by decide +kernel
theorem d_Mo_count_11 : decode c_yMo_count 11 = .ok (.sipush 2048, 3) := by decide +kernel
theorem d_Mo_count_14 : decode c_yMo_count 14 = .ok (.invokestatic 121, 3) := by decide +kernel
theorem d_Mo_count_17 : decode c_yMo_count 17 = .ok (.ifCond .ne 15, 3) := by decide +kernel
theorem d_Mo_count_20 : decode c_yMo_count 20 = .ok (.iload 4, 2) := by decide +kernel
theorem d_Mo_count_22 : decode c_yMo_count 22 = .ok (.iconst 1, 1) := by decide +kernel
theorem d_Mo_count_23 : decode c_yMo_count 23 = .ok (.sipush 2048, 3) := by decide +kernel
theorem d_Mo_count_26 : decode c_yMo_count 26 = .ok (.invokestatic 121, 3) := by decide +kernel
theorem d_Mo_count_29 : decode c_yMo_count 29 = .ok (.ifCond .eq 7, 3) := by decide +kernel
theorem d_Mo_count_32 : decode c_yMo_count 32 = .ok (.iconst 1, 1) := by decide +kernel
theorem d_Mo_count_33 : decode c_yMo_count 33 = .ok (.goto 4, 3) := by decide +kernel
theorem d_Mo_count_36 : decode c_yMo_count 36 = .ok (.iconst 0, 1) := by decide +kernel
theorem d_Mo_count_37 : decode c_yMo_count 37 = .ok (.putfield 37, 3) := by decide +kernel
theorem d_Mo_count_40 : decode c_yMo_count 40 = .ok (.iconst 0, 1) := by decide +kernel
theorem d_Mo_count_41 : decode c_yMo_count 41 = .ok (.istore 5, 2) := by decide +kernel
theorem d_Mo_count_43 : decode c_yMo_count 43 = .ok (.iconst 0, 1) := by decide +kernel
theorem d_Mo_count_44 : decode c_yMo_count 44 = .ok (.istore 6, 2) := by decide +kernel
theorem d_Mo_count_46 : decode c_yMo_count 46 = .ok (.iload 6, 2) := by decide +kernel
theorem d_Mo_count_48 : decode c_yMo_count 48 = .ok (.aload_n 0, 1) := by decide +kernel
theorem d_Mo_count_49 : decode c_yMo_count 49 = .ok (.getfield 13, 3) := by decide +kernel
theorem d_Mo_count_52 : decode c_yMo_count 52 = .ok (.if_icmp .ge 84, 3) := by decide +kernel
theorem d_Mo_count_55 : decode c_yMo_count 55 = .ok (.aload_n 0, 1) := by decide +kernel
theorem d_Mo_count_56 : decode c_yMo_count 56 = .ok (.getfield 37, 3) := by decide +kernel
theorem d_Mo_count_59 : decode c_yMo_count 59 = .ok (.ifCond .ne 77, 3) := by decide +kernel
theorem d_Mo_count_62 : decode c_yMo_count 62 = .ok (.iconst 0, 1) := by decide +kernel
theorem d_Mo_count_63 : decode c_yMo_count 63 = .ok (.istore 7, 2) := by decide +kernel
theorem d_Mo_count_65 : decode c_yMo_count 65 = .ok (.iload 7, 2) := by decide +kernel
theorem d_Mo_count_67 : decode c_yMo_count 67 = .ok (.aload_n 0, 1) := by decide +kernel
theorem d_Mo_count_68 : decode c_yMo_count 68 = .ok (.getfield 7, 3) := by decide +kernel
theorem d_Mo_count_71 : decode c_yMo_count 71 = .ok (.if_icmp .ge 59, 3) := by decide +kernel
theorem d_Mo_count_74 : decode c_yMo_count 74 = .ok (.iload 5, 2) := by decide +kernel
theorem d_Mo_count_76 : decode c_yMo_count 76 = .ok (.iload 7, 2) := by decide +kernel
theorem d_Mo_count_78 : decode c_yMo_count 78 = .ok (.iload_n 1, 1) := by decide +kernel
theorem d_Mo_count_79 : decode c_yMo_count 79 = .ok (.if_icmp .lt 41, 3) := by decide +kernel
theorem d_Mo_count_82 : decode c_yMo_count 82 = .ok (.iload 7, 2) := by decide +kernel
theorem d_Mo_count_84 : decode c_yMo_count 84 = .ok (.iload_n 1, 1) := by decide +kernel
theorem d_Mo_count_85 : decode c_yMo_count 85 = .ok (.iload_n 3, 1) := by decide +kernel
theorem d_Mo_count_86 : decode c_yMo_count 86 = .ok (.iadd, 1) := by decide +kernel
theorem d_Mo_count_87 : decode c_yMo_count 87 = .ok (.if_icmp .ge 33, 3) := by decide +kernel
theorem d_Mo_count_90 : decode c_yMo_count 90 = .ok (.iload 6, 2) := by decide +kernel
theorem d_Mo_count_92 : decode c_yMo_count 92 = .ok (.iload_n 2, 1) := by decide +kernel
theorem d_Mo_count_93 : decode c_yMo_count 93 = .ok (.if_icmp .lt 27, 3) := by decide +kernel
theorem d_Mo_count_96 : decode c_yMo_count 96 = .ok (.iload 6, 2) := by decide +kernel
theorem d_Mo_count_98 : decode c_yMo_count 98 = .ok (.iload_n 2, 1) := by decide +kernel
theorem d_Mo_count_99 : decode c_yMo_count 99 = .ok (.iload 4, 2) := by decide +kernel
theorem d_Mo_count_101 : decode c_yMo_count 101 = .ok (.iadd, 1) := by decide +kernel
theorem d_Mo_count_102 : decode c_yMo_count 102 = .ok (.if_icmp .ge 18, 3) := by decide +kernel
theorem d_Mo_count_105 : decode c_yMo_count 105 = .ok (.aload_n 0, 1) := by decide +kernel
theorem d_Mo_count_106 : decode c_yMo_count 106 = .ok (.iload 7, 2) := by decide +kernel
theorem d_Mo_count_108 : decode c_yMo_count 108 = .ok (.iload 6, 2) := by decide +kernel
theorem d_Mo_count_110 : decode c_yMo_count 110 = .ok (.invokevirtual 114, 3) := by decide +kernel
theorem d_Mo_count_113 : decode c_yMo_count 113 = .ok (.ifCond .eq 7, 3) := by decide +kernel
theorem d_Mo_count_116 : decode c_yMo_count 116 = .ok (.iconst 1, 1) := by decide +kernel
theorem d_Mo_count_117 : decode c_yMo_count 117 = .ok (.goto 4, 3) := by decide +kernel
theorem d_Mo_count_120 : decode c_yMo_count 120 = .ok (.iconst 0, 1) := by decide +kernel
theorem d_Mo_count_121 : decode c_yMo_count 121 = .ok (.iadd, 1) := by decide +kernel
theorem d_Mo_count_122 : decode c_yMo_count 122 = .ok (.istore 5, 2) := by decide +kernel
theorem d_Mo_count_124 : decode c_yMo_count 124 = .ok (.iinc 7 1, 3) := by decide +kernel
theorem d_Mo_count_127 : decode c_yMo_count 127 = .ok (.goto (-62), 3) := by decide +kernel
theorem d_Mo_count_130 : decode c_yMo_count 130 = .ok (.iinc 6 1, 3) := by decide +kernel
theorem d_Mo_count_133 : decode c_yMo_count 133 = .ok (.goto (-87), 3) := by decide +kernel
theorem d_Mo_count_136 : decode c_yMo_count 136 = .ok (.iload 5, 2) := by decide +kernel
theorem d_Mo_count_138 : decode c_yMo_count 138 = .ok (.ireturn, 1) := by decide +kernel
set_option maxHeartbeats 4000000 in
set_option maxRecDepth 100000 in
theorem c_Model_count (l : Launch) (dC : Nat → ClassId) (dI : Nat → Nat → Nat) (hm zd zb zt zs zc zo : Nat) (tw w h mn n fx fy fa fb fc qr fo : Int) (cI : ClassId) (Dk : Int → Int32) (pic : Int → Int → Bool) (x y bw bh : Int) (sz : Nat) (w1 : 1 ≤ w) (w2 : w ≤ 1024) (h1 : 1 ≤ h) (h2 : h ≤ 1024) (hM : RepM Dk pic) (hO : Off w h pic) (x1 : -2147483648 ≤ x) (y1 : -2147483648 ≤ y) (bw1 : -2147483648 ≤ bw) (bh1 : -2147483648 ≤ bh) (x2 : x ≤ 2147483647) (y2 : y ≤ 2147483647) (bw2 : bw ≤ 2147483647) (bh2 : bh ≤ 2147483647) : Met l y_Mo_count w_Mo_count ({ frames := 2, cells := 0, slots := 0, locals := 44 }) (va_Pc [.ref hm, .int (iZ x), .int (iZ y), .int (iZ bw), .int (iZ bh)] (zPm (dC, dI) vwCl [(hm, .inr (6, [.int (iZ tw), .int (iZ w), .int (iZ h), .int (iZ mn), .ref zd, .ref zb, .ref zt, .int (iZ n), .ref zs, .ref zc, .int (iZ fx), .int (iZ fy), .int (iZ fa), .int (iZ fb), .int (iZ fc), .int (iZ qr), .int (iZ fo), .ref zo])), (zd, .inl (cI, 32768, .inl (aI Dk)))] [(cI, .int)] sz)) (va_Qi (fun (r : Int32) (u : Int) => ∃ z : Int, r = iZ z ∧ (((-4096 ≤ x ∧ x ≤ 4096 ∧ -4096 ≤ y ∧ y ≤ 4096 ∧ 1 ≤ bw ∧ bw ≤ 2048 ∧ 1 ≤ bh ∧ bh ≤ 2048) ∧ u = 0 ∧ z = cnt w h (dkB pic x y (x + bw - 1) (y + bh - 1))) ∨ (¬ (-4096 ≤ x ∧ x ≤ 4096 ∧ -4096 ≤ y ∧ y ≤ 4096 ∧ 1 ≤ bw ∧ bw ≤ 2048 ∧ 1 ≤ bh ∧ bh ≤ 2048) ∧ u = 1))) (fun u => zB (dC, dI) vwCl [(cI, .int)] (va_A [(hm, .inr (6, [.int (iZ tw), .int (iZ w), .int (iZ h), .int (iZ mn), .ref zd, .ref zb, .ref zt, .int (iZ n), .ref zs, .ref zc, .int (iZ fx), .int (iZ fy), .int (iZ fa), .int (iZ fb), .int (iZ fc), .int (iZ qr), .int (iZ fo), .ref zo])), (zd, .inl (cI, 32768, .inl (aI Dk)))] sz) [(hm, .inr (6, [.int (iZ u), .int (iZ w), .int (iZ h), .int (iZ mn), .ref zd, .ref zb, .ref zt, .int (iZ n), .ref zs, .ref zc, .int (iZ fx), .int (iZ fy), .int (iZ fa), .int (iZ fb), .int (iZ fc), .int (iZ qr), .int (iZ fo), .ref zo])), (zd, .inl (cI, 32768, .inl (aI Dk)))]) (va_A [(hm, .inr (6, [.int (iZ tw), .int (iZ w), .int (iZ h), .int (iZ mn), .ref zd, .ref zb, .ref zt, .int (iZ n), .ref zs, .ref zc, .int (iZ fx), .int (iZ fy), .int (iZ fa), .int (iZ fb), .int (iZ fc), .int (iZ qr), .int (iZ fo), .ref zo])), (zd, .inl (cI, 32768, .inl (aI Dk)))] sz)) 0 0 (va_A [(hm, .inr (6, [.int (iZ tw), .int (iZ w), .int (iZ h), .int (iZ mn), .ref zd, .ref zb, .ref zt, .int (iZ n), .ref zs, .ref zc, .int (iZ fx), .int (iZ fy), .int (iZ fa), .int (iZ fb), .int (iZ fc), .int (iZ qr), .int (iZ fo), .ref zo])), (zd, .inl (cI, 32768, .inl (aI Dk)))] sz) := by
  refine Met.ofW (cc := c_yMo_count) (maxL := 8) (ret := (some .int)) (by decide) rfl ?_
  intro p e s m args below meth c s₁ B hml hv
  obtain ⟨rfl, hsz, hP, hK, hD0⟩ := hv
  have hx := B.exec
  have hb := B.bytes
  have hr := B.returns
  have hts0 := atoms_spec (ws := w_Mo_count) B.pre
  have hts : ∀ w ∈ gT, w.before _ s = true := fun w h => hts0 w (List.mem_cons_of_mem _ h)
  have hown : s.vm.findClass R_Mo = some m.cls := findClass_of_methodNamed B.named
  have hlocks := B.notSynchronized
  subst hsz
  have hD := hD0.self (sz := s.heap.size)
  generalize hAe : va_A [(hm, .inr (6, [.int (iZ tw), .int (iZ w), .int (iZ h), .int (iZ mn), .ref zd, .ref zb, .ref zt, .int (iZ n), .ref zs, .ref zc, .int (iZ fx), .int (iZ fy), .int (iZ fa), .int (iZ fb), .int (iZ fc), .int (iZ qr), .int (iZ fo), .ref zo])), (zd, .inl (cI, 32768, .inl (aI Dk)))] s.heap.size = A at hD ⊢
  have hA : ∀ q : Nat, s.heap.size ≤ q → A q := fun q h => by rw [← hAe]; exact Or.inr h
  obtain ⟨H, hH⟩ : ∃ H, s.heap = H := ⟨_, rfl⟩
  have hS : va_S A s.heap H [] := by rw [← hH]; exact va_S.rf
  rw [hH] at hP
  rw [hH]
  have hl := lv_entry ([.ref hm, .int (iZ x), .int (iZ y), .int (iZ bw), .int (iZ bh)]) (n := 8) (Nat.le_of_ble_eq_true rfl)
  rw [lg_entry_eq]
  generalize (lg_sl ([.ref hm, .int (iZ x), .int (iZ y), .int (iZ bw), .int (iZ bh)]) ++ List.replicate (8 - (lg_sl ([.ref hm, .int (iZ x), .int (iZ y), .int (iZ bw), .int (iZ bh)])).length) Slot.unset).toArray = ls at hl ⊢
  have hl : lv_has ls 8 [(0, .ref hm), (1, .int (iZ x)), (2, .int (iZ y)), (3, .int (iZ bw)), (4, .int (iZ bh))] := hl
  refine lv_aload_n hx hb d_Mo_count_0 rfl (lv_at hl 0 rfl) ?_
  refine lv_iload_n hx hb d_Mo_count_1 rfl (lv_at hl 1 rfl) ?_
  refine lv_iload_n hx hb d_Mo_count_2 rfl (lv_at hl 2 rfl) ?_
  refine vp_callSi (va_runS (As := [.int (iZ x), .int (iZ y)]) (rest := [.ref hm]) ⟨hx, hb, hml, hown, hts⟩ (c_Model_noPlace l dC dI x y (by first | omega | assumption) (by first | omega | assumption) (by first | omega | assumption) (by first | omega | assumption)) (va_cwS 2 hts (gS t_765 t_766 t_6 t_767) rfl rfl rfl (by decide +kernel) ⟨Nat.le_of_ble_eq_true rfl, Nat.le_of_ble_eq_true rfl⟩) ⟨zPr_blind, zPr_pre hP hK [] [] rfl rfl⟩ rfl rfl hl.1 rfl (lv_room (Nat.le_of_ble_eq_true rfl)) d_Mo_count_3 ⟨Nat.le_of_ble_eq_true rfl, Nat.le_of_ble_eq_true rfl⟩).run (fun r_3 q_3 => ?_)
  obtain rfl := q_3
  refine zb_if_ne (tgt := 32) hx hb d_Mo_count_6 (by decide) (fun c_6 => ?_) (fun c_6 => ?_)
  · have c_6 := of_decide_eq_true c_6
    refine lv_iconst (v := iZ (1)) hx hb d_Mo_count_32 rfl ?_
    refine lv_goto (tgt := 37) hx hb d_Mo_count_33 (by decide) ?_
    refine va_put (D := (dC, dI)) (ci := 6) (v := .int (iZ 1)) (ty := .int) (C := R_Mo) (T := T_Mo) (N := 18) hx hb hts wi_Mo ty_Mo ty_Mo_ok nd_Mo hown hK hP hD hS 0 rfl rfl 0 (by decide) (hts _ t_684) (fun _ h9 => h9) rfl (by decide +kernel) rfl rfl (Nat.le_of_ble_eq_true rfl) d_Mo_count_37 (fun H locs hP hD hS => ?_)
    have hP : va_P (dC, dI) vwCl [(hm, .inr (6, [.int (iZ 1), .int (iZ w), .int (iZ h), .int (iZ mn), .ref zd, .ref zb, .ref zt, .int (iZ n), .ref zs, .ref zc, .int (iZ fx), .int (iZ fy), .int (iZ fa), .int (iZ fb), .int (iZ fc), .int (iZ qr), .int (iZ fo), .ref zo])), (zd, .inl (cI, 32768, .inl (aI Dk)))] H := hP
    have hD : va_D A [(hm, .inr (6, [.int (iZ 1), .int (iZ w), .int (iZ h), .int (iZ mn), .ref zd, .ref zb, .ref zt, .int (iZ n), .ref zs, .ref zc, .int (iZ fx), .int (iZ fy), .int (iZ fa), .int (iZ fb), .int (iZ fc), .int (iZ qr), .int (iZ fo), .ref zo])), (zd, .inl (cI, 32768, .inl (aI Dk)))] := hD
    refine lv_iconst (v := iZ (0)) hx hb d_Mo_count_40 rfl ?_
    refine lv_istore (lv' := [(5, .int (iZ 0)), (0, .ref hm), (1, .int (iZ x)), (2, .int (iZ y)), (3, .int (iZ bw)), (4, .int (iZ bh))]) hx hb d_Mo_count_41 hl (by decide) rfl (fun ls hl => ?_)
    refine lv_iconst (v := iZ (0)) hx hb d_Mo_count_43 rfl ?_
    refine lv_istore (lv' := [(6, .int (iZ 0)), (5, .int (iZ 0)), (0, .ref hm), (1, .int (iZ x)), (2, .int (iZ y)), (3, .int (iZ bw)), (4, .int (iZ bh))]) hx hb d_Mo_count_44 hl (by decide) rfl (fun ls hl => ?_)
    refine lv_iload hx hb d_Mo_count_46 (lv_at hl 0 rfl) ?_
    refine lv_aload_n hx hb d_Mo_count_48 rfl (lv_at hl 2 rfl) ?_
    refine va_get (D := (dC, dI)) (ci := 6) (v := .int (iZ h)) (C := R_Mo) (T := T_Mo) (N := 18) hx hb hts wi_Mo hown hK hP 0 rfl rfl 2 (by decide) (hts _ t_686) (fun _ h9 => h9) rfl d_Mo_count_49 ?_
    refine zi_ge (tgt := 136) hx hb d_Mo_count_52 (by decide) (by omega) (by omega) (by omega) (by omega) (fun c_52 => ?_) (fun c_52 => ?_)
    · refine lv_iload hx hb d_Mo_count_136 (lv_at hl 1 rfl) ?_
      exact W.iret hx hb hr (fun t ht hW => ⟨⟨_, 1, rfl, ⟨_, rfl, Or.inr ⟨by omega, rfl⟩⟩, by rw [ht]; exact hP, va_K.moved hW.alike hK, hD⟩, hS.F ht⟩) hS.2.2 d_Mo_count_138
    · refine lv_aload_n hx hb d_Mo_count_55 rfl (lv_at hl 2 rfl) ?_
      refine va_get (D := (dC, dI)) (ci := 6) (v := .int (iZ 1)) (C := R_Mo) (T := T_Mo) (N := 18) hx hb hts wi_Mo hown hK hP 0 rfl rfl 0 (by decide) (hts _ t_684) (fun _ h9 => h9) rfl d_Mo_count_56 ?_
      refine zi_if_ne (tgt := 136) hx hb d_Mo_count_59 (by decide) (by omega) (by omega) (fun c_59 => ?_) (fun c_59 => ?_)
      · refine lv_iload hx hb d_Mo_count_136 (lv_at hl 1 rfl) ?_
        exact W.iret hx hb hr (fun t ht hW => ⟨⟨_, 1, rfl, ⟨_, rfl, Or.inr ⟨by omega, rfl⟩⟩, by rw [ht]; exact hP, va_K.moved hW.alike hK, hD⟩, hS.F ht⟩) hS.2.2 d_Mo_count_138
      · exact absurd c_59 (by omega)
  · have c_6 := of_decide_eq_false c_6
    refine lv_iload_n hx hb d_Mo_count_9 rfl (lv_at hl 3 rfl) ?_
    refine lv_iconst (v := iZ (1)) hx hb d_Mo_count_10 rfl ?_
    refine lv_sipush (v := iZ (2048)) hx hb d_Mo_count_11 (by decide) ?_
    refine vp_callSi (va_runS (As := [.int (iZ bw), .int (iZ 1), .int (iZ 2048)]) (rest := [.ref hm]) ⟨hx, hb, hml, hown, hts⟩ (c_Model_isNot l dC dI bw 1 2048 (by first | omega | assumption) (by first | omega | assumption) (by first | omega | assumption) (by first | omega | assumption) (by first | omega | assumption) (by first | omega | assumption)) (va_cwS 3 hts (gS t_771 t_772 t_6 t_773) rfl rfl rfl (by decide +kernel) ⟨Nat.le_of_ble_eq_true rfl, Nat.le_of_ble_eq_true rfl⟩) ⟨zPr_blind, zPr_pre hP hK [] [] rfl rfl⟩ rfl rfl hl.1 rfl (lv_room (Nat.le_of_ble_eq_true rfl)) d_Mo_count_14 ⟨Nat.le_of_ble_eq_true rfl, Nat.le_of_ble_eq_true rfl⟩).run (fun r_14 q_14 => ?_)
    obtain rfl := q_14
    refine zb_if_ne (tgt := 32) hx hb d_Mo_count_17 (by decide) (fun c_17 => ?_) (fun c_17 => ?_)
    · have c_17 := of_decide_eq_true c_17
      refine lv_iconst (v := iZ (1)) hx hb d_Mo_count_32 rfl ?_
      refine lv_goto (tgt := 37) hx hb d_Mo_count_33 (by decide) ?_
      refine va_put (D := (dC, dI)) (ci := 6) (v := .int (iZ 1)) (ty := .int) (C := R_Mo) (T := T_Mo) (N := 18) hx hb hts wi_Mo ty_Mo ty_Mo_ok nd_Mo hown hK hP hD hS 0 rfl rfl 0 (by decide) (hts _ t_684) (fun _ h9 => h9) rfl (by decide +kernel) rfl rfl (Nat.le_of_ble_eq_true rfl) d_Mo_count_37 (fun H locs hP hD hS => ?_)
      have hP : va_P (dC, dI) vwCl [(hm, .inr (6, [.int (iZ 1), .int (iZ w), .int (iZ h), .int (iZ mn), .ref zd, .ref zb, .ref zt, .int (iZ n), .ref zs, .ref zc, .int (iZ fx), .int (iZ fy), .int (iZ fa), .int (iZ fb), .int (iZ fc), .int (iZ qr), .int (iZ fo), .ref zo])), (zd, .inl (cI, 32768, .inl (aI Dk)))] H := hP
      have hD : va_D A [(hm, .inr (6, [.int (iZ 1), .int (iZ w), .int (iZ h), .int (iZ mn), .ref zd, .ref zb, .ref zt, .int (iZ n), .ref zs, .ref zc, .int (iZ fx), .int (iZ fy), .int (iZ fa), .int (iZ fb), .int (iZ fc), .int (iZ qr), .int (iZ fo), .ref zo])), (zd, .inl (cI, 32768, .inl (aI Dk)))] := hD
      refine lv_iconst (v := iZ (0)) hx hb d_Mo_count_40 rfl ?_
      refine lv_istore (lv' := [(5, .int (iZ 0)), (0, .ref hm), (1, .int (iZ x)), (2, .int (iZ y)), (3, .int (iZ bw)), (4, .int (iZ bh))]) hx hb d_Mo_count_41 hl (by decide) rfl (fun ls hl => ?_)
      refine lv_iconst (v := iZ (0)) hx hb d_Mo_count_43 rfl ?_
      refine lv_istore (lv' := [(6, .int (iZ 0)), (5, .int (iZ 0)), (0, .ref hm), (1, .int (iZ x)), (2, .int (iZ y)), (3, .int (iZ bw)), (4, .int (iZ bh))]) hx hb d_Mo_count_44 hl (by decide) rfl (fun ls hl => ?_)
      refine lv_iload hx hb d_Mo_count_46 (lv_at hl 0 rfl) ?_
      refine lv_aload_n hx hb d_Mo_count_48 rfl (lv_at hl 2 rfl) ?_
      refine va_get (D := (dC, dI)) (ci := 6) (v := .int (iZ h)) (C := R_Mo) (T := T_Mo) (N := 18) hx hb hts wi_Mo hown hK hP 0 rfl rfl 2 (by decide) (hts _ t_686) (fun _ h9 => h9) rfl d_Mo_count_49 ?_
      refine zi_ge (tgt := 136) hx hb d_Mo_count_52 (by decide) (by omega) (by omega) (by omega) (by omega) (fun c_52 => ?_) (fun c_52 => ?_)
      · refine lv_iload hx hb d_Mo_count_136 (lv_at hl 1 rfl) ?_
        exact W.iret hx hb hr (fun t ht hW => ⟨⟨_, 1, rfl, ⟨_, rfl, Or.inr ⟨by omega, rfl⟩⟩, by rw [ht]; exact hP, va_K.moved hW.alike hK, hD⟩, hS.F ht⟩) hS.2.2 d_Mo_count_138
      · refine lv_aload_n hx hb d_Mo_count_55 rfl (lv_at hl 2 rfl) ?_
        refine va_get (D := (dC, dI)) (ci := 6) (v := .int (iZ 1)) (C := R_Mo) (T := T_Mo) (N := 18) hx hb hts wi_Mo hown hK hP 0 rfl rfl 0 (by decide) (hts _ t_684) (fun _ h9 => h9) rfl d_Mo_count_56 ?_
        refine zi_if_ne (tgt := 136) hx hb d_Mo_count_59 (by decide) (by omega) (by omega) (fun c_59 => ?_) (fun c_59 => ?_)
        · refine lv_iload hx hb d_Mo_count_136 (lv_at hl 1 rfl) ?_
          exact W.iret hx hb hr (fun t ht hW => ⟨⟨_, 1, rfl, ⟨_, rfl, Or.inr ⟨by omega, rfl⟩⟩, by rw [ht]; exact hP, va_K.moved hW.alike hK, hD⟩, hS.F ht⟩) hS.2.2 d_Mo_count_138
        · exact absurd c_59 (by omega)
    · have c_17 := of_decide_eq_false c_17
      refine lv_iload hx hb d_Mo_count_20 (lv_at hl 4 rfl) ?_
      refine lv_iconst (v := iZ (1)) hx hb d_Mo_count_22 rfl ?_
      refine lv_sipush (v := iZ (2048)) hx hb d_Mo_count_23 (by decide) ?_
      refine vp_callSi (va_runS (As := [.int (iZ bh), .int (iZ 1), .int (iZ 2048)]) (rest := [.ref hm]) ⟨hx, hb, hml, hown, hts⟩ (c_Model_isNot l dC dI bh 1 2048 (by first | omega | assumption) (by first | omega | assumption) (by first | omega | assumption) (by first | omega | assumption) (by first | omega | assumption) (by first | omega | assumption)) (va_cwS 3 hts (gS t_771 t_772 t_6 t_773) rfl rfl rfl (by decide +kernel) ⟨Nat.le_of_ble_eq_true rfl, Nat.le_of_ble_eq_true rfl⟩) ⟨zPr_blind, zPr_pre hP hK [] [] rfl rfl⟩ rfl rfl hl.1 rfl (lv_room (Nat.le_of_ble_eq_true rfl)) d_Mo_count_26 ⟨Nat.le_of_ble_eq_true rfl, Nat.le_of_ble_eq_true rfl⟩).run (fun r_26 q_26 => ?_)
      obtain rfl := q_26
      refine zb_if_eq (tgt := 36) hx hb d_Mo_count_29 (by decide) (fun c_29 => ?_) (fun c_29 => ?_)
      · have c_29 := of_decide_eq_false c_29
        refine lv_iconst (v := iZ (0)) hx hb d_Mo_count_36 rfl ?_
        refine va_put (D := (dC, dI)) (ci := 6) (v := .int (iZ 0)) (ty := .int) (C := R_Mo) (T := T_Mo) (N := 18) hx hb hts wi_Mo ty_Mo ty_Mo_ok nd_Mo hown hK hP hD hS 0 rfl rfl 0 (by decide) (hts _ t_684) (fun _ h9 => h9) rfl (by decide +kernel) rfl rfl (Nat.le_of_ble_eq_true rfl) d_Mo_count_37 (fun H locs hP hD hS => ?_)
        have hP : va_P (dC, dI) vwCl [(hm, .inr (6, [.int (iZ 0), .int (iZ w), .int (iZ h), .int (iZ mn), .ref zd, .ref zb, .ref zt, .int (iZ n), .ref zs, .ref zc, .int (iZ fx), .int (iZ fy), .int (iZ fa), .int (iZ fb), .int (iZ fc), .int (iZ qr), .int (iZ fo), .ref zo])), (zd, .inl (cI, 32768, .inl (aI Dk)))] H := hP
        have hD : va_D A [(hm, .inr (6, [.int (iZ 0), .int (iZ w), .int (iZ h), .int (iZ mn), .ref zd, .ref zb, .ref zt, .int (iZ n), .ref zs, .ref zc, .int (iZ fx), .int (iZ fy), .int (iZ fa), .int (iZ fb), .int (iZ fc), .int (iZ qr), .int (iZ fo), .ref zo])), (zd, .inl (cI, 32768, .inl (aI Dk)))] := hD
        refine lv_iconst (v := iZ (0)) hx hb d_Mo_count_40 rfl ?_
        refine lv_istore (lv' := [(5, .int (iZ 0)), (0, .ref hm), (1, .int (iZ x)), (2, .int (iZ y)), (3, .int (iZ bw)), (4, .int (iZ bh))]) hx hb d_Mo_count_41 hl (by decide) rfl (fun ls hl => ?_)
        refine lv_iconst (v := iZ (0)) hx hb d_Mo_count_43 rfl ?_
        refine lv_istore (lv' := [(6, .int (iZ 0)), (5, .int (iZ 0)), (0, .ref hm), (1, .int (iZ x)), (2, .int (iZ y)), (3, .int (iZ bw)), (4, .int (iZ bh))]) hx hb d_Mo_count_44 hl (by decide) rfl (fun ls hl => ?_)
        have LP_46 : ∀ (n_46 : Nat) (yy : Int) (nn : Int), (0 ≤ yy) → (yy ≤ h) → (nn = cnt w h (dwP (dkB pic x y (x + bw - 1) (y + bh - 1)) 0 yy)) → (h - yy).toNat < n_46 → ∀ (H : Heap) (locs : List Loc), va_P (dC, dI) vwCl [(hm, .inr (6, [.int (iZ 0), .int (iZ w), .int (iZ h), .int (iZ mn), .ref zd, .ref zb, .ref zt, .int (iZ n), .ref zs, .ref zc, .int (iZ fx), .int (iZ fy), .int (iZ fa), .int (iZ fb), .int (iZ fc), .int (iZ qr), .int (iZ fo), .ref zo])), (zd, .inl (cI, 32768, .inl (aI Dk)))] H → va_D A [(hm, .inr (6, [.int (iZ 0), .int (iZ w), .int (iZ h), .int (iZ mn), .ref zd, .ref zb, .ref zt, .int (iZ n), .ref zs, .ref zc, .int (iZ fx), .int (iZ fy), .int (iZ fa), .int (iZ fb), .int (iZ fc), .int (iZ qr), .int (iZ fo), .ref zo])), (zd, .inl (cI, 32768, .inl (aI Dk)))] → va_S A s.heap H locs → ∀ (ls : Array Slot), lv_has ls 8 [(0, .ref hm), (1, .int (iZ x)), (2, .int (iZ y)), (3, .int (iZ bw)), (4, .int (iZ bh)), (5, .int (iZ nn)), (6, .int (iZ yy))] → W p l e ({ frames := 2, cells := 0, slots := 0, locals := 44 } : Room) s m ([.ref hm, .int (iZ x), .int (iZ y), .int (iZ bw), .int (iZ bh)] : List Value).toArray below meth c H locs 0 0 (MQ below (va_Qi (fun (r : Int32) (u : Int) => ∃ z : Int, r = iZ z ∧ (((-4096 ≤ x ∧ x ≤ 4096 ∧ -4096 ≤ y ∧ y ≤ 4096 ∧ 1 ≤ bw ∧ bw ≤ 2048 ∧ 1 ≤ bh ∧ bh ≤ 2048) ∧ u = 0 ∧ z = cnt w h (dkB pic x y (x + bw - 1) (y + bh - 1))) ∨ (¬ (-4096 ≤ x ∧ x ≤ 4096 ∧ -4096 ≤ y ∧ y ≤ 4096 ∧ 1 ≤ bw ∧ bw ≤ 2048 ∧ 1 ≤ bh ∧ bh ≤ 2048) ∧ u = 1))) (fun u => zB (dC, dI) vwCl [(cI, .int)] A [(hm, .inr (6, [.int (iZ u), .int (iZ w), .int (iZ h), .int (iZ mn), .ref zd, .ref zb, .ref zt, .int (iZ n), .ref zs, .ref zc, .int (iZ fx), .int (iZ fy), .int (iZ fa), .int (iZ fb), .int (iZ fc), .int (iZ qr), .int (iZ fo), .ref zo])), (zd, .inl (cI, 32768, .inl (aI Dk)))]) A) ([.ref hm, .int (iZ x), .int (iZ y), .int (iZ bw), .int (iZ bh)] : List Value).toArray s 0 0 A) (F0 m 46 ls []) := by
          intro n_46
          induction n_46 with
          | zero => intro yy nn i1 i2 i3 hm; exact absurd hm (by omega)
          | succ n_46 ih_46 =>
            intro yy nn i1 i2 i3 hm_46 H locs hP hD hS ls hl
            refine lv_iload hx hb d_Mo_count_46 (lv_at hl 6 rfl) ?_
            refine lv_aload_n hx hb d_Mo_count_48 rfl (lv_at hl 0 rfl) ?_
            refine va_get (D := (dC, dI)) (ci := 6) (v := .int (iZ h)) (C := R_Mo) (T := T_Mo) (N := 18) hx hb hts wi_Mo hown hK hP 0 rfl rfl 2 (by decide) (hts _ t_686) (fun _ h9 => h9) rfl d_Mo_count_49 ?_
            refine zi_ge (tgt := 136) hx hb d_Mo_count_52 (by decide) (by omega) (by omega) (by omega) (by omega) (fun c_52 => ?_) (fun c_52 => ?_)
            · refine lv_iload hx hb d_Mo_count_136 (lv_at hl 5 rfl) ?_
              exact W.iret hx hb hr (fun t ht hW => ⟨⟨_, 0, rfl, ⟨_, rfl, Or.inl ⟨by omega, rfl, ck_end (by omega) i3⟩⟩, by rw [ht]; exact hP, va_K.moved hW.alike hK, hD⟩, hS.F ht⟩) hS.2.2 d_Mo_count_138
            · refine lv_aload_n hx hb d_Mo_count_55 rfl (lv_at hl 0 rfl) ?_
              refine va_get (D := (dC, dI)) (ci := 6) (v := .int (iZ 0)) (C := R_Mo) (T := T_Mo) (N := 18) hx hb hts wi_Mo hown hK hP 0 rfl rfl 0 (by decide) (hts _ t_684) (fun _ h9 => h9) rfl d_Mo_count_56 ?_
              refine zi_if_ne (tgt := 136) hx hb d_Mo_count_59 (by decide) (by omega) (by omega) (fun c_59 => ?_) (fun c_59 => ?_)
              · exact absurd c_59 (by omega)
              · refine lv_iconst (v := iZ (0)) hx hb d_Mo_count_62 rfl ?_
                refine lv_istore (lv' := [(7, .int (iZ 0)), (0, .ref hm), (1, .int (iZ x)), (2, .int (iZ y)), (3, .int (iZ bw)), (4, .int (iZ bh)), (5, .int (iZ nn)), (6, .int (iZ yy))]) hx hb d_Mo_count_63 hl (by decide) rfl (fun ls hl => ?_)
                have LP_65 : ∀ (n_65 : Nat) (xx : Int) (n2_ : Int), (0 ≤ xx) → (xx ≤ w) → (n2_ = cnt w h (dwP (dkB pic x y (x + bw - 1) (y + bh - 1)) xx yy)) → (w - xx).toNat < n_65 → ∀ (H : Heap) (locs : List Loc), va_P (dC, dI) vwCl [(hm, .inr (6, [.int (iZ 0), .int (iZ w), .int (iZ h), .int (iZ mn), .ref zd, .ref zb, .ref zt, .int (iZ n), .ref zs, .ref zc, .int (iZ fx), .int (iZ fy), .int (iZ fa), .int (iZ fb), .int (iZ fc), .int (iZ qr), .int (iZ fo), .ref zo])), (zd, .inl (cI, 32768, .inl (aI Dk)))] H → va_D A [(hm, .inr (6, [.int (iZ 0), .int (iZ w), .int (iZ h), .int (iZ mn), .ref zd, .ref zb, .ref zt, .int (iZ n), .ref zs, .ref zc, .int (iZ fx), .int (iZ fy), .int (iZ fa), .int (iZ fb), .int (iZ fc), .int (iZ qr), .int (iZ fo), .ref zo])), (zd, .inl (cI, 32768, .inl (aI Dk)))] → va_S A s.heap H locs → ∀ (ls : Array Slot), lv_has ls 8 [(0, .ref hm), (1, .int (iZ x)), (2, .int (iZ y)), (3, .int (iZ bw)), (4, .int (iZ bh)), (5, .int (iZ n2_)), (6, .int (iZ yy)), (7, .int (iZ xx))] → W p l e ({ frames := 2, cells := 0, slots := 0, locals := 44 } : Room) s m ([.ref hm, .int (iZ x), .int (iZ y), .int (iZ bw), .int (iZ bh)] : List Value).toArray below meth c H locs 0 0 (MQ below (va_Qi (fun (r : Int32) (u : Int) => ∃ z : Int, r = iZ z ∧ (((-4096 ≤ x ∧ x ≤ 4096 ∧ -4096 ≤ y ∧ y ≤ 4096 ∧ 1 ≤ bw ∧ bw ≤ 2048 ∧ 1 ≤ bh ∧ bh ≤ 2048) ∧ u = 0 ∧ z = cnt w h (dkB pic x y (x + bw - 1) (y + bh - 1))) ∨ (¬ (-4096 ≤ x ∧ x ≤ 4096 ∧ -4096 ≤ y ∧ y ≤ 4096 ∧ 1 ≤ bw ∧ bw ≤ 2048 ∧ 1 ≤ bh ∧ bh ≤ 2048) ∧ u = 1))) (fun u => zB (dC, dI) vwCl [(cI, .int)] A [(hm, .inr (6, [.int (iZ u), .int (iZ w), .int (iZ h), .int (iZ mn), .ref zd, .ref zb, .ref zt, .int (iZ n), .ref zs, .ref zc, .int (iZ fx), .int (iZ fy), .int (iZ fa), .int (iZ fb), .int (iZ fc), .int (iZ qr), .int (iZ fo), .ref zo])), (zd, .inl (cI, 32768, .inl (aI Dk)))]) A) ([.ref hm, .int (iZ x), .int (iZ y), .int (iZ bw), .int (iZ bh)] : List Value).toArray s 0 0 A) (F0 m 65 ls []) := by
                  intro n_65
                  induction n_65 with
                  | zero => intro xx n2_ j1 j2 j3 hm; exact absurd hm (by omega)
                  | succ n_65 ih_65 =>
                    intro xx n2_ j1 j2 j3 hm_65 H locs hP hD hS ls hl
                    refine lv_iload hx hb d_Mo_count_65 (lv_at hl 7 rfl) ?_
                    refine lv_aload_n hx hb d_Mo_count_67 rfl (lv_at hl 0 rfl) ?_
                    refine va_get (D := (dC, dI)) (ci := 6) (v := .int (iZ w)) (C := R_Mo) (T := T_Mo) (N := 18) hx hb hts wi_Mo hown hK hP 0 rfl rfl 1 (by decide) (hts _ t_685) (fun _ h9 => h9) rfl d_Mo_count_68 ?_
                    refine zi_ge (tgt := 130) hx hb d_Mo_count_71 (by decide) (by omega) (by omega) (by omega) (by omega) (fun c_71 => ?_) (fun c_71 => ?_)
                    · refine lv_iinc (v := iZ (yy + 1)) (lv' := [(6, .int (iZ (yy + 1))), (0, .ref hm), (1, .int (iZ x)), (2, .int (iZ y)), (3, .int (iZ bw)), (4, .int (iZ bh)), (5, .int (iZ n2_)), (7, .int (iZ xx))]) hx hb d_Mo_count_130 hl (k := 6) rfl (iZ_add _ _) (by decide) rfl (fun ls hl => ?_)
                      refine lv_goto (tgt := 46) hx hb d_Mo_count_133 (by decide) ?_
                      exact ih_46 (yy + 1) n2_ (by omega) (by omega) (ck_row (by omega) j3) (by omega) _ _ hP hD hS ls (lv_sub hl [1, 2, 3, 4, 5, 6, 0] rfl)
                    · refine lv_iload hx hb d_Mo_count_74 (lv_at hl 5 rfl) ?_
                      refine lv_iload hx hb d_Mo_count_76 (lv_at hl 7 rfl) ?_
                      refine lv_iload_n hx hb d_Mo_count_78 rfl (lv_at hl 1 rfl) ?_
                      refine zi_lt (tgt := 120) hx hb d_Mo_count_79 (by decide) (by omega) (by omega) (by omega) (by omega) (fun c_79 => ?_) (fun c_79 => ?_)
                      · refine lv_iconst (v := iZ (0)) hx hb d_Mo_count_120 rfl ?_
                        refine zi_add hx hb d_Mo_count_121 ?_
                        refine zn_z (fun v5_122 e_v5_122 => ?_)
                        refine lv_istore (lv' := [(5, .int (iZ v5_122)), (0, .ref hm), (1, .int (iZ x)), (2, .int (iZ y)), (3, .int (iZ bw)), (4, .int (iZ bh)), (6, .int (iZ yy)), (7, .int (iZ xx))]) hx hb d_Mo_count_122 hl (by decide) rfl (fun ls hl => ?_)
                        refine lv_iinc (v := iZ (xx + 1)) (lv' := [(7, .int (iZ (xx + 1))), (5, .int (iZ v5_122)), (0, .ref hm), (1, .int (iZ x)), (2, .int (iZ y)), (3, .int (iZ bw)), (4, .int (iZ bh)), (6, .int (iZ yy))]) hx hb d_Mo_count_124 hl (k := 7) rfl (iZ_add _ _) (by decide) rfl (fun ls hl => ?_)
                        refine lv_goto (tgt := 65) hx hb d_Mo_count_127 (by decide) ?_
                        exact ih_65 (xx + 1) v5_122 (by omega) (by omega) (by rw [e_v5_122]; first | exact ck_no (dk_f (by omega)) j3 | exact ck_no (dk_g c_113) j3 | exact ck_yes j1 (by omega) i1 (by omega) (dk_t (by omega) c_113) j3) (by omega) _ _ hP hD hS ls (lv_sub hl [2, 3, 4, 5, 6, 1, 7, 0] rfl)
                      · refine lv_iload hx hb d_Mo_count_82 (lv_at hl 7 rfl) ?_
                        refine lv_iload_n hx hb d_Mo_count_84 rfl (lv_at hl 1 rfl) ?_
                        refine lv_iload_n hx hb d_Mo_count_85 rfl (lv_at hl 3 rfl) ?_
                        refine zi_add hx hb d_Mo_count_86 ?_
                        refine zi_ge (tgt := 120) hx hb d_Mo_count_87 (by decide) (by omega) (by omega) (by omega) (by omega) (fun c_87 => ?_) (fun c_87 => ?_)
                        · refine lv_iconst (v := iZ (0)) hx hb d_Mo_count_120 rfl ?_
                          refine zi_add hx hb d_Mo_count_121 ?_
                          refine zn_z (fun v5_122 e_v5_122 => ?_)
                          refine lv_istore (lv' := [(5, .int (iZ v5_122)), (0, .ref hm), (1, .int (iZ x)), (2, .int (iZ y)), (3, .int (iZ bw)), (4, .int (iZ bh)), (6, .int (iZ yy)), (7, .int (iZ xx))]) hx hb d_Mo_count_122 hl (by decide) rfl (fun ls hl => ?_)
                          refine lv_iinc (v := iZ (xx + 1)) (lv' := [(7, .int (iZ (xx + 1))), (5, .int (iZ v5_122)), (0, .ref hm), (1, .int (iZ x)), (2, .int (iZ y)), (3, .int (iZ bw)), (4, .int (iZ bh)), (6, .int (iZ yy))]) hx hb d_Mo_count_124 hl (k := 7) rfl (iZ_add _ _) (by decide) rfl (fun ls hl => ?_)
                          refine lv_goto (tgt := 65) hx hb d_Mo_count_127 (by decide) ?_
                          exact ih_65 (xx + 1) v5_122 (by omega) (by omega) (by rw [e_v5_122]; first | exact ck_no (dk_f (by omega)) j3 | exact ck_no (dk_g c_113) j3 | exact ck_yes j1 (by omega) i1 (by omega) (dk_t (by omega) c_113) j3) (by omega) _ _ hP hD hS ls (lv_sub hl [2, 3, 4, 5, 6, 1, 7, 0] rfl)
                        · refine lv_iload hx hb d_Mo_count_90 (lv_at hl 6 rfl) ?_
                          refine lv_iload_n hx hb d_Mo_count_92 rfl (lv_at hl 2 rfl) ?_
                          refine zi_lt (tgt := 120) hx hb d_Mo_count_93 (by decide) (by omega) (by omega) (by omega) (by omega) (fun c_93 => ?_) (fun c_93 => ?_)
                          · refine lv_iconst (v := iZ (0)) hx hb d_Mo_count_120 rfl ?_
                            refine zi_add hx hb d_Mo_count_121 ?_
                            refine zn_z (fun v5_122 e_v5_122 => ?_)
                            refine lv_istore (lv' := [(5, .int (iZ v5_122)), (0, .ref hm), (1, .int (iZ x)), (2, .int (iZ y)), (3, .int (iZ bw)), (4, .int (iZ bh)), (6, .int (iZ yy)), (7, .int (iZ xx))]) hx hb d_Mo_count_122 hl (by decide) rfl (fun ls hl => ?_)
                            refine lv_iinc (v := iZ (xx + 1)) (lv' := [(7, .int (iZ (xx + 1))), (5, .int (iZ v5_122)), (0, .ref hm), (1, .int (iZ x)), (2, .int (iZ y)), (3, .int (iZ bw)), (4, .int (iZ bh)), (6, .int (iZ yy))]) hx hb d_Mo_count_124 hl (k := 7) rfl (iZ_add _ _) (by decide) rfl (fun ls hl => ?_)
                            refine lv_goto (tgt := 65) hx hb d_Mo_count_127 (by decide) ?_
                            exact ih_65 (xx + 1) v5_122 (by omega) (by omega) (by rw [e_v5_122]; first | exact ck_no (dk_f (by omega)) j3 | exact ck_no (dk_g c_113) j3 | exact ck_yes j1 (by omega) i1 (by omega) (dk_t (by omega) c_113) j3) (by omega) _ _ hP hD hS ls (lv_sub hl [2, 3, 4, 5, 6, 1, 7, 0] rfl)
                          · refine lv_iload hx hb d_Mo_count_96 (lv_at hl 6 rfl) ?_
                            refine lv_iload_n hx hb d_Mo_count_98 rfl (lv_at hl 2 rfl) ?_
                            refine lv_iload hx hb d_Mo_count_99 (lv_at hl 4 rfl) ?_
                            refine zi_add hx hb d_Mo_count_101 ?_
                            refine zi_ge (tgt := 120) hx hb d_Mo_count_102 (by decide) (by omega) (by omega) (by omega) (by omega) (fun c_102 => ?_) (fun c_102 => ?_)
                            · refine lv_iconst (v := iZ (0)) hx hb d_Mo_count_120 rfl ?_
                              refine zi_add hx hb d_Mo_count_121 ?_
                              refine zn_z (fun v5_122 e_v5_122 => ?_)
                              refine lv_istore (lv' := [(5, .int (iZ v5_122)), (0, .ref hm), (1, .int (iZ x)), (2, .int (iZ y)), (3, .int (iZ bw)), (4, .int (iZ bh)), (6, .int (iZ yy)), (7, .int (iZ xx))]) hx hb d_Mo_count_122 hl (by decide) rfl (fun ls hl => ?_)
                              refine lv_iinc (v := iZ (xx + 1)) (lv' := [(7, .int (iZ (xx + 1))), (5, .int (iZ v5_122)), (0, .ref hm), (1, .int (iZ x)), (2, .int (iZ y)), (3, .int (iZ bw)), (4, .int (iZ bh)), (6, .int (iZ yy))]) hx hb d_Mo_count_124 hl (k := 7) rfl (iZ_add _ _) (by decide) rfl (fun ls hl => ?_)
                              refine lv_goto (tgt := 65) hx hb d_Mo_count_127 (by decide) ?_
                              exact ih_65 (xx + 1) v5_122 (by omega) (by omega) (by rw [e_v5_122]; first | exact ck_no (dk_f (by omega)) j3 | exact ck_no (dk_g c_113) j3 | exact ck_yes j1 (by omega) i1 (by omega) (dk_t (by omega) c_113) j3) (by omega) _ _ hP hD hS ls (lv_sub hl [2, 3, 4, 5, 6, 1, 7, 0] rfl)
                            · refine lv_aload_n hx hb d_Mo_count_105 rfl (lv_at hl 0 rfl) ?_
                              refine lv_iload hx hb d_Mo_count_106 (lv_at hl 7 rfl) ?_
                              refine lv_iload hx hb d_Mo_count_108 (lv_at hl 6 rfl) ?_
                              refine vp_callSi (va_runV (As := [.int (iZ xx), .int (iZ yy)]) (rest := [.int (iZ n2_)]) ⟨hx, hb, hml, hown, hts⟩ (c_Model_isDark l dC dI hm zd zb zt zs zc zo 0 w h mn n fx fy fa fb fc qr fo cI Dk pic xx yy (by first | omega | assumption) (by first | omega | assumption) (by first | omega | assumption) (by first | omega | assumption) (by first | omega | assumption) (by first | omega | assumption) (by first | omega | assumption) (by first | omega | assumption) (by first | omega | assumption) (by first | omega | assumption)) (cwV 2 hts (gV t_827 t_829 s_27 t_6 t_830) rfl rfl rfl (by decide +kernel) ⟨Nat.le_of_ble_eq_true rfl, Nat.le_of_ble_eq_true rfl⟩) ⟨zPr_blind, va_recv hK hP (ci := 6) (q0 := 0) rfl rfl, zPr_pre hP hK [0, 1] [0] rfl rfl⟩ rfl rfl hl.1 rfl (lv_room (Nat.le_of_ble_eq_true rfl)) d_Mo_count_110 ⟨Nat.le_of_ble_eq_true rfl, Nat.le_of_ble_eq_true rfl⟩).run (fun r_110 q_110 => ?_)
                              obtain rfl := q_110
                              refine zb_if_eq (tgt := 120) hx hb d_Mo_count_113 (by decide) (fun c_113 => ?_) (fun c_113 => ?_)
                              · refine lv_iconst (v := iZ (0)) hx hb d_Mo_count_120 rfl ?_
                                refine zi_add hx hb d_Mo_count_121 ?_
                                refine zn_z (fun v5_122 e_v5_122 => ?_)
                                refine lv_istore (lv' := [(5, .int (iZ v5_122)), (0, .ref hm), (1, .int (iZ x)), (2, .int (iZ y)), (3, .int (iZ bw)), (4, .int (iZ bh)), (6, .int (iZ yy)), (7, .int (iZ xx))]) hx hb d_Mo_count_122 hl (by decide) rfl (fun ls hl => ?_)
                                refine lv_iinc (v := iZ (xx + 1)) (lv' := [(7, .int (iZ (xx + 1))), (5, .int (iZ v5_122)), (0, .ref hm), (1, .int (iZ x)), (2, .int (iZ y)), (3, .int (iZ bw)), (4, .int (iZ bh)), (6, .int (iZ yy))]) hx hb d_Mo_count_124 hl (k := 7) rfl (iZ_add _ _) (by decide) rfl (fun ls hl => ?_)
                                refine lv_goto (tgt := 65) hx hb d_Mo_count_127 (by decide) ?_
                                exact ih_65 (xx + 1) v5_122 (by omega) (by omega) (by rw [e_v5_122]; first | exact ck_no (dk_f (by omega)) j3 | exact ck_no (dk_g c_113) j3 | exact ck_yes j1 (by omega) i1 (by omega) (dk_t (by omega) c_113) j3) (by omega) _ _ hP hD hS ls (lv_sub hl [2, 3, 4, 5, 6, 1, 7, 0] rfl)
                              · refine lv_iconst (v := iZ (1)) hx hb d_Mo_count_116 rfl ?_
                                refine lv_goto (tgt := 121) hx hb d_Mo_count_117 (by decide) ?_
                                refine zi_add hx hb d_Mo_count_121 ?_
                                refine zn_z (fun v5_122 e_v5_122 => ?_)
                                refine lv_istore (lv' := [(5, .int (iZ v5_122)), (0, .ref hm), (1, .int (iZ x)), (2, .int (iZ y)), (3, .int (iZ bw)), (4, .int (iZ bh)), (6, .int (iZ yy)), (7, .int (iZ xx))]) hx hb d_Mo_count_122 hl (by decide) rfl (fun ls hl => ?_)
                                refine lv_iinc (v := iZ (xx + 1)) (lv' := [(7, .int (iZ (xx + 1))), (5, .int (iZ v5_122)), (0, .ref hm), (1, .int (iZ x)), (2, .int (iZ y)), (3, .int (iZ bw)), (4, .int (iZ bh)), (6, .int (iZ yy))]) hx hb d_Mo_count_124 hl (k := 7) rfl (iZ_add _ _) (by decide) rfl (fun ls hl => ?_)
                                refine lv_goto (tgt := 65) hx hb d_Mo_count_127 (by decide) ?_
                                exact ih_65 (xx + 1) v5_122 (by omega) (by omega) (by rw [e_v5_122]; first | exact ck_no (dk_f (by omega)) j3 | exact ck_no (dk_g c_113) j3 | exact ck_yes j1 (by omega) i1 (by omega) (dk_t (by omega) c_113) j3) (by omega) _ _ hP hD hS ls (lv_sub hl [2, 3, 4, 5, 6, 1, 7, 0] rfl)
                exact LP_65 _ 0 nn (by omega) (by omega) (i3) (Nat.lt_succ_self _) _ _ hP hD hS ls (lv_sub hl [1, 2, 3, 4, 5, 6, 7, 0] rfl)
        exact LP_46 _ 0 0 (by omega) (by omega) (ck_0) (Nat.lt_succ_self _) _ _ hP hD hS ls (lv_sub hl [2, 3, 4, 5, 6, 1, 0] rfl)
      · have c_29 := of_decide_eq_true c_29
        refine lv_iconst (v := iZ (1)) hx hb d_Mo_count_32 rfl ?_
        refine lv_goto (tgt := 37) hx hb d_Mo_count_33 (by decide) ?_
        refine va_put (D := (dC, dI)) (ci := 6) (v := .int (iZ 1)) (ty := .int) (C := R_Mo) (T := T_Mo) (N := 18) hx hb hts wi_Mo ty_Mo ty_Mo_ok nd_Mo hown hK hP hD hS 0 rfl rfl 0 (by decide) (hts _ t_684) (fun _ h9 => h9) rfl (by decide +kernel) rfl rfl (Nat.le_of_ble_eq_true rfl) d_Mo_count_37 (fun H locs hP hD hS => ?_)
        have hP : va_P (dC, dI) vwCl [(hm, .inr (6, [.int (iZ 1), .int (iZ w), .int (iZ h), .int (iZ mn), .ref zd, .ref zb, .ref zt, .int (iZ n), .ref zs, .ref zc, .int (iZ fx), .int (iZ fy), .int (iZ fa), .int (iZ fb), .int (iZ fc), .int (iZ qr), .int (iZ fo), .ref zo])), (zd, .inl (cI, 32768, .inl (aI Dk)))] H := hP
        have hD : va_D A [(hm, .inr (6, [.int (iZ 1), .int (iZ w), .int (iZ h), .int (iZ mn), .ref zd, .ref zb, .ref zt, .int (iZ n), .ref zs, .ref zc, .int (iZ fx), .int (iZ fy), .int (iZ fa), .int (iZ fb), .int (iZ fc), .int (iZ qr), .int (iZ fo), .ref zo])), (zd, .inl (cI, 32768, .inl (aI Dk)))] := hD
        refine lv_iconst (v := iZ (0)) hx hb d_Mo_count_40 rfl ?_
        refine lv_istore (lv' := [(5, .int (iZ 0)), (0, .ref hm), (1, .int (iZ x)), (2, .int (iZ y)), (3, .int (iZ bw)), (4, .int (iZ bh))]) hx hb d_Mo_count_41 hl (by decide) rfl (fun ls hl => ?_)
        refine lv_iconst (v := iZ (0)) hx hb d_Mo_count_43 rfl ?_
        refine lv_istore (lv' := [(6, .int (iZ 0)), (5, .int (iZ 0)), (0, .ref hm), (1, .int (iZ x)), (2, .int (iZ y)), (3, .int (iZ bw)), (4, .int (iZ bh))]) hx hb d_Mo_count_44 hl (by decide) rfl (fun ls hl => ?_)
        refine lv_iload hx hb d_Mo_count_46 (lv_at hl 0 rfl) ?_
        refine lv_aload_n hx hb d_Mo_count_48 rfl (lv_at hl 2 rfl) ?_
        refine va_get (D := (dC, dI)) (ci := 6) (v := .int (iZ h)) (C := R_Mo) (T := T_Mo) (N := 18) hx hb hts wi_Mo hown hK hP 0 rfl rfl 2 (by decide) (hts _ t_686) (fun _ h9 => h9) rfl d_Mo_count_49 ?_
        refine zi_ge (tgt := 136) hx hb d_Mo_count_52 (by decide) (by omega) (by omega) (by omega) (by omega) (fun c_52 => ?_) (fun c_52 => ?_)
        · refine lv_iload hx hb d_Mo_count_136 (lv_at hl 1 rfl) ?_
          exact W.iret hx hb hr (fun t ht hW => ⟨⟨_, 1, rfl, ⟨_, rfl, Or.inr ⟨by omega, rfl⟩⟩, by rw [ht]; exact hP, va_K.moved hW.alike hK, hD⟩, hS.F ht⟩) hS.2.2 d_Mo_count_138
        · refine lv_aload_n hx hb d_Mo_count_55 rfl (lv_at hl 2 rfl) ?_
          refine va_get (D := (dC, dI)) (ci := 6) (v := .int (iZ 1)) (C := R_Mo) (T := T_Mo) (N := 18) hx hb hts wi_Mo hown hK hP 0 rfl rfl 0 (by decide) (hts _ t_684) (fun _ h9 => h9) rfl d_Mo_count_56 ?_
          refine zi_if_ne (tgt := 136) hx hb d_Mo_count_59 (by decide) (by omega) (by omega) (fun c_59 => ?_) (fun c_59 => ?_)
          · refine lv_iload hx hb d_Mo_count_136 (lv_at hl 1 rfl) ?_
            exact W.iret hx hb hr (fun t ht hW => ⟨⟨_, 1, rfl, ⟨_, rfl, Or.inr ⟨by omega, rfl⟩⟩, by rw [ht]; exact hP, va_K.moved hW.alike hK, hD⟩, hS.F ht⟩) hS.2.2 d_Mo_count_138
          · exact absurd c_59 (by omega)
theorem d_Mo_dots_0 : decode c_yMo_dots 0 = .ok (.aload_n 0, 1) := by decide +kernel
theorem d_Mo_dots_1 : decode c_yMo_dots 1 = .ok (.iload_n 1, 1) := by decide +kernel
theorem d_Mo_dots_2 : decode c_yMo_dots 2 = .ok (.iload_n 2, 1) := by decide +kernel
theorem d_Mo_dots_3 : decode c_yMo_dots 3 = .ok (.invokestatic 124, 3) := by decide +kernel
theorem d_Mo_dots_6 : decode c_yMo_dots 6 = .ok (.ifCond .ne 13, 3) := by decide +kernel
theorem d_Mo_dots_9 : decode c_yMo_dots 9 = .ok (.iload_n 3, 1) := by decide +kernel
theorem d_Mo_dots_10 : decode c_yMo_dots 10 = .ok (.iconst 1, 1) := by decide +kernel
theorem d_Mo_dots_11 : decode c_yMo_dots 11 = .ok (.bipush 64, 2) := by decide +kernel
theorem d_Mo_dots_13 : decode c_yMo_dots 13 = .ok (.invokestatic 121, 3) := by decide +kernel
theorem d_Mo_dots_16 : decode c_yMo_dots 16 = .ok (.ifCond .eq 7, 3) := by decide +kernel
theorem d_Mo_dots_19 : decode c_yMo_dots 19 = .ok (.iconst 1, 1) := by decide +kernel
theorem d_Mo_dots_20 : decode c_yMo_dots 20 = .ok (.goto 4, 3) := by decide +kernel
theorem d_Mo_dots_23 : decode c_yMo_dots 23 = .ok (.iconst 0, 1) := by decide +kernel
theorem d_Mo_dots_24 : decode c_yMo_dots 24 = .ok (.putfield 37, 3) := by decide +kernel
theorem d_Mo_dots_27 : decode c_yMo_dots 27 = .ok (.lconst 0, 1) := by decide +kernel
theorem d_Mo_dots_28 : decode c_yMo_dots 28 = .ok (.lstore 4, 2) := by decide +kernel
theorem d_Mo_dots_30 : decode c_yMo_dots 30 = .ok (.iconst 0, 1) := by decide +kernel
theorem d_Mo_dots_31 : decode c_yMo_dots 31 = .ok (.istore 6, 2) := by decide +kernel
theorem d_Mo_dots_33 : decode c_yMo_dots 33 = .ok (.iload 6, 2) := by decide +kernel
theorem d_Mo_dots_35 : decode c_yMo_dots 35 = .ok (.iload_n 3, 1) := by decide +kernel
theorem d_Mo_dots_36 : decode c_yMo_dots 36 = .ok (.if_icmp .ge 42, 3) := by decide +kernel
theorem d_Mo_dots_39 : decode c_yMo_dots 39 = .ok (.aload_n 0, 1) := by decide +kernel
theorem d_Mo_dots_40 : decode c_yMo_dots 40 = .ok (.getfield 37, 3) := by decide +kernel
theorem d_Mo_dots_43 : decode c_yMo_dots 43 = .ok (.ifCond .ne 35, 3) := by decide +kernel
theorem d_Mo_dots_46 : decode c_yMo_dots 46 = .ok (.ldc2_w 69, 3) := by decide +kernel
theorem d_Mo_dots_49 : decode c_yMo_dots 49 = .ok (.lload 4, 2) := by decide +kernel
theorem d_Mo_dots_51 : decode c_yMo_dots 51 = .ok (.lmul, 1) := by decide +kernel
theorem d_Mo_dots_52 : decode c_yMo_dots 52 = .ok (.aload_n 0, 1) := by decide +kernel
theorem d_Mo_dots_53 : decode c_yMo_dots 53 = .ok (.iload_n 1, 1) := by decide +kernel
theorem d_Mo_dots_54 : decode c_yMo_dots 54 = .ok (.iload 6, 2) := by decide +kernel
theorem d_Mo_dots_56 : decode c_yMo_dots 56 = .ok (.iadd, 1) := by decide +kernel
theorem d_Mo_dots_57 : decode c_yMo_dots 57 = .ok (.iload_n 2, 1) := by decide +kernel
theorem d_Mo_dots_58 : decode c_yMo_dots 58 = .ok (.invokevirtual 114, 3) := by decide +kernel
theorem d_Mo_dots_61 : decode c_yMo_dots 61 = .ok (.ifCond .eq 7, 3) := by decide +kernel
theorem d_Mo_dots_64 : decode c_yMo_dots 64 = .ok (.lconst 1, 1) := by decide +kernel
theorem d_Mo_dots_65 : decode c_yMo_dots 65 = .ok (.goto 4, 3) := by decide +kernel
theorem d_Mo_dots_68 : decode c_yMo_dots 68 = .ok (.lconst 0, 1) := by decide +kernel
theorem d_Mo_dots_69 : decode c_yMo_dots 69 = .ok (.ladd, 1) := by decide +kernel
theorem d_Mo_dots_70 : decode c_yMo_dots 70 = .ok (.lstore 4, 2) := by decide +kernel
theorem d_Mo_dots_72 : decode c_yMo_dots 72 = .ok (.iinc 6 1, 3) := by decide +kernel
theorem d_Mo_dots_75 : decode c_yMo_dots 75 = .ok (.goto (-42), 3) := by decide +kernel
theorem d_Mo_dots_78 : decode c_yMo_dots 78 = .ok (.lload 4, 2) := by decide +kernel
theorem d_Mo_dots_80 : decode c_yMo_dots 80 = .ok (.lreturn, 1) := by decide +kernel
set_option maxHeartbeats 4000000 in
set_option maxRecDepth 100000 in
theorem c_Model_dots (l : Launch) (dC : Nat → ClassId) (dI : Nat → Nat → Nat) (hm zd zb zt zs zc zo : Nat) (tw w h mn n fx fy fa fb fc qr fo : Int) (cI : ClassId) (Dk : Int → Int32) (pic : Int → Int → Bool) (x y many : Int) (sz : Nat) (w1 : 1 ≤ w) (w2 : w ≤ 1024) (h1 : 1 ≤ h) (h2 : h ≤ 1024) (hM : RepM Dk pic) (hO : Off w h pic) (x1 : -2147483648 ≤ x) (y1 : -2147483648 ≤ y) (many1 : -2147483648 ≤ many) (x2 : x ≤ 2147483647) (y2 : y ≤ 2147483647) (many2 : many ≤ 2147483647) : Met l y_Mo_dots w_Mo_dots ({ frames := 2, cells := 0, slots := 0, locals := 44 }) (va_Pc [.ref hm, .int (iZ x), .int (iZ y), .int (iZ many)] (zPm (dC, dI) vwCl [(hm, .inr (6, [.int (iZ tw), .int (iZ w), .int (iZ h), .int (iZ mn), .ref zd, .ref zb, .ref zt, .int (iZ n), .ref zs, .ref zc, .int (iZ fx), .int (iZ fy), .int (iZ fa), .int (iZ fb), .int (iZ fc), .int (iZ qr), .int (iZ fo), .ref zo])), (zd, .inl (cI, 32768, .inl (aI Dk)))] [(cI, .int)] sz)) (va_Ql (fun (r : Int64) (u : Int) => ((-4096 ≤ x ∧ x ≤ 4096 ∧ -4096 ≤ y ∧ y ≤ 4096 ∧ 1 ≤ many ∧ many ≤ 64) ∧ u = 0 ∧ r = dtL (fun k => pic (x + k) y) many.toNat) ∨ (¬ (-4096 ≤ x ∧ x ≤ 4096 ∧ -4096 ≤ y ∧ y ≤ 4096 ∧ 1 ≤ many ∧ many ≤ 64) ∧ u = 1)) (fun u => zB (dC, dI) vwCl [(cI, .int)] (va_A [(hm, .inr (6, [.int (iZ tw), .int (iZ w), .int (iZ h), .int (iZ mn), .ref zd, .ref zb, .ref zt, .int (iZ n), .ref zs, .ref zc, .int (iZ fx), .int (iZ fy), .int (iZ fa), .int (iZ fb), .int (iZ fc), .int (iZ qr), .int (iZ fo), .ref zo])), (zd, .inl (cI, 32768, .inl (aI Dk)))] sz) [(hm, .inr (6, [.int (iZ u), .int (iZ w), .int (iZ h), .int (iZ mn), .ref zd, .ref zb, .ref zt, .int (iZ n), .ref zs, .ref zc, .int (iZ fx), .int (iZ fy), .int (iZ fa), .int (iZ fb), .int (iZ fc), .int (iZ qr), .int (iZ fo), .ref zo])), (zd, .inl (cI, 32768, .inl (aI Dk)))]) (va_A [(hm, .inr (6, [.int (iZ tw), .int (iZ w), .int (iZ h), .int (iZ mn), .ref zd, .ref zb, .ref zt, .int (iZ n), .ref zs, .ref zc, .int (iZ fx), .int (iZ fy), .int (iZ fa), .int (iZ fb), .int (iZ fc), .int (iZ qr), .int (iZ fo), .ref zo])), (zd, .inl (cI, 32768, .inl (aI Dk)))] sz)) 0 0 (va_A [(hm, .inr (6, [.int (iZ tw), .int (iZ w), .int (iZ h), .int (iZ mn), .ref zd, .ref zb, .ref zt, .int (iZ n), .ref zs, .ref zc, .int (iZ fx), .int (iZ fy), .int (iZ fa), .int (iZ fb), .int (iZ fc), .int (iZ qr), .int (iZ fo), .ref zo])), (zd, .inl (cI, 32768, .inl (aI Dk)))] sz) := by
  refine Met.ofW (cc := c_yMo_dots) (maxL := 7) (ret := (some .long)) (by decide) rfl ?_
  intro p e s m args below meth c s₁ B hml hv
  obtain ⟨rfl, hsz, hP, hK, hD0⟩ := hv
  have hx := B.exec
  have hb := B.bytes
  have hr := B.returns
  have hts0 := atoms_spec (ws := w_Mo_dots) B.pre
  have hts : ∀ w ∈ gT, w.before _ s = true := fun w h => hts0 w (List.mem_cons_of_mem _ h)
  have hown : s.vm.findClass R_Mo = some m.cls := findClass_of_methodNamed B.named
  have hlocks := B.notSynchronized
  subst hsz
  have hD := hD0.self (sz := s.heap.size)
  generalize hAe : va_A [(hm, .inr (6, [.int (iZ tw), .int (iZ w), .int (iZ h), .int (iZ mn), .ref zd, .ref zb, .ref zt, .int (iZ n), .ref zs, .ref zc, .int (iZ fx), .int (iZ fy), .int (iZ fa), .int (iZ fb), .int (iZ fc), .int (iZ qr), .int (iZ fo), .ref zo])), (zd, .inl (cI, 32768, .inl (aI Dk)))] s.heap.size = A at hD ⊢
  have hA : ∀ q : Nat, s.heap.size ≤ q → A q := fun q h => by rw [← hAe]; exact Or.inr h
  obtain ⟨H, hH⟩ : ∃ H, s.heap = H := ⟨_, rfl⟩
  have hS : va_S A s.heap H [] := by rw [← hH]; exact va_S.rf
  rw [hH] at hP
  rw [hH]
  have hl := lv_entry ([.ref hm, .int (iZ x), .int (iZ y), .int (iZ many)]) (n := 7) (Nat.le_of_ble_eq_true rfl)
  rw [lg_entry_eq]
  generalize (lg_sl ([.ref hm, .int (iZ x), .int (iZ y), .int (iZ many)]) ++ List.replicate (7 - (lg_sl ([.ref hm, .int (iZ x), .int (iZ y), .int (iZ many)])).length) Slot.unset).toArray = ls at hl ⊢
  have hl : lv_has ls 7 [(0, .ref hm), (1, .int (iZ x)), (2, .int (iZ y)), (3, .int (iZ many))] := hl
  refine lv_aload_n hx hb d_Mo_dots_0 rfl (lv_at hl 0 rfl) ?_
  refine lv_iload_n hx hb d_Mo_dots_1 rfl (lv_at hl 1 rfl) ?_
  refine lv_iload_n hx hb d_Mo_dots_2 rfl (lv_at hl 2 rfl) ?_
  refine vp_callSi (va_runS (As := [.int (iZ x), .int (iZ y)]) (rest := [.ref hm]) ⟨hx, hb, hml, hown, hts⟩ (c_Model_noPlace l dC dI x y (by first | omega | assumption) (by first | omega | assumption) (by first | omega | assumption) (by first | omega | assumption)) (va_cwS 2 hts (gS t_765 t_766 t_6 t_767) rfl rfl rfl (by decide +kernel) ⟨Nat.le_of_ble_eq_true rfl, Nat.le_of_ble_eq_true rfl⟩) ⟨zPr_blind, zPr_pre hP hK [] [] rfl rfl⟩ rfl rfl hl.1 rfl (lv_room (Nat.le_of_ble_eq_true rfl)) d_Mo_dots_3 ⟨Nat.le_of_ble_eq_true rfl, Nat.le_of_ble_eq_true rfl⟩).run (fun r_3 q_3 => ?_)
  obtain rfl := q_3
  refine zb_if_ne (tgt := 19) hx hb d_Mo_dots_6 (by decide) (fun c_6 => ?_) (fun c_6 => ?_)
  · have c_6 := of_decide_eq_true c_6
    refine lv_iconst (v := iZ (1)) hx hb d_Mo_dots_19 rfl ?_
    refine lv_goto (tgt := 24) hx hb d_Mo_dots_20 (by decide) ?_
    refine va_put (D := (dC, dI)) (ci := 6) (v := .int (iZ 1)) (ty := .int) (C := R_Mo) (T := T_Mo) (N := 18) hx hb hts wi_Mo ty_Mo ty_Mo_ok nd_Mo hown hK hP hD hS 0 rfl rfl 0 (by decide) (hts _ t_684) (fun _ h9 => h9) rfl (by decide +kernel) rfl rfl (Nat.le_of_ble_eq_true rfl) d_Mo_dots_24 (fun H locs hP hD hS => ?_)
    have hP : va_P (dC, dI) vwCl [(hm, .inr (6, [.int (iZ 1), .int (iZ w), .int (iZ h), .int (iZ mn), .ref zd, .ref zb, .ref zt, .int (iZ n), .ref zs, .ref zc, .int (iZ fx), .int (iZ fy), .int (iZ fa), .int (iZ fb), .int (iZ fc), .int (iZ qr), .int (iZ fo), .ref zo])), (zd, .inl (cI, 32768, .inl (aI Dk)))] H := hP
    have hD : va_D A [(hm, .inr (6, [.int (iZ 1), .int (iZ w), .int (iZ h), .int (iZ mn), .ref zd, .ref zb, .ref zt, .int (iZ n), .ref zs, .ref zc, .int (iZ fx), .int (iZ fy), .int (iZ fa), .int (iZ fb), .int (iZ fc), .int (iZ qr), .int (iZ fo), .ref zo])), (zd, .inl (cI, 32768, .inl (aI Dk)))] := hD
    refine lv_lconst (v := lZ 0) hx hb d_Mo_dots_27 (by decide) ?_
    refine lv_lstore (lv' := [(4, .long (lZ 0)), (0, .ref hm), (1, .int (iZ x)), (2, .int (iZ y)), (3, .int (iZ many))]) hx hb d_Mo_dots_28 hl (by decide) rfl (fun ls hl => ?_)
    refine lv_iconst (v := iZ (0)) hx hb d_Mo_dots_30 rfl ?_
    refine lv_istore (lv' := [(6, .int (iZ 0)), (4, .long (lZ 0)), (0, .ref hm), (1, .int (iZ x)), (2, .int (iZ y)), (3, .int (iZ many))]) hx hb d_Mo_dots_31 hl (by decide) rfl (fun ls hl => ?_)
    refine lv_iload hx hb d_Mo_dots_33 (lv_at hl 0 rfl) ?_
    refine lv_iload_n hx hb d_Mo_dots_35 rfl (lv_at hl 5 rfl) ?_
    refine zi_ge (tgt := 78) hx hb d_Mo_dots_36 (by decide) (by omega) (by omega) (by omega) (by omega) (fun c_36 => ?_) (fun c_36 => ?_)
    · refine lv_lload hx hb d_Mo_dots_78 (lv_at hl 1 rfl) ?_
      exact W.lret hx hb hr (fun t ht hW => ⟨⟨_, 1, rfl, Or.inr ⟨by omega, rfl⟩, by rw [ht]; exact hP, va_K.moved hW.alike hK, hD⟩, hS.F ht⟩) hS.2.2 d_Mo_dots_80
    · refine lv_aload_n hx hb d_Mo_dots_39 rfl (lv_at hl 2 rfl) ?_
      refine va_get (D := (dC, dI)) (ci := 6) (v := .int (iZ 1)) (C := R_Mo) (T := T_Mo) (N := 18) hx hb hts wi_Mo hown hK hP 0 rfl rfl 0 (by decide) (hts _ t_684) (fun _ h9 => h9) rfl d_Mo_dots_40 ?_
      refine zi_if_ne (tgt := 78) hx hb d_Mo_dots_43 (by decide) (by omega) (by omega) (fun c_43 => ?_) (fun c_43 => ?_)
      · refine lv_lload hx hb d_Mo_dots_78 (lv_at hl 1 rfl) ?_
        exact W.lret hx hb hr (fun t ht hW => ⟨⟨_, 1, rfl, Or.inr ⟨by omega, rfl⟩, by rw [ht]; exact hP, va_K.moved hW.alike hK, hD⟩, hS.F ht⟩) hS.2.2 d_Mo_dots_80
      · exact absurd c_43 (by omega)
  · have c_6 := of_decide_eq_false c_6
    refine lv_iload_n hx hb d_Mo_dots_9 rfl (lv_at hl 3 rfl) ?_
    refine lv_iconst (v := iZ (1)) hx hb d_Mo_dots_10 rfl ?_
    refine lv_bipush (v := iZ (64)) hx hb d_Mo_dots_11 (by decide) ?_
    refine vp_callSi (va_runS (As := [.int (iZ many), .int (iZ 1), .int (iZ 64)]) (rest := [.ref hm]) ⟨hx, hb, hml, hown, hts⟩ (c_Model_isNot l dC dI many 1 64 (by first | omega | assumption) (by first | omega | assumption) (by first | omega | assumption) (by first | omega | assumption) (by first | omega | assumption) (by first | omega | assumption)) (va_cwS 3 hts (gS t_771 t_772 t_6 t_773) rfl rfl rfl (by decide +kernel) ⟨Nat.le_of_ble_eq_true rfl, Nat.le_of_ble_eq_true rfl⟩) ⟨zPr_blind, zPr_pre hP hK [] [] rfl rfl⟩ rfl rfl hl.1 rfl (lv_room (Nat.le_of_ble_eq_true rfl)) d_Mo_dots_13 ⟨Nat.le_of_ble_eq_true rfl, Nat.le_of_ble_eq_true rfl⟩).run (fun r_13 q_13 => ?_)
    obtain rfl := q_13
    refine zb_if_eq (tgt := 23) hx hb d_Mo_dots_16 (by decide) (fun c_16 => ?_) (fun c_16 => ?_)
    · have c_16 := of_decide_eq_false c_16
      refine lv_iconst (v := iZ (0)) hx hb d_Mo_dots_23 rfl ?_
      refine va_put (D := (dC, dI)) (ci := 6) (v := .int (iZ 0)) (ty := .int) (C := R_Mo) (T := T_Mo) (N := 18) hx hb hts wi_Mo ty_Mo ty_Mo_ok nd_Mo hown hK hP hD hS 0 rfl rfl 0 (by decide) (hts _ t_684) (fun _ h9 => h9) rfl (by decide +kernel) rfl rfl (Nat.le_of_ble_eq_true rfl) d_Mo_dots_24 (fun H locs hP hD hS => ?_)
      have hP : va_P (dC, dI) vwCl [(hm, .inr (6, [.int (iZ 0), .int (iZ w), .int (iZ h), .int (iZ mn), .ref zd, .ref zb, .ref zt, .int (iZ n), .ref zs, .ref zc, .int (iZ fx), .int (iZ fy), .int (iZ fa), .int (iZ fb), .int (iZ fc), .int (iZ qr), .int (iZ fo), .ref zo])), (zd, .inl (cI, 32768, .inl (aI Dk)))] H := hP
      have hD : va_D A [(hm, .inr (6, [.int (iZ 0), .int (iZ w), .int (iZ h), .int (iZ mn), .ref zd, .ref zb, .ref zt, .int (iZ n), .ref zs, .ref zc, .int (iZ fx), .int (iZ fy), .int (iZ fa), .int (iZ fb), .int (iZ fc), .int (iZ qr), .int (iZ fo), .ref zo])), (zd, .inl (cI, 32768, .inl (aI Dk)))] := hD
      refine lv_lconst (v := lZ 0) hx hb d_Mo_dots_27 (by decide) ?_
      refine lv_lstore (lv' := [(4, .long (lZ 0)), (0, .ref hm), (1, .int (iZ x)), (2, .int (iZ y)), (3, .int (iZ many))]) hx hb d_Mo_dots_28 hl (by decide) rfl (fun ls hl => ?_)
      refine lv_iconst (v := iZ (0)) hx hb d_Mo_dots_30 rfl ?_
      refine lv_istore (lv' := [(6, .int (iZ 0)), (4, .long (lZ 0)), (0, .ref hm), (1, .int (iZ x)), (2, .int (iZ y)), (3, .int (iZ many))]) hx hb d_Mo_dots_31 hl (by decide) rfl (fun ls hl => ?_)
      have LP_33 : ∀ (n_33 : Nat) (i : Int) (acc : Int64) (k : Nat), (i = k) → (i ≤ many) → (acc = dtL (fun k => pic (x + k) y) k) → (many - i).toNat < n_33 → ∀ (H : Heap) (locs : List Loc), va_P (dC, dI) vwCl [(hm, .inr (6, [.int (iZ 0), .int (iZ w), .int (iZ h), .int (iZ mn), .ref zd, .ref zb, .ref zt, .int (iZ n), .ref zs, .ref zc, .int (iZ fx), .int (iZ fy), .int (iZ fa), .int (iZ fb), .int (iZ fc), .int (iZ qr), .int (iZ fo), .ref zo])), (zd, .inl (cI, 32768, .inl (aI Dk)))] H → va_D A [(hm, .inr (6, [.int (iZ 0), .int (iZ w), .int (iZ h), .int (iZ mn), .ref zd, .ref zb, .ref zt, .int (iZ n), .ref zs, .ref zc, .int (iZ fx), .int (iZ fy), .int (iZ fa), .int (iZ fb), .int (iZ fc), .int (iZ qr), .int (iZ fo), .ref zo])), (zd, .inl (cI, 32768, .inl (aI Dk)))] → va_S A s.heap H locs → ∀ (ls : Array Slot), lv_has ls 7 [(0, .ref hm), (1, .int (iZ x)), (2, .int (iZ y)), (3, .int (iZ many)), (4, .long acc), (6, .int (iZ i))] → W p l e ({ frames := 2, cells := 0, slots := 0, locals := 44 } : Room) s m ([.ref hm, .int (iZ x), .int (iZ y), .int (iZ many)] : List Value).toArray below meth c H locs 0 0 (MQ below (va_Ql (fun (r : Int64) (u : Int) => ((-4096 ≤ x ∧ x ≤ 4096 ∧ -4096 ≤ y ∧ y ≤ 4096 ∧ 1 ≤ many ∧ many ≤ 64) ∧ u = 0 ∧ r = dtL (fun k => pic (x + k) y) many.toNat) ∨ (¬ (-4096 ≤ x ∧ x ≤ 4096 ∧ -4096 ≤ y ∧ y ≤ 4096 ∧ 1 ≤ many ∧ many ≤ 64) ∧ u = 1)) (fun u => zB (dC, dI) vwCl [(cI, .int)] A [(hm, .inr (6, [.int (iZ u), .int (iZ w), .int (iZ h), .int (iZ mn), .ref zd, .ref zb, .ref zt, .int (iZ n), .ref zs, .ref zc, .int (iZ fx), .int (iZ fy), .int (iZ fa), .int (iZ fb), .int (iZ fc), .int (iZ qr), .int (iZ fo), .ref zo])), (zd, .inl (cI, 32768, .inl (aI Dk)))]) A) ([.ref hm, .int (iZ x), .int (iZ y), .int (iZ many)] : List Value).toArray s 0 0 A) (F0 m 33 ls []) := by
        intro n_33
        induction n_33 with
        | zero => intro i acc k i1 i2 i3 hm; exact absurd hm (by omega)
        | succ n_33 ih_33 =>
          intro i acc k i1 i2 i3 hm_33 H locs hP hD hS ls hl
          refine lv_iload hx hb d_Mo_dots_33 (lv_at hl 5 rfl) ?_
          refine lv_iload_n hx hb d_Mo_dots_35 rfl (lv_at hl 3 rfl) ?_
          refine zi_ge (tgt := 78) hx hb d_Mo_dots_36 (by decide) (by omega) (by omega) (by omega) (by omega) (fun c_36 => ?_) (fun c_36 => ?_)
          · refine lv_lload hx hb d_Mo_dots_78 (lv_at hl 4 rfl) ?_
            exact W.lret hx hb hr (fun t ht hW => ⟨⟨_, 0, rfl, Or.inl ⟨by omega, rfl, by rw [i3, show many.toNat = k by omega]⟩, by rw [ht]; exact hP, va_K.moved hW.alike hK, hD⟩, hS.F ht⟩) hS.2.2 d_Mo_dots_80
          · refine lv_aload_n hx hb d_Mo_dots_39 rfl (lv_at hl 0 rfl) ?_
            refine va_get (D := (dC, dI)) (ci := 6) (v := .int (iZ 0)) (C := R_Mo) (T := T_Mo) (N := 18) hx hb hts wi_Mo hown hK hP 0 rfl rfl 0 (by decide) (hts _ t_684) (fun _ h9 => h9) rfl d_Mo_dots_40 ?_
            refine zi_if_ne (tgt := 78) hx hb d_Mo_dots_43 (by decide) (by omega) (by omega) (fun c_43 => ?_) (fun c_43 => ?_)
            · exact absurd c_43 (by omega)
            · refine lv_ldc2 (v := lZ (2)) hx hb hown (hts _ t_799) d_Mo_dots_46 ?_
              refine lv_lload hx hb d_Mo_dots_49 (lv_at hl 4 rfl) ?_
              refine lv_lmul hx hb d_Mo_dots_51 ?_
              refine lv_aload_n hx hb d_Mo_dots_52 rfl (lv_at hl 0 rfl) ?_
              refine lv_iload_n hx hb d_Mo_dots_53 rfl (lv_at hl 1 rfl) ?_
              refine lv_iload hx hb d_Mo_dots_54 (lv_at hl 5 rfl) ?_
              refine zi_add hx hb d_Mo_dots_56 ?_
              refine lv_iload_n hx hb d_Mo_dots_57 rfl (lv_at hl 2 rfl) ?_
              refine vp_callSi (va_runV (As := [.int (iZ (x + i)), .int (iZ y)]) (rest := [.long (lZ 2 * acc)]) ⟨hx, hb, hml, hown, hts⟩ (c_Model_isDark l dC dI hm zd zb zt zs zc zo 0 w h mn n fx fy fa fb fc qr fo cI Dk pic (x + i) y (by first | omega | assumption) (by first | omega | assumption) (by first | omega | assumption) (by first | omega | assumption) (by first | omega | assumption) (by first | omega | assumption) (by first | omega | assumption) (by first | omega | assumption) (by first | omega | assumption) (by first | omega | assumption)) (cwV 2 hts (gV t_827 t_829 s_27 t_6 t_830) rfl rfl rfl (by decide +kernel) ⟨Nat.le_of_ble_eq_true rfl, Nat.le_of_ble_eq_true rfl⟩) ⟨zPr_blind, va_recv hK hP (ci := 6) (q0 := 0) rfl rfl, zPr_pre hP hK [0, 1] [0] rfl rfl⟩ rfl rfl hl.1 rfl (lv_room (Nat.le_of_ble_eq_true rfl)) d_Mo_dots_58 ⟨Nat.le_of_ble_eq_true rfl, Nat.le_of_ble_eq_true rfl⟩).run (fun r_58 q_58 => ?_)
              obtain rfl := q_58
              refine zb_if_eq (tgt := 68) hx hb d_Mo_dots_61 (by decide) (fun c_61 => ?_) (fun c_61 => ?_)
              · refine lv_lconst (v := lZ 0) hx hb d_Mo_dots_68 (by decide) ?_
                refine lv_ladd hx hb d_Mo_dots_69 ?_
                refine lv_topl (fun v4_70 e_v4_70 => ?_)
                refine lv_lstore (lv' := [(4, .long v4_70), (0, .ref hm), (1, .int (iZ x)), (2, .int (iZ y)), (3, .int (iZ many)), (6, .int (iZ i))]) hx hb d_Mo_dots_70 hl (by decide) rfl (fun ls hl => ?_)
                refine lv_iinc (v := iZ (i + 1)) (lv' := [(6, .int (iZ (i + 1))), (4, .long v4_70), (0, .ref hm), (1, .int (iZ x)), (2, .int (iZ y)), (3, .int (iZ many))]) hx hb d_Mo_dots_72 hl (k := 5) rfl (iZ_add _ _) (by decide) rfl (fun ls hl => ?_)
                refine lv_goto (tgt := 33) hx hb d_Mo_dots_75 (by decide) ?_
                exact ih_33 (i + 1) v4_70 (k + 1) (by omega) (by omega) (by rw [e_v4_70, i3]; show _ = lZ 2 * dtL _ k + (if pic (x + (k : Int)) y then _ else _); rw [← i1, c_61]; rfl) (by omega) _ _ hP hD hS ls (lv_sub hl [2, 3, 4, 5, 1, 0] rfl)
              · refine lv_lconst (v := lZ 1) hx hb d_Mo_dots_64 (by decide) ?_
                refine lv_goto (tgt := 69) hx hb d_Mo_dots_65 (by decide) ?_
                refine lv_ladd hx hb d_Mo_dots_69 ?_
                refine lv_topl (fun v4_70 e_v4_70 => ?_)
                refine lv_lstore (lv' := [(4, .long v4_70), (0, .ref hm), (1, .int (iZ x)), (2, .int (iZ y)), (3, .int (iZ many)), (6, .int (iZ i))]) hx hb d_Mo_dots_70 hl (by decide) rfl (fun ls hl => ?_)
                refine lv_iinc (v := iZ (i + 1)) (lv' := [(6, .int (iZ (i + 1))), (4, .long v4_70), (0, .ref hm), (1, .int (iZ x)), (2, .int (iZ y)), (3, .int (iZ many))]) hx hb d_Mo_dots_72 hl (k := 5) rfl (iZ_add _ _) (by decide) rfl (fun ls hl => ?_)
                refine lv_goto (tgt := 33) hx hb d_Mo_dots_75 (by decide) ?_
                exact ih_33 (i + 1) v4_70 (k + 1) (by omega) (by omega) (by rw [e_v4_70, i3]; show _ = lZ 2 * dtL _ k + (if pic (x + (k : Int)) y then _ else _); rw [← i1, c_61]; rfl) (by omega) _ _ hP hD hS ls (lv_sub hl [2, 3, 4, 5, 1, 0] rfl)
      exact LP_33 _ 0 (lZ 0) 0 (rfl) (by omega) (rfl) (Nat.lt_succ_self _) _ _ hP hD hS ls (lv_sub hl [2, 3, 4, 5, 1, 0] rfl)
    · have c_16 := of_decide_eq_true c_16
      refine lv_iconst (v := iZ (1)) hx hb d_Mo_dots_19 rfl ?_
      refine lv_goto (tgt := 24) hx hb d_Mo_dots_20 (by decide) ?_
      refine va_put (D := (dC, dI)) (ci := 6) (v := .int (iZ 1)) (ty := .int) (C := R_Mo) (T := T_Mo) (N := 18) hx hb hts wi_Mo ty_Mo ty_Mo_ok nd_Mo hown hK hP hD hS 0 rfl rfl 0 (by decide) (hts _ t_684) (fun _ h9 => h9) rfl (by decide +kernel) rfl rfl (Nat.le_of_ble_eq_true rfl) d_Mo_dots_24 (fun H locs hP hD hS => ?_)
      have hP : va_P (dC, dI) vwCl [(hm, .inr (6, [.int (iZ 1), .int (iZ w), .int (iZ h), .int (iZ mn), .ref zd, .ref zb, .ref zt, .int (iZ n), .ref zs, .ref zc, .int (iZ fx), .int (iZ fy), .int (iZ fa), .int (iZ fb), .int (iZ fc), .int (iZ qr), .int (iZ fo), .ref zo])), (zd, .inl (cI, 32768, .inl (aI Dk)))] H := hP
      have hD : va_D A [(hm, .inr (6, [.int (iZ 1), .int (iZ w), .int (iZ h), .int (iZ mn), .ref zd, .ref zb, .ref zt, .int (iZ n), .ref zs, .ref zc, .int (iZ fx), .int (iZ fy), .int (iZ fa), .int (iZ fb), .int (iZ fc), .int (iZ qr), .int (iZ fo), .ref zo])), (zd, .inl (cI, 32768, .inl (aI Dk)))] := hD
      refine lv_lconst (v := lZ 0) hx hb d_Mo_dots_27 (by decide) ?_
      refine lv_lstore (lv' := [(4, .long (lZ 0)), (0, .ref hm), (1, .int (iZ x)), (2, .int (iZ y)), (3, .int (iZ many))]) hx hb d_Mo_dots_28 hl (by decide) rfl (fun ls hl => ?_)
      refine lv_iconst (v := iZ (0)) hx hb d_Mo_dots_30 rfl ?_
      refine lv_istore (lv' := [(6, .int (iZ 0)), (4, .long (lZ 0)), (0, .ref hm), (1, .int (iZ x)), (2, .int (iZ y)), (3, .int (iZ many))]) hx hb d_Mo_dots_31 hl (by decide) rfl (fun ls hl => ?_)
      refine lv_iload hx hb d_Mo_dots_33 (lv_at hl 0 rfl) ?_
      refine lv_iload_n hx hb d_Mo_dots_35 rfl (lv_at hl 5 rfl) ?_
      refine zi_ge (tgt := 78) hx hb d_Mo_dots_36 (by decide) (by omega) (by omega) (by omega) (by omega) (fun c_36 => ?_) (fun c_36 => ?_)
      · refine lv_lload hx hb d_Mo_dots_78 (lv_at hl 1 rfl) ?_
        exact W.lret hx hb hr (fun t ht hW => ⟨⟨_, 1, rfl, Or.inr ⟨by omega, rfl⟩, by rw [ht]; exact hP, va_K.moved hW.alike hK, hD⟩, hS.F ht⟩) hS.2.2 d_Mo_dots_80
      · refine lv_aload_n hx hb d_Mo_dots_39 rfl (lv_at hl 2 rfl) ?_
        refine va_get (D := (dC, dI)) (ci := 6) (v := .int (iZ 1)) (C := R_Mo) (T := T_Mo) (N := 18) hx hb hts wi_Mo hown hK hP 0 rfl rfl 0 (by decide) (hts _ t_684) (fun _ h9 => h9) rfl d_Mo_dots_40 ?_
        refine zi_if_ne (tgt := 78) hx hb d_Mo_dots_43 (by decide) (by omega) (by omega) (fun c_43 => ?_) (fun c_43 => ?_)
        · refine lv_lload hx hb d_Mo_dots_78 (lv_at hl 1 rfl) ?_
          exact W.lret hx hb hr (fun t ht hW => ⟨⟨_, 1, rfl, Or.inr ⟨by omega, rfl⟩, by rw [ht]; exact hP, va_K.moved hW.alike hK, hD⟩, hS.F ht⟩) hS.2.2 d_Mo_dots_80
        · exact absurd c_43 (by omega)
