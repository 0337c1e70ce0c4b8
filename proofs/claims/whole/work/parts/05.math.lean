/-! counting dots, drawing figures -/
def cR (P : Int → Bool) : Nat → Int
  | 0 => 0
  | n + 1 => cR P n + (if P n then 1 else 0)
def sR (f : Int → Int) : Nat → Int
  | 0 => 0
  | n + 1 => sR f n + f n
theorem cR_ext {P Q : Int → Bool} : ∀ {n : Nat}, (∀ x : Int, 0 ≤ x → x < n → P x = Q x) → cR P n = cR Q n
  | 0, _ => rfl
  | n + 1, h => by
    show cR P n + _ = cR Q n + _
    rw [cR_ext (n := n) (fun x h1 h2 => h x h1 (by omega)), h n (by omega) (by omega)]
theorem sR_ext {f g : Int → Int} : ∀ {n : Nat}, (∀ y : Int, 0 ≤ y → y < n → f y = g y) → sR f n = sR g n
  | 0, _ => rfl
  | n + 1, h => by
    show sR f n + _ = sR g n + _
    rw [sR_ext (n := n) (fun x h1 h2 => h x h1 (by omega)), h n (by omega) (by omega)]
theorem cR_no {P : Int → Bool} : ∀ {n : Nat}, (∀ x : Int, 0 ≤ x → x < n → P x = false) → cR P n = 0
  | 0, _ => rfl
  | n + 1, h => by
    show cR P n + _ = 0
    rw [cR_no (n := n) (fun x h1 h2 => h x h1 (by omega)), h n (by omega) (by omega)]; rfl
theorem sR_no {f : Int → Int} : ∀ {n : Nat}, (∀ y : Int, 0 ≤ y → y < n → f y = 0) → sR f n = 0
  | 0, _ => rfl
  | n + 1, h => by
    show sR f n + _ = 0
    rw [sR_no (n := n) (fun x h1 h2 => h x h1 (by omega)), h n (by omega) (by omega)]; rfl
theorem cR_in (P : Int → Bool) : ∀ n : Nat, 0 ≤ cR P n ∧ cR P n ≤ n
  | 0 => ⟨Int.le_refl 0, Int.le_refl 0⟩
  | n + 1 => by
    have h := cR_in P n
    show 0 ≤ cR P n + _ ∧ cR P n + _ ≤ _
    split <;> omega
theorem sR_in {f : Int → Int} {b : Int} : ∀ {n : Nat}, (∀ y : Int, 0 ≤ y → y < n → 0 ≤ f y ∧ f y ≤ b) → 0 ≤ sR f n ∧ sR f n ≤ n * b
  | 0, _ => ⟨Int.le_refl 0, by show (0 : Int) ≤ ((0 : Nat) : Int) * b; omega⟩
  | n + 1, h => by
    have h1 := sR_in (n := n) (fun y h1 h2 => h y h1 (by omega))
    have h2 := h n (by omega) (by omega)
    show 0 ≤ sR f n + _ ∧ sR f n + _ ≤ _
    rw [show ((n + 1 : Nat) : Int) * b = (n : Int) * b + b by rw [Int.natCast_add, Int.add_mul]; omega]
    omega
theorem cR_or {P Q : Int → Bool} : ∀ {n : Nat}, (∀ x : Int, 0 ≤ x → x < n → P x = true → Q x = false) → cR (fun x => P x || Q x) n = cR P n + cR Q n
  | 0, _ => rfl
  | n + 1, h => by
    show cR (fun x => P x || Q x) n + _ = cR P n + _ + (cR Q n + _)
    rw [cR_or (n := n) (fun x h1 h2 => h x h1 (by omega))]
    have h9 := h n (by omega) (by omega)
    cases hp : P n
    · simp [hp]; omega
    · simp [hp, h9 hp]; omega
theorem sR_add {f g : Int → Int} : ∀ {n : Nat}, sR (fun y => f y + g y) n = sR f n + sR g n
  | 0 => rfl
  | n + 1 => by
    show sR (fun y => f y + g y) n + (f n + g n) = sR f n + f n + (sR g n + g n)
    rw [sR_add (n := n)]; omega
/-- an interval's numbers below n -/
theorem cR_iv (a b : Int) : ∀ n : Nat, cR (fun x => decide (a ≤ x ∧ x ≤ b)) n = max 0 (min b (n - 1) - max a 0 + 1)
  | 0 => by show (0 : Int) = _; omega
  | n + 1 => by
    show cR _ n + _ = _
    rw [cR_iv a b n]
    by_cases h : a ≤ (n : Int) ∧ (n : Int) ≤ b
    · rw [if_pos (decide_eq_true h)]; omega
    · rw [if_neg (show ¬ decide (a ≤ (n : Int) ∧ (n : Int) ≤ b) = true by rw [decide_eq_false h]; decide)]; omega
def cnt (w h : Int) (S : Int → Int → Bool) : Int := sR (fun y => cR (fun x => S x y) w.toNat) h.toNat
def onB (w h x y : Int) : Bool := decide (0 ≤ x ∧ x < w ∧ 0 ≤ y ∧ y < h)
def flB (mn : Int) (b : Bool) : Bool := if mn = 0 then true else if mn = 1 then false else !b
def drw (mn : Int) (S : Int → Int → Bool) (pic : Int → Int → Bool) : Int → Int → Bool := fun x y => if S x y then flB mn (pic x y) else pic x y
theorem drw_ext {mn : Int} {S T : Int → Int → Bool} {pic : Int → Int → Bool} (h : ∀ x y, S x y = T x y) : drw mn S pic = drw mn T pic := by
  have : S = T := by funext x y; exact h x y
  rw [this]
theorem drw_or {mn : Int} {S T : Int → Int → Bool} {pic : Int → Int → Bool} (h : ∀ x y, S x y = true → T x y = false) : drw mn T (drw mn S pic) = drw mn (fun x y => S x y || T x y) pic := by
  funext x y
  unfold drw
  cases hs : S x y
  · simp [hs]
  · simp [hs, h x y hs]
theorem drw_no {mn : Int} {S : Int → Int → Bool} {pic : Int → Int → Bool} (h : ∀ x y, S x y = false) : drw mn S pic = pic := by
  funext x y
  unfold drw
  simp [h x y]
theorem cnt_ext {w h : Int} {S T : Int → Int → Bool} (q : ∀ x y, 0 ≤ x → x < w → 0 ≤ y → y < h → S x y = T x y) : cnt w h S = cnt w h T :=
  sR_ext (fun y h1 h2 => cR_ext (fun x h3 h4 => q x y h3 (by omega) h1 (by omega)))
theorem cnt_or {w h : Int} {S T : Int → Int → Bool} (q : ∀ x y, 0 ≤ x → x < w → 0 ≤ y → y < h → S x y = true → T x y = false) : cnt w h (fun x y => S x y || T x y) = cnt w h S + cnt w h T := by
  unfold cnt
  rw [← sR_add]
  exact sR_ext (fun y h1 h2 => cR_or (fun x h3 h4 => q x y h3 (by omega) h1 (by omega)))
theorem cnt_no {w h : Int} {S : Int → Int → Bool} (q : ∀ x y, 0 ≤ x → x < w → 0 ≤ y → y < h → S x y = false) : cnt w h S = 0 :=
  sR_no (fun y h1 h2 => cR_no (fun x h3 h4 => q x y h3 (by omega) h1 (by omega)))
theorem cnt_in {w h : Int} (S : Int → Int → Bool) (w0 : 0 ≤ w) (w1 : w ≤ 1024) (h0 : 0 ≤ h) (h1 : h ≤ 1024) : 0 ≤ cnt w h S ∧ cnt w h S ≤ 1048576 := by
  have q := sR_in (f := fun y => cR (fun x => S x y) w.toNat) (b := 1024) (n := h.toNat) (fun y _ _ => by have := cR_in (fun x => S x y) w.toNat; omega)
  unfold cnt
  omega
/-- the picture that words hold: dot (x, y) is bit x % 64 of word y 16 + x / 64 -/
def Rep (G : Int → Int64) (pic : Int → Int → Bool) : Prop := ∀ x y : Int, 0 ≤ x → x < 1024 → 0 ≤ y → y < 1024 → bitZ (G (y * 16 + x / 64)) (x % 64) = pic x y
/-- dots that lie not on the sheet are light -/
def Off (w h : Int) (pic : Int → Int → Bool) : Prop := ∀ x y : Int, onB w h x y = false → pic x y = false
def bxB (l t r b x y : Int) : Bool := decide (l ≤ x ∧ x ≤ r ∧ t ≤ y ∧ y ≤ b)
/-! squares and powers of two -/
theorem sq_nn (a : Int) : 0 ≤ a * a := by
  rcases Int.le_total 0 a with h | h
  · exact Int.mul_nonneg h h
  · exact Int.mul_nonneg_of_nonpos_of_nonpos h h
theorem sq_le {a b : Int} (h0 : 0 ≤ a) (h : a ≤ b) : a * a ≤ b * b := Int.mul_le_mul h h h0 (Int.le_trans h0 h)
theorem sq_lt {a b n : Int} (_ : 0 ≤ a) (h1 : a * a ≤ n) (h2 : n < b * b) (hb : 0 ≤ b) : a < b := by
  rcases Int.lt_or_le a b with h | h
  · exact h
  · have := sq_le hb h; omega
def pow2 (b : Int) : Prop := ∃ j : Nat, b = 2 ^ j
theorem pow2_pos {b : Int} (h : pow2 b) : 1 ≤ b := by
  obtain ⟨j, rfl⟩ := h
  have : (0 : Int) < 2 ^ j := Int.pow_pos (by decide)
  omega
theorem pow2_even {b : Int} (h : pow2 b) (h2 : 2 ≤ b) : 2 * (b / 2) = b := by
  obtain ⟨j, rfl⟩ := h
  cases j with
  | zero => exact absurd h2 (by decide)
  | succ j => rw [Int.pow_succ]; omega
theorem pow2_half {b : Int} (h : pow2 b) (h2 : 2 ≤ b) : pow2 (b / 2) := by
  obtain ⟨j, rfl⟩ := h
  cases j with
  | zero => exact absurd h2 (by decide)
  | succ j => exact ⟨j, by rw [Int.pow_succ]; omega⟩
