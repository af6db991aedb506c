/-! draw: what a segment adds to a pixel, as Int -/
def icl (t l r : Int) : Int := if t ≤ l then l else if r ≤ t then r else t
def iW (s a b p : Int) : Int := if p + s ≤ (if b ≤ a then b else a) then 2 * s else if p ≤ (if b ≤ a then b else a) then a + b - 2 * p else 0
def iT (s : Int) (c : Int → Int) (p l r : Int) : Int := 2 * s * (c r - c (icl (p + s) l r)) + (c (icl (p + s) l r) - c (icl p l r)) * (icl p l r + icl (p + s) l r - 2 * p)
theorem cl_lo {t l r : Int} (h : t ≤ l) : icl t l r = l := if_pos h
theorem cl_hi {t l r : Int} (h : r ≤ t) (hl : l ≤ r) : icl t l r = r := by
  unfold icl
  rw [if_pos h]
  split <;> omega
theorem cl_md {t l r : Int} (h1 : l ≤ t) (h2 : t ≤ r) : icl t l r = t := by
  unfold icl
  split
  · omega
  · split <;> omega
theorem cl_same {t l m r : Int} (h1 : l ≤ m) (h2 : m ≤ r) (h : m ≤ t) : icl t l r = icl t m r := by
  unfold icl
  repeat' split
  all_goals omega
theorem cl_same2 {t l m r : Int} (h1 : l ≤ m) (h2 : m ≤ r) (h : t ≤ m) : icl t l r = icl t l m := by
  unfold icl
  repeat' split
  all_goals omega
theorem iT_0 {s : Int} (hs : 0 < s) {c : Int → Int} {p l r : Int} (hlr : l ≤ r) (h : r ≤ p) : iT s c p l r = 0 := by
  unfold iT
  rw [cl_hi h hlr, cl_hi (by omega) hlr, Int.sub_self, Int.mul_zero, Int.zero_mul]
  rfl
theorem iT_2 {s : Int} (hs : 0 < s) {c : Int → Int} {p l r : Int} (h : p + s ≤ l) : iT s c p l r = 2 * s * (c r - c l) := by
  unfold iT
  rw [cl_lo h, cl_lo (by omega), Int.sub_self, Int.zero_mul, Int.add_zero]
theorem iT_add {s : Int} (hs : 0 < s) {c : Int → Int} {p l m r : Int} (h1 : l ≤ m) (h2 : m ≤ r) (h : m ≤ p ∨ p + s ≤ m) : iT s c p l r = iT s c p l m + iT s c p m r := by
  rcases h with h | h
  · rw [iT_0 hs h1 h, Int.zero_add]
    unfold iT
    rw [cl_same h1 h2 h, cl_same h1 h2 (show m ≤ p + s by omega)]
  · rw [iT_2 (l := m) hs h]
    unfold iT
    rw [cl_same2 h1 h2 h, cl_same2 h1 h2 (show p ≤ m by omega), show c r - c (icl (p + s) l m) = (c m - c (icl (p + s) l m)) + (c r - c m) by omega, Int.mul_add]
    omega
theorem iT_one {s : Int} (hs : 0 < s) {c : Int → Int} {p q a m : Int} (h1 : a < m) (hq : q ≤ a) (hm : m ≤ q + s) (h : p + s ≤ q ∨ p = q ∨ q + s ≤ p) : iT s c p a m = (c m - c a) * iW s a m p := by
  have e : (if m ≤ a then m else a) = a := if_neg (by omega)
  unfold iW
  rw [e]
  rcases h with h | h | h
  · rw [iT_2 hs (by omega), if_pos (by omega), Int.mul_comm]
  · subst h
    rw [if_neg (by omega), if_pos hq]
    unfold iT
    rw [cl_lo hq, cl_hi (t := p + s) hm (by omega), Int.sub_self, Int.mul_zero, Int.zero_add]
  · rw [iT_0 hs (by omega) (by omega), if_neg (by omega), if_neg (by omega), Int.mul_zero]
theorem iW_comm (s a b p : Int) : iW s a b p = iW s b a p := by
  unfold iW
  have e : (if b ≤ a then b else a) = (if a ≤ b then a else b) := by split <;> split <;> omega
  rw [e, Int.add_comm a b]
/-- a multiple of the side, against another -/
theorem col_cmp {s : Int} (hs : 0 < s) (a k : Int) : k * s + s ≤ a / s * s ∨ k * s = a / s * s ∨ a / s * s + s ≤ k * s := by
  rcases Int.lt_trichotomy k (a / s) with h | h | h
  · have := Int.mul_le_mul_of_nonneg_right (show k + 1 ≤ a / s by omega) (Int.le_of_lt hs)
    rw [Int.add_mul, Int.one_mul] at this
    exact Or.inl this
  · rw [h]; exact Or.inr (Or.inl rfl)
  · have := Int.mul_le_mul_of_nonneg_right (show a / s + 1 ≤ k by omega) (Int.le_of_lt hs)
    rw [Int.add_mul, Int.one_mul] at this
    exact Or.inr (Or.inr this)
theorem iW_col {s : Int} (hs : 0 < s) (a b k : Int) : iW s a b (k * s) = (if k < (if b ≤ a then b else a) / s then 2 * s else if k = (if b ≤ a then b else a) / s then a + b - 2 * (k * s) else 0) := by
  unfold iW
  generalize (if b ≤ a then b else a) = w
  have hd := div_lo w hs
  rcases Int.lt_trichotomy k (w / s) with h | h | h
  · have := Int.mul_le_mul_of_nonneg_right (show k + 1 ≤ w / s by omega) (Int.le_of_lt hs)
    rw [Int.add_mul, Int.one_mul] at this
    rw [if_pos (by omega), if_pos h]
  · subst h
    rw [if_neg (by omega), if_pos (by omega), if_neg (by omega), if_pos rfl]
  · have := Int.mul_le_mul_of_nonneg_right (show w / s + 1 ≤ k by omega) (Int.le_of_lt hs)
    rw [Int.add_mul, Int.one_mul] at this
    rw [if_neg (by omega), if_neg (by omega), if_neg (by omega), if_neg (by omega)]
/-- rows: only the piece in row p counts -/
def iU (s : Int) (Q : Int → Int → Int) (p l r : Int) : Int := Q (icl p l r) (icl (p + s) l r)
theorem iU_0 {s : Int} (hs : 0 < s) {Q : Int → Int → Int} (h0 : ∀ a, Q a a = 0) {p l r : Int} (hlr : l ≤ r) (h : r ≤ p) : iU s Q p l r = 0 := by
  unfold iU
  rw [cl_hi h hlr, cl_hi (by omega) hlr, h0]
theorem iU_2 {s : Int} (hs : 0 < s) {Q : Int → Int → Int} (h0 : ∀ a, Q a a = 0) {p l r : Int} (h : p + s ≤ l) : iU s Q p l r = 0 := by
  unfold iU
  rw [cl_lo h, cl_lo (by omega), h0]
theorem iU_add {s : Int} (hs : 0 < s) {Q : Int → Int → Int} (h0 : ∀ a, Q a a = 0) {p l m r : Int} (h1 : l ≤ m) (h2 : m ≤ r) (h : m ≤ p ∨ p + s ≤ m) : iU s Q p l r = iU s Q p l m + iU s Q p m r := by
  rcases h with h | h
  · rw [iU_0 hs h0 h1 h, Int.zero_add]
    unfold iU
    rw [cl_same h1 h2 h, cl_same h1 h2 (show m ≤ p + s by omega)]
  · rw [iU_2 (l := m) hs h0 h, Int.add_zero]
    unfold iU
    rw [cl_same2 h1 h2 h, cl_same2 h1 h2 (show p ≤ m by omega)]
theorem iU_one {s : Int} (hs : 0 < s) {Q : Int → Int → Int} (h0 : ∀ a, Q a a = 0) {p q a m : Int} (h1 : a ≤ m) (hq : q ≤ a) (hm : m ≤ q + s) (h : p + s ≤ q ∨ p = q ∨ q + s ≤ p) : iU s Q p a m = if p = q then Q a m else 0 := by
  rcases h with h | h | h
  · rw [iU_2 hs h0 (by omega), if_neg (by omega)]
  · subst h
    rw [if_pos rfl]
    unfold iU
    rw [cl_lo hq, cl_hi (t := p + s) hm (by omega)]
  · rw [iU_0 hs h0 (by omega) (by omega), if_neg (by omega)]
theorem kI_add (a b : Int) : kI (a + b) = kI a + kI b := Int32.ofInt_add a b
theorem kI_mul (a b : Int) : kI (a * b) = kI a * kI b := Int32.ofInt_mul a b
theorem kI_neg (a : Int) : kI (-a) = -kI a := Int32.ofInt_neg a
theorem kI_sub (a b : Int) : kI (a - b) = kI a - kI b := Int32.ofInt_sub a b
theorem kI_of (x : Int32) : kI x.toInt = x := Int32.ofInt_toInt x
theorem kI_nI (n : Nat) : kI (n : Int) = nI n := rfl
theorem al_inj {al j k j2 k2 : Nat} (hk : k < al) (hk2 : k2 < al) : (al * j + k = al * j2 + k2) = (j = j2 ∧ k = k2) := by
  apply propext
  constructor
  · intro h
    rcases Nat.lt_trichotomy j j2 with c | c | c
    · have := Nat.mul_le_mul_left al (show j + 1 ≤ j2 by omega)
      rw [Nat.mul_add, Nat.mul_one] at this
      omega
    · subst c; exact ⟨rfl, by omega⟩
    · have := Nat.mul_le_mul_left al (show j2 + 1 ≤ j by omega)
      rw [Nat.mul_add, Nat.mul_one] at this
      omega
  · rintro ⟨rfl, rfl⟩; rfl
