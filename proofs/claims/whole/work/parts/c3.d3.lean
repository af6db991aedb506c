/-! draw: the reference's across and line, as Int -/
theorem iR_0 {b : Int} (hb : 0 < b) : iR 0 b = 0 := by
  have h1 : 0 ≤ iR 0 b := iR_lo hb (by omega)
  have h2 : iR 0 b ≤ 0 := iR_hi hb (by omega)
  omega
theorem iA_p {a b p q : Int} (h : p ≠ q) : iA a b p q p = a := by
  rcases Int.lt_or_gt_of_ne h with h | h
  · rw [iA_up h, Int.sub_self, Int.mul_zero, iR_0 (by omega), Int.add_zero]
  · rw [iA_dn h]
    have e := iR_shift (a := 0) (b := p - q) (k := a - b) (by omega)
    rw [Int.zero_add, iR_0 (by omega), Int.zero_add, Int.mul_comm] at e
    rw [e]; omega
theorem iA_sym (a b p q : Int) (h : p ≠ q) : iA b a q p = iA a b p q := by
  funext m
  rcases Int.lt_or_gt_of_ne h with h | h
  · rw [iA_dn h, iA_up h]
  · rw [iA_dn h, iA_up h]
theorem iA_q {a b p q : Int} (h : p ≠ q) : iA a b p q q = b := by
  rw [← iA_sym a b p q h, iA_p (Ne.symm h)]
theorem iA_c {a p q m : Int} (h : p ≠ q) : iA a a p q m = a := by
  rcases Int.lt_or_gt_of_ne h with h | h
  · rw [iA_up h, Int.sub_self, Int.zero_mul, iR_0 (by omega), Int.add_zero]
  · rw [iA_dn h, Int.sub_self, Int.zero_mul, iR_0 (by omega), Int.add_zero]
theorem iT_rr (s : Int) (c : Int → Int) (p r : Int) : iT s c p r r = 0 := by
  have h : ∀ t, icl t r r = r := fun t => by unfold icl; repeat' split <;> omega
  unfold iT
  rw [h, h, Int.sub_self, Int.mul_zero, Int.zero_mul, Int.add_zero]
theorem iT_c {s : Int} {c : Int → Int} {v : Int} (h : ∀ t, c t = v) (p l r : Int) : iT s c p l r = 0 := by
  unfold iT
  rw [h, h, h, Int.sub_self, Int.mul_zero, Int.zero_mul, Int.add_zero]
def iF (s x y x1 y1 p : Int) : Int := if x = x1 then (y1 - y) * iW s x x1 p else if x < x1 then iT s (iA y y1 x x1) p x x1 else - iT s (iA y y1 x x1) p x1 x
theorem iF_neg (s x y x1 y1 p : Int) : iF s x1 y1 x y p = - iF s x y x1 y1 p := by
  unfold iF
  by_cases h : x = x1
  · subst h
    rw [if_pos rfl, if_pos rfl, ← Int.neg_mul]
    congr 1
    omega
  · rw [if_neg h, if_neg (fun z => h z.symm), iA_sym y y1 x x1 h]
    by_cases h2 : x < x1
    · rw [if_pos h2, if_neg (by omega)]
    · rw [if_neg h2, if_pos (by omega), Int.neg_neg]
theorem iF_0 (s x x1 y p : Int) : iF s x y x1 y p = 0 := by
  unfold iF
  by_cases h : x = x1
  · rw [if_pos h, Int.sub_self, Int.zero_mul]
  · rw [if_neg h]
    have := iT_c (s := s) (fun t => iA_c (a := y) (m := t) h) p
    split
    · exact this _ _
    · rw [this]; rfl
theorem tm_nn_i {u u1 p p1 k : Int32} (hu : iB 1000000 u) (hu1 : iB 1000000 u1) (hp : iB 1000000 p) (hp1 : iB 1000000 p1) (hk : p.toInt < p1.toInt ∧ p.toInt ≤ k.toInt ∧ k.toInt ≤ p1.toInt ∨ p1.toInt < p.toInt ∧ p1.toInt ≤ k.toInt ∧ k.toInt ≤ p.toInt) : (tm_nn u u1 p p1 k).toInt = iA u.toInt u1.toInt p.toInt p1.toInt k.toInt := by
  unfold tm_nn
  split
  · next h => rw [h, iA_q (by omega)]
  · exact tm_att_i hu hu1 hp hp1 hk
theorem iN_up {s a b : Int} (hs : 0 < s) (h : a < b) : ∃ m, iN s a b = m ∧ a < m ∧ m ≤ b ∧ m ≤ a / s * s + s ∧ (m = b ∨ m = (a / s + 1) * s) := by
  have hd := div_lo a hs
  have e : (a / s + 1) * s = a / s * s + s := by rw [Int.add_mul, Int.one_mul]
  refine ⟨_, rfl, ?_⟩
  unfold iN
  rw [if_neg (by omega), if_pos h]
  split <;> omega
theorem iN_dn {s a b : Int} (hs : 0 < s) (h : b < a) : ∃ m, iN s a b = m ∧ m < a ∧ b ≤ m ∧ (-(-a / s) - 1) * s ≤ m ∧ a ≤ (-(-a / s) - 1) * s + s ∧ (m = b ∨ m = (-(-a / s) - 1) * s) := by
  have hd := div_lo (-a) hs
  have e : (-(-a / s) - 1) * s = -(-a / s * s) - s := by rw [Int.sub_mul, Int.one_mul, Int.neg_mul]
  refine ⟨_, rfl, ?_⟩
  unfold iN
  rw [if_neg (by omega), if_neg (by omega)]
  split <;> omega
theorem mult_cmp {s : Int} (hs : 0 < s) (k q : Int) : q * s ≤ k * s ∨ k * s + s ≤ q * s := by
  rcases Int.lt_or_le k q with h | h
  · have := Int.mul_le_mul_of_nonneg_right (show k + 1 ≤ q by omega) (Int.le_of_lt hs)
    rw [Int.add_mul, Int.one_mul] at this
    exact Or.inr this
  · exact Or.inl (Int.mul_le_mul_of_nonneg_right h (Int.le_of_lt hs))
theorem mult_cmp3 {s : Int} (hs : 0 < s) (k q : Int) : k * s + s ≤ q * s ∨ k * s = q * s ∨ q * s + s ≤ k * s := by
  rcases mult_cmp hs k q with h | h
  · rcases mult_cmp hs q k with h2 | h2
    · exact Or.inr (Or.inl (by omega))
    · exact Or.inr (Or.inr h2)
  · exact Or.inl h
theorem div_is {s j b : Int} (hs : 0 < s) (h1 : j * s ≤ b) (h2 : b < j * s + s) : b / s = j := by
  have hd := div_lo b hs
  rcases mult_cmp3 hs j (b / s) with h | h | h
  · omega
  · exact (Int.eq_of_mul_eq_mul_right (by omega) h).symm
  · omega
/-- a piece inside row j0 -/
theorem cov_row {s j j0 b n w : Int} (hs : 0 < s) (hb : j0 * s ≤ b ∧ b ≤ j0 * s + s) (hn : j0 * s ≤ n ∧ n ≤ j0 * s + s) : (if j = (if n ≤ b then n else b) / s then (n - b) * w else 0) = if j = j0 then (n - b) * w else 0 := by
  by_cases h : n = b
  · subst h
    rw [Int.sub_self, Int.zero_mul, ite_self, ite_self]
  · rw [div_is hs (j := j0) (by split <;> omega) (by split <;> omega)]
theorem add_if (G : Int32) (P : Prop) [Decidable P] (a b : Int) : G + kI (if P then a else 0) + kI (if P then b else 0) = G + kI (if P then a + b else 0) := by
  rw [Int32.add_assoc, ← kI_add]
  split <;> rfl
theorem tm_acs_r {al : Nat} {s : Int32} (hal : al ≤ 64) (hs : 0 < s.toInt) (hs2 : s.toInt ≤ 256) {x y x1 y1 : Int32} (hx : iB 1000000 x) (hx1 : iB 1000000 x1) (hy : iB 1000000 y) (hy1 : iB 1000000 y1) {j k : Nat} {j0 : Int} (hj : j < al) (hk : k < al) (hxx : x.toInt < x1.toInt) (hr : j0 * s.toInt ≤ y.toInt ∧ y.toInt ≤ j0 * s.toInt + s.toInt) (hr1 : j0 * s.toInt ≤ y1.toInt ∧ y1.toInt ≤ j0 * s.toInt + s.toInt) : ∀ n a b (G : Nat → Int32), (x1.toInt - a.toInt).natAbs ≤ n → x.toInt ≤ a.toInt → a.toInt ≤ x1.toInt → b.toInt = iA y.toInt y1.toInt x.toInt x1.toInt a.toInt → tm_acs al s x y x1 y1 n a b G (al * j + k) = G (al * j + k) + kI (if (j : Int) = j0 then iT s.toInt (iA y.toInt y1.toInt x.toInt x1.toInt) (k * s.toInt) a.toInt x1.toInt else 0) := by
  have hB : ∀ t : Int32, x.toInt ≤ t.toInt → t.toInt ≤ x1.toInt → iB 1000000 t := fun t h1 h2 => ⟨by have := hx.1; omega, by have := hx1.2; omega⟩
  have hC : ∀ b t : Int32, x.toInt ≤ t.toInt → t.toInt ≤ x1.toInt → b.toInt = iA y.toInt y1.toInt x.toInt x1.toInt t.toInt → iB 1000000 b ∧ j0 * s.toInt ≤ b.toInt ∧ b.toInt ≤ j0 * s.toInt + s.toInt := by
    intro b t h1 h2 e
    have h := iA_btw (a := y.toInt) (b := y1.toInt) (p := x.toInt) (q := x1.toInt) (m := t.toInt) (by omega)
    obtain ⟨a1, a2⟩ := hy
    obtain ⟨b1, b2⟩ := hy1
    unfold iB
    rw [e]
    rcases Int.le_total y.toInt y1.toInt with c | c
    · have := h.1 c; omega
    · have := h.2 c; omega
  have hend : ∀ a b (G : Nat → Int32), a = x1 → b.toInt = iA y.toInt y1.toInt x.toInt x1.toInt a.toInt → tm_cov al s a b x1 y1 G (al * j + k) = G (al * j + k) + kI (if (j : Int) = j0 then iT s.toInt (iA y.toInt y1.toInt x.toInt x1.toInt) (k * s.toInt) a.toInt x1.toInt else 0) := by
    intro a b G ha hb
    subst ha
    rw [iA_q (by omega)] at hb
    have hbe := i3_ext hb
    subst hbe
    rw [tm_cov_i hal hs hs2 hx1 hx1 hy1 hy1 G hj hk, Int.sub_self, Int.zero_mul, iT_rr, ite_self, ite_self]
  intro n
  induction n with
  | zero =>
    intro a b G hn h1 h2 hb
    exact hend a b G (i3_ext (by omega)) hb
  | succ n ih =>
    intro a b G hn h1 h2 hb
    by_cases hax : a = x1
    · rw [show tm_acs al s x y x1 y1 (n + 1) a b G = tm_cov al s a b x1 y1 G from if_pos hax]
      exact hend a b G hax hb
    · rw [show tm_acs al s x y x1 y1 (n + 1) a b G = tm_acs al s x y x1 y1 n (tm_ns s a x1) (tm_nn y y1 x x1 (tm_ns s a x1)) (tm_cov al s a b (tm_ns s a x1) (tm_nn y y1 x x1 (tm_ns s a x1)) G) from if_neg hax]
      have hlt : a.toInt < x1.toInt := by
        have : ¬ a.toInt = x1.toInt := fun z => hax (i3_ext z)
        omega
      obtain ⟨m, hm, m1, m2, m3, m4⟩ := iN_up hs hlt
      have em : (tm_ns s a x1).toInt = m := by rw [tm_ns_i hs hs2 (hB a h1 h2) hx1, hm]
      have ht := tm_nn_i hy hy1 hx hx1 (k := tm_ns s a x1) (by rw [em]; omega)
      generalize tm_ns s a x1 = mm at em ht ⊢
      generalize tm_nn y y1 x x1 mm = nn at ht ⊢
      obtain ⟨bb, br⟩ := hC b a h1 h2 hb
      obtain ⟨nb, nr⟩ := hC nn mm (by omega) (by omega) ht
      rw [ih mm nn _ (by omega) (by omega) (by omega) ht, tm_cov_i hal hs hs2 (hB a h1 h2) (hB mm (by omega) (by omega)) bb nb G hj hk, cov_row hs br nr, add_if]
      congr 3
      rw [hb, ht, em, ← iT_one hs m1 (div_lo a.toInt hs).1 m3 (col_cmp hs _ _)]
      rcases m4 with e | e
      · rw [e, iT_rr, Int.add_zero]
      · rw [← iT_add hs (by omega) m2 (by rw [e]; exact mult_cmp hs _ _)]
theorem tm_acs_l {al : Nat} {s : Int32} (hal : al ≤ 64) (hs : 0 < s.toInt) (hs2 : s.toInt ≤ 256) {x y x1 y1 : Int32} (hx : iB 1000000 x) (hx1 : iB 1000000 x1) (hy : iB 1000000 y) (hy1 : iB 1000000 y1) {j k : Nat} {j0 : Int} (hj : j < al) (hk : k < al) (hxx : x1.toInt < x.toInt) (hr : j0 * s.toInt ≤ y.toInt ∧ y.toInt ≤ j0 * s.toInt + s.toInt) (hr1 : j0 * s.toInt ≤ y1.toInt ∧ y1.toInt ≤ j0 * s.toInt + s.toInt) : ∀ n a b (G : Nat → Int32), (x1.toInt - a.toInt).natAbs ≤ n → a.toInt ≤ x.toInt → x1.toInt ≤ a.toInt → b.toInt = iA y.toInt y1.toInt x.toInt x1.toInt a.toInt → tm_acs al s x y x1 y1 n a b G (al * j + k) = G (al * j + k) + kI (if (j : Int) = j0 then - iT s.toInt (iA y.toInt y1.toInt x.toInt x1.toInt) (k * s.toInt) x1.toInt a.toInt else 0) := by
  have hB : ∀ t : Int32, t.toInt ≤ x.toInt → x1.toInt ≤ t.toInt → iB 1000000 t := fun t h1 h2 => ⟨by have := hx1.1; omega, by have := hx.2; omega⟩
  have hC : ∀ b t : Int32, t.toInt ≤ x.toInt → x1.toInt ≤ t.toInt → b.toInt = iA y.toInt y1.toInt x.toInt x1.toInt t.toInt → iB 1000000 b ∧ j0 * s.toInt ≤ b.toInt ∧ b.toInt ≤ j0 * s.toInt + s.toInt := by
    intro b t h1 h2 e
    have h := iA_btw (a := y.toInt) (b := y1.toInt) (p := x.toInt) (q := x1.toInt) (m := t.toInt) (by omega)
    obtain ⟨a1, a2⟩ := hy
    obtain ⟨b1, b2⟩ := hy1
    unfold iB
    rw [e]
    rcases Int.le_total y.toInt y1.toInt with c | c
    · have := h.1 c; omega
    · have := h.2 c; omega
  have hend : ∀ a b (G : Nat → Int32), a = x1 → b.toInt = iA y.toInt y1.toInt x.toInt x1.toInt a.toInt → tm_cov al s a b x1 y1 G (al * j + k) = G (al * j + k) + kI (if (j : Int) = j0 then - iT s.toInt (iA y.toInt y1.toInt x.toInt x1.toInt) (k * s.toInt) x1.toInt a.toInt else 0) := by
    intro a b G ha hb
    subst ha
    rw [iA_q (by omega)] at hb
    have hbe := i3_ext hb
    subst hbe
    rw [tm_cov_i hal hs hs2 hx1 hx1 hy1 hy1 G hj hk, Int.sub_self, Int.zero_mul, iT_rr, ite_self, Int.neg_zero, ite_self]
  intro n
  induction n with
  | zero =>
    intro a b G hn h1 h2 hb
    exact hend a b G (i3_ext (by omega)) hb
  | succ n ih =>
    intro a b G hn h1 h2 hb
    by_cases hax : a = x1
    · rw [show tm_acs al s x y x1 y1 (n + 1) a b G = tm_cov al s a b x1 y1 G from if_pos hax]
      exact hend a b G hax hb
    · rw [show tm_acs al s x y x1 y1 (n + 1) a b G = tm_acs al s x y x1 y1 n (tm_ns s a x1) (tm_nn y y1 x x1 (tm_ns s a x1)) (tm_cov al s a b (tm_ns s a x1) (tm_nn y y1 x x1 (tm_ns s a x1)) G) from if_neg hax]
      have hlt : x1.toInt < a.toInt := by
        have : ¬ a.toInt = x1.toInt := fun z => hax (i3_ext z)
        omega
      obtain ⟨m, hm, m1, m2, m3, m5, m4⟩ := iN_dn hs hlt
      have em : (tm_ns s a x1).toInt = m := by rw [tm_ns_i hs hs2 (hB a h1 h2) hx1, hm]
      have ht := tm_nn_i hy hy1 hx hx1 (k := tm_ns s a x1) (by rw [em]; omega)
      generalize tm_ns s a x1 = mm at em ht ⊢
      generalize tm_nn y y1 x x1 mm = nn at ht ⊢
      obtain ⟨bb, br⟩ := hC b a h1 h2 hb
      obtain ⟨nb, nr⟩ := hC nn mm (by omega) (by omega) ht
      rw [ih mm nn _ (by omega) (by omega) (by omega) ht, tm_cov_i hal hs hs2 (hB a h1 h2) (hB mm (by omega) (by omega)) bb nb G hj hk, cov_row hs br nr, add_if]
      congr 3
      have e2 := iT_one (c := iA y.toInt y1.toInt x.toInt x1.toInt) (p := k * s.toInt) hs m1 m3 m5 (mult_cmp3 hs _ _)
      rw [hb, ht, em, iW_comm, show ∀ u v w : Int, (u - v) * w = -((v - u) * w) from fun u v w => by rw [← Int.neg_mul]; congr 1; omega, ← e2]
      rcases m4 with e | e
      · rw [e, iT_rr, Int.neg_zero, Int.add_zero]
      · rw [iT_add hs (c := iA y.toInt y1.toInt x.toInt x1.toInt) (p := k * s.toInt) m2 (Int.le_of_lt m1) (by rw [e]; exact mult_cmp hs _ _)]
        omega
theorem tm_acr_i {al : Nat} {s : Int32} (hal : al ≤ 64) (hs : 0 < s.toInt) (hs2 : s.toInt ≤ 256) {x y x1 y1 : Int32} (hx : iB 1000000 x) (hx1 : iB 1000000 x1) (hy : iB 1000000 y) (hy1 : iB 1000000 y1) {j k : Nat} {j0 : Int} (hj : j < al) (hk : k < al) (hr : j0 * s.toInt ≤ y.toInt ∧ y.toInt ≤ j0 * s.toInt + s.toInt) (hr1 : j0 * s.toInt ≤ y1.toInt ∧ y1.toInt ≤ j0 * s.toInt + s.toInt) (G : Nat → Int32) : tm_acr al s x y x1 y1 G (al * j + k) = G (al * j + k) + kI (if (j : Int) = j0 then iF s.toInt x.toInt y.toInt x1.toInt y1.toInt (k * s.toInt) else 0) := by
  unfold iF tm_acr
  rcases Int.lt_trichotomy x.toInt x1.toInt with h | h | h
  · rw [if_neg (c := x.toInt = x1.toInt) (by omega), if_pos h]
    exact tm_acs_r hal hs hs2 hx hx1 hy hy1 hj hk h hr hr1 _ x y G (Nat.le_refl _) (Int.le_refl _) (by omega) (iA_p (by omega)).symm
  · rw [if_pos h, h, Int.sub_self]
    show tm_cov al s x y x1 y1 G (al * j + k) = _
    rw [tm_cov_i hal hs hs2 hx hx1 hy hy1 G hj hk, cov_row hs hr hr1, h]
  · rw [if_neg (c := x.toInt = x1.toInt) (by omega), if_neg (c := x.toInt < x1.toInt) (by omega)]
    exact tm_acs_l hal hs hs2 hx hx1 hy hy1 hj hk h hr hr1 _ x y G (Nat.le_refl _) (Int.le_refl _) (by omega) (iA_p (by omega)).symm
