/-! draw: the reference's line, as Int -/
def iQ (s x y x1 y1 p : Int) (b e : Int) : Int := iF s (iA x x1 y y1 b) b (iA x x1 y y1 e) e p
theorem iQ_0 (s x y x1 y1 p b : Int) : iQ s x y x1 y1 p b b = 0 := iF_0 _ _ _ _ _
/-- what a line adds to pixel (k, j) -/
def iL (s x y x1 y1 j k : Int) : Int := if y = y1 then 0 else if y < y1 then iU s (iQ s x y x1 y1 (k * s)) (j * s) y y1 else - iU s (iQ s x y x1 y1 (k * s)) (j * s) y1 y
theorem iU_rr {s : Int} {Q : Int → Int → Int} (h0 : ∀ a, Q a a = 0) (p r : Int) : iU s Q p r r = 0 := by
  have h : ∀ t, icl t r r = r := fun t => by unfold icl; repeat' split <;> omega
  unfold iU
  rw [h, h, h0]
theorem iQ_sym (s x y x1 y1 p : Int) (h : y ≠ y1) : iQ s x1 y1 x y p = iQ s x y x1 y1 p := by
  funext b e
  unfold iQ
  rw [iA_sym x x1 y y1 h]
theorem iL_neg (s x y x1 y1 j k : Int) : iL s x1 y1 x y j k = - iL s x y x1 y1 j k := by
  unfold iL
  by_cases h : y = y1
  · rw [if_pos h, if_pos h.symm]; rfl
  · rw [if_neg h, if_neg (fun z => h z.symm), iQ_sym s x y x1 y1 _ h]
    by_cases h2 : y < y1
    · rw [if_pos h2, if_neg (by omega)]
    · rw [if_neg h2, if_pos (by omega), Int.neg_neg]
theorem mul_inj {s j q : Int} (hs : 0 < s) : (j * s = q * s) = (j = q) := propext ⟨fun h => Int.eq_of_mul_eq_mul_right (by omega) h, fun h => by rw [h]⟩
theorem if_mul {s j q a b : Int} (hs : 0 < s) : (if j * s = q * s then a else b) = if j = q then a else b := by
  by_cases h : j = q
  · rw [if_pos h, if_pos (by rw [h])]
  · rw [if_neg h, if_neg (fun z => h (by rw [← mul_inj hs]; exact z))]
theorem tm_lns_u {al : Nat} {s : Int32} (hal : al ≤ 64) (hs : 0 < s.toInt) (hs2 : s.toInt ≤ 256) {x y x1 y1 : Int32} (hx : iB 1000000 x) (hx1 : iB 1000000 x1) (hy : iB 1000000 y) (hy1 : iB 1000000 y1) {j k : Nat} (hj : j < al) (hk : k < al) (hyy : y.toInt < y1.toInt) : ∀ n a b (G : Nat → Int32), (y1.toInt - b.toInt).natAbs ≤ n → y.toInt ≤ b.toInt → b.toInt ≤ y1.toInt → a.toInt = iA x.toInt x1.toInt y.toInt y1.toInt b.toInt → tm_lns al s x y x1 y1 n a b G (al * j + k) = G (al * j + k) + kI (iU s.toInt (iQ s.toInt x.toInt y.toInt x1.toInt y1.toInt (k * s.toInt)) (j * s.toInt) b.toInt y1.toInt) := by
  have h0 := iQ_0 s.toInt x.toInt y.toInt x1.toInt y1.toInt (k * s.toInt)
  have k0 : kI 0 = 0 := rfl
  have hB : ∀ t : Int32, y.toInt ≤ t.toInt → t.toInt ≤ y1.toInt → iB 1000000 t := fun t h1 h2 => ⟨by have := hy.1; omega, by have := hy1.2; omega⟩
  have hC : ∀ a t : Int32, y.toInt ≤ t.toInt → t.toInt ≤ y1.toInt → a.toInt = iA x.toInt x1.toInt y.toInt y1.toInt t.toInt → iB 1000000 a := by
    intro b t h1 h2 e
    have h := iA_btw (a := x.toInt) (b := x1.toInt) (p := y.toInt) (q := y1.toInt) (m := t.toInt) (by omega)
    obtain ⟨a1, a2⟩ := hx
    obtain ⟨b1, b2⟩ := hx1
    unfold iB
    rw [e]
    rcases Int.le_total x.toInt x1.toInt with c | c
    · have := h.1 c; omega
    · have := h.2 c; omega
  intro n
  induction n with
  | zero =>
    intro a b G hn h1 h2 ha
    have e : b = y1 := i3_ext (by omega)
    rw [e, iU_rr h0, k0, Int32.add_zero]
    rfl
  | succ n ih =>
    intro a b G hn h1 h2 ha
    by_cases hax : b = y1
    · rw [show tm_lns al s x y x1 y1 (n + 1) a b G = G from if_pos hax, hax, iU_rr h0, k0, Int32.add_zero]
    · rw [show tm_lns al s x y x1 y1 (n + 1) a b G = tm_lns al s x y x1 y1 n (tm_nn x x1 y y1 (tm_ns s b y1)) (tm_ns s b y1) (tm_acr al s a b (tm_nn x x1 y y1 (tm_ns s b y1)) (tm_ns s b y1) G) from if_neg hax]
      have hlt : b.toInt < y1.toInt := by
        have : ¬ b.toInt = y1.toInt := fun z => hax (i3_ext z)
        omega
      obtain ⟨m, hm, m1, m2, m3, m4⟩ := iN_up hs hlt
      have em : (tm_ns s b y1).toInt = m := by rw [tm_ns_i hs hs2 (hB b h1 h2) hy1, hm]
      have ht := tm_nn_i hx hx1 hy hy1 (k := tm_ns s b y1) (by rw [em]; omega)
      generalize tm_ns s b y1 = mm at em ht ⊢
      generalize tm_nn x x1 y y1 mm = nn at ht ⊢
      have hd := div_lo b.toInt hs
      rw [ih nn mm _ (by omega) (by omega) (by omega) ht, tm_acr_i hal hs hs2 (hC a b h1 h2 ha) (hC nn mm (by omega) (by omega) ht) (hB b h1 h2) (hB mm (by omega) (by omega)) hj hk (j0 := b.toInt / s.toInt) (by omega) (by omega), Int32.add_assoc, ← kI_add]
      congr 2
      have e2 := iU_one (Q := iQ s.toInt x.toInt y.toInt x1.toInt y1.toInt (k * s.toInt)) (p := j * s.toInt) hs h0 (Int.le_of_lt m1) hd.1 m3 (col_cmp hs _ _)
      rw [if_mul hs] at e2
      rw [ha, ht, em]
      rw [show iF s.toInt (iA x.toInt x1.toInt y.toInt y1.toInt b.toInt) b.toInt (iA x.toInt x1.toInt y.toInt y1.toInt m) m (k * s.toInt) = iQ s.toInt x.toInt y.toInt x1.toInt y1.toInt (k * s.toInt) b.toInt m from rfl]
      rw [← e2]
      rcases m4 with e | e
      · rw [e, iU_rr h0, Int.add_zero]
      · rw [← iU_add hs h0 (Int.le_of_lt m1) m2 (by rw [e]; exact mult_cmp hs _ _)]
theorem tm_lns_d {al : Nat} {s : Int32} (hal : al ≤ 64) (hs : 0 < s.toInt) (hs2 : s.toInt ≤ 256) {x y x1 y1 : Int32} (hx : iB 1000000 x) (hx1 : iB 1000000 x1) (hy : iB 1000000 y) (hy1 : iB 1000000 y1) {j k : Nat} (hj : j < al) (hk : k < al) (hyy : y1.toInt < y.toInt) : ∀ n a b (G : Nat → Int32), (y1.toInt - b.toInt).natAbs ≤ n → b.toInt ≤ y.toInt → y1.toInt ≤ b.toInt → a.toInt = iA x.toInt x1.toInt y.toInt y1.toInt b.toInt → tm_lns al s x y x1 y1 n a b G (al * j + k) = G (al * j + k) + kI (- iU s.toInt (iQ s.toInt x.toInt y.toInt x1.toInt y1.toInt (k * s.toInt)) (j * s.toInt) y1.toInt b.toInt) := by
  have h0 := iQ_0 s.toInt x.toInt y.toInt x1.toInt y1.toInt (k * s.toInt)
  have k0 : kI 0 = 0 := rfl
  have hB : ∀ t : Int32, t.toInt ≤ y.toInt → y1.toInt ≤ t.toInt → iB 1000000 t := fun t h1 h2 => ⟨by have := hy1.1; omega, by have := hy.2; omega⟩
  have hC : ∀ a t : Int32, t.toInt ≤ y.toInt → y1.toInt ≤ t.toInt → a.toInt = iA x.toInt x1.toInt y.toInt y1.toInt t.toInt → iB 1000000 a := by
    intro b t h1 h2 e
    have h := iA_btw (a := x.toInt) (b := x1.toInt) (p := y.toInt) (q := y1.toInt) (m := t.toInt) (by omega)
    obtain ⟨a1, a2⟩ := hx
    obtain ⟨b1, b2⟩ := hx1
    unfold iB
    rw [e]
    rcases Int.le_total x.toInt x1.toInt with c | c
    · have := h.1 c; omega
    · have := h.2 c; omega
  intro n
  induction n with
  | zero =>
    intro a b G hn h1 h2 ha
    have e : b = y1 := i3_ext (by omega)
    rw [e, iU_rr h0, Int.neg_zero, k0, Int32.add_zero]
    rfl
  | succ n ih =>
    intro a b G hn h1 h2 ha
    by_cases hax : b = y1
    · rw [show tm_lns al s x y x1 y1 (n + 1) a b G = G from if_pos hax, hax, iU_rr h0, Int.neg_zero, k0, Int32.add_zero]
    · rw [show tm_lns al s x y x1 y1 (n + 1) a b G = tm_lns al s x y x1 y1 n (tm_nn x x1 y y1 (tm_ns s b y1)) (tm_ns s b y1) (tm_acr al s a b (tm_nn x x1 y y1 (tm_ns s b y1)) (tm_ns s b y1) G) from if_neg hax]
      have hlt : y1.toInt < b.toInt := by
        have : ¬ b.toInt = y1.toInt := fun z => hax (i3_ext z)
        omega
      obtain ⟨m, hm, m1, m2, m3, m5, m4⟩ := iN_dn hs hlt
      have em : (tm_ns s b y1).toInt = m := by rw [tm_ns_i hs hs2 (hB b h1 h2) hy1, hm]
      have ht := tm_nn_i hx hx1 hy hy1 (k := tm_ns s b y1) (by rw [em]; omega)
      generalize tm_ns s b y1 = mm at em ht ⊢
      generalize tm_nn x x1 y y1 mm = nn at ht ⊢
      rw [ih nn mm _ (by omega) (by omega) (by omega) ht, tm_acr_i hal hs hs2 (hC a b h1 h2 ha) (hC nn mm (by omega) (by omega) ht) (hB b h1 h2) (hB mm (by omega) (by omega)) hj hk (j0 := -(-b.toInt / s.toInt) - 1) (by omega) (by omega), Int32.add_assoc, ← kI_add]
      congr 2
      have e2 := iU_one (Q := iQ s.toInt x.toInt y.toInt x1.toInt y1.toInt (k * s.toInt)) (p := j * s.toInt) hs h0 (Int.le_of_lt m1) m3 m5 (mult_cmp3 hs _ _)
      rw [if_mul hs] at e2
      rw [ha, ht, em, iF_neg]
      rw [show iF s.toInt (iA x.toInt x1.toInt y.toInt y1.toInt m) m (iA x.toInt x1.toInt y.toInt y1.toInt b.toInt) b.toInt (k * s.toInt) = iQ s.toInt x.toInt y.toInt x1.toInt y1.toInt (k * s.toInt) m b.toInt from rfl]
      rw [show ∀ P : Prop, ∀ _ : Decidable P, ∀ u : Int, (if P then -u else 0) = -(if P then u else 0) from fun P _ u => by split <;> rfl, ← e2]
      rcases m4 with e | e
      · rw [e, iU_rr h0, Int.neg_zero, Int.add_zero]
      · rw [iU_add hs h0 m2 (Int.le_of_lt m1) (by rw [e]; exact mult_cmp hs _ _)]
        omega
theorem tm_lin_i {al : Nat} {s : Int32} (hal : al ≤ 64) (hs : 0 < s.toInt) (hs2 : s.toInt ≤ 256) {x y x1 y1 : Int32} (hx : iB 1000000 x) (hx1 : iB 1000000 x1) (hy : iB 1000000 y) (hy1 : iB 1000000 y1) {j k : Nat} (hj : j < al) (hk : k < al) (G : Nat → Int32) : tm_lin al s x y x1 y1 G (al * j + k) = G (al * j + k) + kI (iL s.toInt x.toInt y.toInt x1.toInt y1.toInt j k) := by
  unfold iL tm_lin
  rcases Int.lt_trichotomy y.toInt y1.toInt with h | h | h
  · rw [if_neg (c := y.toInt = y1.toInt) (by omega), if_pos h]
    exact tm_lns_u hal hs hs2 hx hx1 hy hy1 hj hk h _ x y G (Nat.le_refl _) (Int.le_refl _) (by omega) (iA_p (by omega)).symm
  · rw [if_pos h, h, Int.sub_self]
    exact (Int32.add_zero _).symm
  · rw [if_neg (c := y.toInt = y1.toInt) (by omega), if_neg (c := y.toInt < y1.toInt) (by omega)]
    exact tm_lns_d hal hs hs2 hx hx1 hy hy1 hj hk h _ x y G (Nat.le_refl _) (Int.le_refl _) (by omega) (iA_p (by omega)).symm
