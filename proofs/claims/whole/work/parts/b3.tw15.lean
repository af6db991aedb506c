/-! the reference: across, line, lineTo, quadratic, middle -/
theorem pos_ne {s : Int32} (h : 0 < s.toInt) : ¬ s = 0 := fun z => by rw [z] at h; exact absurd h (by decide)
def tm_nn (u u1 p p1 k : Int32) : Int32 := if k = p1 then u1 else tm_att u u1 p p1 k
def tm_acs (al : Nat) (s x y x1 y1 : Int32) : Nat → Int32 → Int32 → (Nat → Int32) → Nat → Int32
  | 0, a, b, G => tm_cov al s a b x1 y1 G
  | n + 1, a, b, G => if a = x1 then tm_cov al s a b x1 y1 G else tm_acs al s x y x1 y1 n (tm_ns s a x1) (tm_nn y y1 x x1 (tm_ns s a x1)) (tm_cov al s a b (tm_ns s a x1) (tm_nn y y1 x x1 (tm_ns s a x1)) G)
def tm_acr (al : Nat) (s x y x1 y1 : Int32) (G : Nat → Int32) : Nat → Int32 := tm_acs al s x y x1 y1 (x1.toInt - x.toInt).natAbs x y G
def tm_lns (al : Nat) (s x y x1 y1 : Int32) : Nat → Int32 → Int32 → (Nat → Int32) → Nat → Int32
  | 0, _, _, G => G
  | n + 1, a, b, G => if b = y1 then G else tm_lns al s x y x1 y1 n (tm_nn x x1 y y1 (tm_ns s b y1)) (tm_ns s b y1) (tm_acr al s a b (tm_nn x x1 y y1 (tm_ns s b y1)) (tm_ns s b y1) G)
def tm_lin (al : Nat) (s x y x1 y1 : Int32) (G : Nat → Int32) : Nat → Int32 := tm_lns al s x y x1 y1 (y1.toInt - y.toInt).natAbs x y G
/-- a step to the next stop -/
theorem tm_ns_step {s a b : Int32} (hs : 0 < s.toInt) (hs2 : s.toInt ≤ 256) (ha : iB 1000000 a) (hb : iB 1000000 b) (h : ¬ a = b) : iB 1000000 (tm_ns s a b) ∧ (b.toInt - (tm_ns s a b).toInt).natAbs < (b.toInt - a.toInt).natAbs ∧ (a.toInt < b.toInt → a.toInt < (tm_ns s a b).toInt ∧ (tm_ns s a b).toInt ≤ b.toInt) ∧ (b.toInt < a.toInt → (tm_ns s a b).toInt < a.toInt ∧ b.toInt ≤ (tm_ns s a b).toInt) := by
  have e := tm_ns_i hs hs2 ha hb
  have hb2 := iN_btw (a := a.toInt) (b := b.toInt) hs
  rw [← e] at hb2
  have hne : ¬ a.toInt = b.toInt := fun z => h (i3_ext z)
  obtain ⟨a1, a2⟩ := ha
  obtain ⟨b1, b2⟩ := hb
  rcases Int.lt_or_gt_of_ne hne with h1 | h1
  · have := hb2.1 h1
    exact ⟨⟨by omega, by omega⟩, by omega, hb2.1, hb2.2⟩
  · have := hb2.2 h1
    exact ⟨⟨by omega, by omega⟩, by omega, hb2.1, hb2.2⟩
theorem tm_nn_B {u u1 p p1 k : Int32} (hu : iB 1000000 u) (hu1 : iB 1000000 u1) (hp : iB 1000000 p) (hp1 : iB 1000000 p1) (hk : p.toInt < p1.toInt ∧ p.toInt ≤ k.toInt ∧ k.toInt ≤ p1.toInt ∨ p1.toInt < p.toInt ∧ p1.toInt ≤ k.toInt ∧ k.toInt ≤ p.toInt) : iB 1000000 (tm_nn u u1 p p1 k) := by
  unfold tm_nn
  split
  · exact hu1
  · have h1 := tm_att_i hu hu1 hp hp1 hk
    have h2 := iA_btw (a := u.toInt) (b := u1.toInt) hk
    obtain ⟨a1, a2⟩ := hu
    obtain ⟨b1, b2⟩ := hu1
    unfold iB
    rw [h1]
    rcases Int.le_total u.toInt u1.toInt with h | h
    · have := h2.1 h; omega
    · have := h2.2 h; omega
/-- a pen, and the grid -/
abbrev tm_D := Int32 × Int32 × (Nat → Int32)
def tm_lt (F : Int32 → Int32) (al : Nat) (s x y : Int32) (D : tm_D) : tm_D := (x, y, tm_lin al s D.1 (F D.2.1) x (F y) D.2.2)
def tm_qp (a x x1 k : Int32) : Int32 := (tm_nr ((kI 8 - k) * (kI 8 - k) * a + kI 2 * k * (kI 8 - k) * x + k * k * x1).toInt64 64).toInt32
def tm_mid (a b : Int32) : Int32 := (tm_nr (a + b).toInt64 2).toInt32
def tm_qd (F : Int32 → Int32) (al : Nat) (s a b x y x1 y1 : Int32) : Nat → Nat → tm_D → tm_D
  | 0, _, D => tm_lt F al s x1 y1 D
  | w + 1, k, D => tm_qd F al s a b x y x1 y1 w (k + 1) (tm_lt F al s (tm_qp a x x1 (nI k)) (tm_qp b y y1 (nI k)) D)
abbrev tm_JS (J : Nat → Int32) (x y : Int32) : Nat → Int32 := upd (upd J 53 x) 54 y
theorem tm_JS2 (J : Nat → Int32) (a b c e : Int32) : tm_JS (tm_JS J a b) c e = tm_JS J c e := by
  funext z
  simp only [tm_JS, upd]
  split
  · rfl
  · split <;> rfl
theorem tm_JS0 (J : Nat → Int32) : tm_JS J (J 53) (J 54) = J := by
  funext z
  simp only [tm_JS, upd]
  split
  · next h => rw [h]
  · split
    · next h => rw [h]
    · rfl
theorem tm_mid_B {a b : Int32} (ha : iB 100000 a) (hb : iB 100000 b) : iB 100000 (tm_mid a b) := by
  obtain ⟨a1, a2⟩ := ha
  obtain ⟨b1, b2⟩ := hb
  have h1 : (a + b).toInt = a.toInt + b.toInt := i3_add (by omega) (by omega)
  have h2 : (tm_nr (a + b).toInt64 2).toInt = iR (a.toInt + b.toInt) 2 := by rw [tm_nr_i (by rw [i6_of, h1]; omega) (by decide) (by decide), i6_of, h1]; rfl
  have h3 : -100000 ≤ iR (a.toInt + b.toInt) 2 := iR_lo (by omega) (by omega)
  have h4 : iR (a.toInt + b.toInt) 2 ≤ 100000 := iR_hi (by omega) (by omega)
  unfold iB tm_mid
  rw [i3_of (by rw [h2]; omega) (by rw [h2]; omega), h2]
  exact ⟨h3, h4⟩
theorem tm_qp_B {a x x1 : Int32} {k : Nat} (hk : k ≤ 8) (ha : iB 100000 a) (hx : iB 100000 x) (h1 : iB 100000 x1) : iB 100000 (tm_qp a x x1 (nI k)) := by
  obtain ⟨a1, a2⟩ := ha
  obtain ⟨b1, b2⟩ := hx
  obtain ⟨c1, c2⟩ := h1
  have hall : ∀ k : Nat, k ≤ 8 → ∃ p e r : Int, 0 ≤ p ∧ 0 ≤ e ∧ 0 ≤ r ∧ p + e + r = 64 ∧ ((kI 8 - nI k) * (kI 8 - nI k)).toInt = p ∧ (kI 2 * nI k * (kI 8 - nI k)).toInt = e ∧ (nI k * nI k).toInt = r := by
    intro k hk
    refine ⟨_, _, _, ?_, ?_, ?_, ?_, rfl, rfl, rfl⟩ <;> (revert k; decide)
  obtain ⟨p, e, r, hp, he, hr, hs, e1, e2, e3⟩ := hall k hk
  have m1 := Int.mul_le_mul_of_nonneg_left a2 hp
  have m2 := Int.mul_le_mul_of_nonneg_left a1 hp
  have m3 := Int.mul_le_mul_of_nonneg_left b2 he
  have m4 := Int.mul_le_mul_of_nonneg_left b1 he
  have m5 := Int.mul_le_mul_of_nonneg_left c2 hr
  have m6 := Int.mul_le_mul_of_nonneg_left c1 hr
  have t1 : ((kI 8 - nI k) * (kI 8 - nI k) * a).toInt = p * a.toInt := by rw [i3_mul (by rw [e1]; omega) (by rw [e1]; omega), e1]
  have t2 : (kI 2 * nI k * (kI 8 - nI k) * x).toInt = e * x.toInt := by rw [i3_mul (by rw [e2]; omega) (by rw [e2]; omega), e2]
  have t3 : (nI k * nI k * x1).toInt = r * x1.toInt := by rw [i3_mul (by rw [e3]; omega) (by rw [e3]; omega), e3]
  have t4 : ((kI 8 - nI k) * (kI 8 - nI k) * a + kI 2 * nI k * (kI 8 - nI k) * x).toInt = p * a.toInt + e * x.toInt := by rw [i3_add (by rw [t1, t2]; omega) (by rw [t1, t2]; omega), t1, t2]
  have t5 : ((kI 8 - nI k) * (kI 8 - nI k) * a + kI 2 * nI k * (kI 8 - nI k) * x + nI k * nI k * x1).toInt = p * a.toInt + e * x.toInt + r * x1.toInt := by rw [i3_add (by rw [t4, t3]; omega) (by rw [t4, t3]; omega), t4, t3]
  have t6 : (tm_nr ((kI 8 - nI k) * (kI 8 - nI k) * a + kI 2 * nI k * (kI 8 - nI k) * x + nI k * nI k * x1).toInt64 64).toInt = iR (p * a.toInt + e * x.toInt + r * x1.toInt) 64 := by rw [tm_nr_i (by rw [i6_of, t5]; omega) (by decide) (by decide), i6_of, t5]; rfl
  have h3 : -100000 ≤ iR (p * a.toInt + e * x.toInt + r * x1.toInt) 64 := iR_lo (by omega) (by omega)
  have h4 : iR (p * a.toInt + e * x.toInt + r * x1.toInt) 64 ≤ 100000 := iR_hi (by omega) (by omega)
  unfold iB tm_qp
  rw [i3_of (by rw [t6]; omega) (by rw [t6]; omega), t6]
  exact ⟨h3, h4⟩
theorem iB_w {x : Int32} (h : iB 100000 x) : iB 1000000 x := ⟨by have := h.1; omega, by have := h.2; omega⟩
section
variable (l : Launch) (D : va_G) (q : Nat → ClassId) (d : Nat) (L : List Nat) (f : tf_F) {ad : Nat → Nat} {m : Nat} {W0 : tf_F} {J : Nat → Int32} {A : Nat → Nat → Int32} {R : Nat → Int64}
set_option maxHeartbeats 4000000 in
set_option maxRecDepth 100000 in
theorem t_Mod_across (hd : 3 ≤ d) {al : Nat} (hal : al ≤ 64) (h32 : J 32 = nI al) (hs : 0 < (J 33).toInt) (hs2 : (J 33).toInt ≤ 256) {x y x1 y1 : Int32} (hx1 : iB 1000000 x1) : ∀ n a b (G : Nat → Int32) (f : tf_F), (x1.toInt - a.toInt).natAbs ≤ n → iB 1000000 a → (¬ a = x1 → ¬ x = x1) → tm_at q ad m W0 L J (va_up A 31 G) R f → tf_W l (tf_H D q) tf_T (tf_QM (tf_H D q) (tm_to q ad m W0 L (none) (J) (va_up A 31 (tm_acs al (J 33) x y x1 y1 n a b G)) (R))) d i_Mod_across 6 [(0, .ref m), (1, .int x), (2, .int y), (3, .int x1), (4, .int y1), (5, .int a), (6, .int b)] [] L f 0 0 := by
  intro n
  induction n with
  | zero =>
    intro a b G f hn ha hxa hT
    have hax : a = x1 := i3_ext (by omega)
    rw [show tm_acs al (J 33) x y x1 y1 0 a b G = tm_cov al (J 33) a b x1 y1 G from rfl]
    refine tf_blk _ b_Mod_across_6 rfl ?_
    refine tf_ic_eq 67 12 d_Mod_across_9 rfl rfl (fun h9 => ?_) (fun h9 => absurd (hax) h9)
    refine tf_blk _ b_Mod_across_67 rfl ?_
    refine tf_cV (tf_gok _ _) (c_Mod_cover l D q (d - 1) _ _ (by omega) hT hal h32 (pos_ne hs) _ _ _ _) 78 d_Mod_across_75 rfl lk_Mod_226 cw_Mod_cover (by rfl) in_Mod_cover se_Mod_cover (by exact hT.1.1) (by exact hT.1.2.1) (by rfl) (by rfl) (by omega) (by exact Nat.le_of_ble_eq_true rfl) rfl ?_
    rintro v75 L75 f75 ⟨rfl, rfl, hT⟩
    refine tf_vret d_Mod_across_78 rfl ?_
    rw [tm_va2, va_up_self] at hT
    exact ⟨rfl, rfl, hT⟩
  | succ n ih =>
    intro a b G f hn ha hxa hT
    by_cases hax : a = x1
    · rw [show tm_acs al (J 33) x y x1 y1 (n + 1) a b G = tm_cov al (J 33) a b x1 y1 G from if_pos hax]
      refine tf_blk _ b_Mod_across_6 rfl ?_
      refine tf_ic_eq 67 12 d_Mod_across_9 rfl rfl (fun h9 => ?_) (fun h9 => absurd (hax) h9)
      refine tf_blk _ b_Mod_across_67 rfl ?_
      refine tf_cV (tf_gok _ _) (c_Mod_cover l D q (d - 1) _ _ (by omega) hT hal h32 (pos_ne hs) _ _ _ _) 78 d_Mod_across_75 rfl lk_Mod_226 cw_Mod_cover (by rfl) in_Mod_cover se_Mod_cover (by exact hT.1.1) (by exact hT.1.2.1) (by rfl) (by rfl) (by omega) (by exact Nat.le_of_ble_eq_true rfl) rfl ?_
      rintro v75 L75 f75 ⟨rfl, rfl, hT⟩
      refine tf_vret d_Mod_across_78 rfl ?_
      rw [tm_va2, va_up_self] at hT
      exact ⟨rfl, rfl, hT⟩
    rw [show tm_acs al (J 33) x y x1 y1 (n + 1) a b G = tm_acs al (J 33) x y x1 y1 n (tm_ns (J 33) a x1) (tm_nn y y1 x x1 (tm_ns (J 33) a x1)) (tm_cov al (J 33) a b (tm_ns (J 33) a x1) (tm_nn y y1 x x1 (tm_ns (J 33) a x1)) G) from if_neg hax]
    obtain ⟨s1, s2, s3, s4⟩ := tm_ns_step hs hs2 ha hx1 hax
    have hxx := hxa hax
    by_cases hm : tm_ns (J 33) a x1 = x1
    · refine tf_blk _ b_Mod_across_6 rfl ?_
      refine tf_ic_eq 67 12 d_Mod_across_9 rfl rfl (fun h9 => absurd h9 (hax)) (fun h9 => ?_)
      refine tf_blk _ b_Mod_across_12 rfl ?_
      refine tf_cV (tf_gok _ _) (c_Mod_nextStop l D q (d - 1) _ _ (by omega) hT (pos_ne hs) _ _) 19 d_Mod_across_16 rfl lk_Mod_219 cw_Mod_nextStop (by rfl) in_Mod_nextStop se_Mod_nextStop (by exact hT.1.1) (by exact hT.1.2.1) (by rfl) (by rfl) (by omega) (by exact Nat.le_of_ble_eq_true rfl) rfl ?_
      rintro v16 L16 f16 ⟨rfl, rfl, rfl⟩
      refine tf_blk _ b_Mod_across_19 rfl ?_
      refine tf_ic_ne 32 27 d_Mod_across_24 rfl rfl (fun h24 => absurd h24 (not_not_intro hm)) (fun h24 => ?_)
      refine tf_blk _ b_Mod_across_27 rfl ?_
      refine tf_goto 42 d_Mod_across_29 rfl ?_
      refine tf_blk _ b_Mod_across_42 rfl ?_
      refine tf_cV (tf_gok _ _) (c_Mod_cover l D q (d - 1) _ _ (by omega) hT hal h32 (pos_ne hs) _ _ _ _) 56 d_Mod_across_53 rfl lk_Mod_226 cw_Mod_cover (by rfl) in_Mod_cover se_Mod_cover (by exact hT.1.1) (by exact hT.1.2.1) (by rfl) (by rfl) (by omega) (by exact Nat.le_of_ble_eq_true rfl) rfl ?_
      rintro v53 L53 f53 ⟨rfl, rfl, hT⟩
      refine tf_blk _ b_Mod_across_56 rfl ?_
      refine tf_goto 6 d_Mod_across_64 rfl ?_
      refine tf_drop [0, 1, 2, 3, 4, 5, 6] rfl ?_
      rw [tm_va2, va_up_self] at hT
      rw [show tm_nn y y1 x x1 (tm_ns (J 33) a x1) = y1 from if_pos hm]
      exact ih _ _ _ _ (by omega) s1 (fun _ => hxx) hT
    refine tf_blk _ b_Mod_across_6 rfl ?_
    refine tf_ic_eq 67 12 d_Mod_across_9 rfl rfl (fun h9 => absurd h9 (hax)) (fun h9 => ?_)
    refine tf_blk _ b_Mod_across_12 rfl ?_
    refine tf_cV (tf_gok _ _) (c_Mod_nextStop l D q (d - 1) _ _ (by omega) hT (pos_ne hs) _ _) 19 d_Mod_across_16 rfl lk_Mod_219 cw_Mod_nextStop (by rfl) in_Mod_nextStop se_Mod_nextStop (by exact hT.1.1) (by exact hT.1.2.1) (by rfl) (by rfl) (by omega) (by exact Nat.le_of_ble_eq_true rfl) rfl ?_
    rintro v16 L16 f16 ⟨rfl, rfl, rfl⟩
    refine tf_blk _ b_Mod_across_19 rfl ?_
    refine tf_ic_ne 32 27 d_Mod_across_24 rfl rfl (fun h24 => ?_) (fun h24 => absurd h24 (hm))
    refine tf_blk _ b_Mod_across_32 rfl ?_
    refine tf_cS (tf_gok _ _) (c_Mod_at l D q (d - 1) _ _ (by omega) _ _ _ _ _ hxx) 42 d_Mod_across_39 rfl lk_Mod_222 cw_Mod_at (by rfl) sa_Mod_at (by omega) (by exact Nat.le_of_ble_eq_true rfl) rfl ?_
    rintro v39 L39 f39 ⟨rfl, rfl, rfl⟩
    refine tf_blk _ b_Mod_across_42 rfl ?_
    refine tf_cV (tf_gok _ _) (c_Mod_cover l D q (d - 1) _ _ (by omega) hT hal h32 (pos_ne hs) _ _ _ _) 56 d_Mod_across_53 rfl lk_Mod_226 cw_Mod_cover (by rfl) in_Mod_cover se_Mod_cover (by exact hT.1.1) (by exact hT.1.2.1) (by rfl) (by rfl) (by omega) (by exact Nat.le_of_ble_eq_true rfl) rfl ?_
    rintro v53 L53 f53 ⟨rfl, rfl, hT⟩
    refine tf_blk _ b_Mod_across_56 rfl ?_
    refine tf_goto 6 d_Mod_across_64 rfl ?_
    refine tf_drop [0, 1, 2, 3, 4, 5, 6] rfl ?_
    rw [tm_va2, va_up_self] at hT
    rw [show tm_nn y y1 x x1 (tm_ns (J 33) a x1) = tm_att y y1 x x1 (tm_ns (J 33) a x1) from if_neg hm]
    exact ih _ _ _ _ (by omega) s1 (fun _ => hxx) hT
set_option maxHeartbeats 4000000 in
set_option maxRecDepth 100000 in
theorem c_Mod_across (hd : 3 ≤ d) (hT : tm_at q ad m W0 L J A R f) {al : Nat} (hal : al ≤ 64) (h32 : J 32 = nI al) (hs : 0 < (J 33).toInt) (hs2 : (J 33).toInt ≤ 256) (x y x1 y1 : Int32) (hx : iB 1000000 x) (hx1 : iB 1000000 x1) : tf_C l (tf_H D q) d i_Mod_across [.ref m, .int x, .int y, .int x1, .int y1] L f 0 0 (tm_to q ad m W0 L (none) (J) (va_up A 31 (tm_acr al (J 33) x y x1 y1 (A 31))) (R)) := by
  refine tf_C.of (tf_gok _ _) (by decide) w_1424 (Nat.le_of_ble_eq_true rfl) ?_
  refine tf_blk _ b_Mod_across_0 rfl ?_
  exact t_Mod_across l D q d _ hd hal h32 hs hs2 hx1 _ _ _ _ _ (Nat.le_refl _) hx (fun z => z) (tm_A51 31 hT)
set_option maxHeartbeats 4000000 in
set_option maxRecDepth 100000 in
theorem t_Mod_line (hd : 4 ≤ d) {al : Nat} (hal : al ≤ 64) (h32 : J 32 = nI al) (hs : 0 < (J 33).toInt) (hs2 : (J 33).toInt ≤ 256) {x y0 y x1 y2 y1 : Int32} (hx : iB 1000000 x) (hx1 : iB 1000000 x1) (hy : iB 1000000 y) (hy1 : iB 1000000 y1) : ∀ n a b (G : Nat → Int32) (f : tf_F), (y1.toInt - b.toInt).natAbs ≤ n → iB 1000000 a → iB 1000000 b → (y.toInt ≤ b.toInt ∧ b.toInt ≤ y1.toInt ∨ y1.toInt ≤ b.toInt ∧ b.toInt ≤ y.toInt) → tm_at q ad m W0 L J (va_up A 31 G) R f → tf_W l (tf_H D q) tf_T (tf_QM (tf_H D q) (tm_to q ad m W0 L (none) (J) (va_up A 31 (tm_lns al (J 33) x y x1 y1 n a b G)) (R))) d i_Mod_line 22 [(0, .ref m), (1, .int x), (2, .int y0), (3, .int x1), (4, .int y2), (5, .int y), (6, .int y1), (7, .int a), (8, .int b)] [] L f 0 0 := by
  intro n
  induction n with
  | zero =>
    intro a b G f hn ha hb hbt hT
    have hax : b = y1 := i3_ext (by omega)
    rw [show tm_lns al (J 33) x y x1 y1 0 a b G = G from rfl]
    refine tf_blk _ b_Mod_line_22 rfl ?_
    refine tf_ic_eq 86 29 d_Mod_line_26 rfl rfl (fun h26 => ?_) (fun h26 => absurd (hax) h26)
    refine tf_vret d_Mod_line_86 rfl ?_
    exact ⟨rfl, rfl, hT⟩
  | succ n ih =>
    intro a b G f hn ha hb hbt hT
    by_cases hax : b = y1
    · rw [show tm_lns al (J 33) x y x1 y1 (n + 1) a b G = G from if_pos hax]
      refine tf_blk _ b_Mod_line_22 rfl ?_
      refine tf_ic_eq 86 29 d_Mod_line_26 rfl rfl (fun h26 => ?_) (fun h26 => absurd (hax) h26)
      refine tf_vret d_Mod_line_86 rfl ?_
      exact ⟨rfl, rfl, hT⟩
    obtain ⟨s1, s2, s3, s4⟩ := tm_ns_step hs hs2 hb hy1 hax
    have hne : ¬ b.toInt = y1.toInt := fun z => hax (i3_ext z)
    have hyy : ¬ y = y1 := fun z => by rw [z] at hbt; omega
    have hbt2 : y.toInt < y1.toInt ∧ y.toInt ≤ (tm_ns (J 33) b y1).toInt ∧ (tm_ns (J 33) b y1).toInt ≤ y1.toInt ∨ y1.toInt < y.toInt ∧ y1.toInt ≤ (tm_ns (J 33) b y1).toInt ∧ (tm_ns (J 33) b y1).toInt ≤ y.toInt := by
      rcases hbt with h | h
      · have := s3 (by omega); omega
      · have := s4 (by omega); omega
    have hnB := tm_nn_B hx hx1 hy hy1 hbt2
    rw [show tm_lns al (J 33) x y x1 y1 (n + 1) a b G = tm_lns al (J 33) x y x1 y1 n (tm_nn x x1 y y1 (tm_ns (J 33) b y1)) (tm_ns (J 33) b y1) (tm_acr al (J 33) a b (tm_nn x x1 y y1 (tm_ns (J 33) b y1)) (tm_ns (J 33) b y1) G) from if_neg hax]
    by_cases hm : tm_ns (J 33) b y1 = y1
    · rw [show tm_nn x x1 y y1 (tm_ns (J 33) b y1) = x1 from if_pos hm] at hnB ⊢
      refine tf_blk _ b_Mod_line_22 rfl ?_
      refine tf_ic_eq 86 29 d_Mod_line_26 rfl rfl (fun h26 => absurd h26 (hax)) (fun h26 => ?_)
      refine tf_blk _ b_Mod_line_29 rfl ?_
      refine tf_cV (tf_gok _ _) (c_Mod_nextStop l D q (d - 1) _ _ (by omega) hT (pos_ne hs) _ _) 37 d_Mod_line_34 rfl lk_Mod_219 cw_Mod_nextStop (by rfl) in_Mod_nextStop se_Mod_nextStop (by exact hT.1.1) (by exact hT.1.2.1) (by rfl) (by rfl) (by omega) (by exact Nat.le_of_ble_eq_true rfl) rfl ?_
      rintro v34 L34 f34 ⟨rfl, rfl, rfl⟩
      refine tf_blk _ b_Mod_line_37 rfl ?_
      refine tf_ic_ne 50 46 d_Mod_line_43 rfl rfl (fun h43 => absurd h43 (not_not_intro hm)) (fun h43 => ?_)
      refine tf_blk _ b_Mod_line_46 rfl ?_
      refine tf_goto 61 d_Mod_line_47 rfl ?_
      refine tf_blk _ b_Mod_line_61 rfl ?_
      refine tf_cV (tf_gok _ _) (c_Mod_across l D q (d - 1) _ _ (by omega) hT hal h32 hs hs2 _ _ _ _ ha hnB) 75 d_Mod_line_72 rfl lk_Mod_233 cw_Mod_across (by rfl) in_Mod_across se_Mod_across (by exact hT.1.1) (by exact hT.1.2.1) (by rfl) (by rfl) (by omega) (by exact Nat.le_of_ble_eq_true rfl) rfl ?_
      rintro v72 L72 f72 ⟨rfl, rfl, hT⟩
      refine tf_blk _ b_Mod_line_75 rfl ?_
      refine tf_goto 22 d_Mod_line_83 rfl ?_
      refine tf_drop [0, 1, 2, 3, 4, 5, 6, 7, 8] rfl ?_
      rw [tm_va2, va_up_self] at hT
      exact ih _ _ _ _ (by omega) hnB s1 (by omega) hT
    rw [show tm_nn x x1 y y1 (tm_ns (J 33) b y1) = tm_att x x1 y y1 (tm_ns (J 33) b y1) from if_neg hm] at hnB ⊢
    refine tf_blk _ b_Mod_line_22 rfl ?_
    refine tf_ic_eq 86 29 d_Mod_line_26 rfl rfl (fun h26 => absurd h26 (hax)) (fun h26 => ?_)
    refine tf_blk _ b_Mod_line_29 rfl ?_
    refine tf_cV (tf_gok _ _) (c_Mod_nextStop l D q (d - 1) _ _ (by omega) hT (pos_ne hs) _ _) 37 d_Mod_line_34 rfl lk_Mod_219 cw_Mod_nextStop (by rfl) in_Mod_nextStop se_Mod_nextStop (by exact hT.1.1) (by exact hT.1.2.1) (by rfl) (by rfl) (by omega) (by exact Nat.le_of_ble_eq_true rfl) rfl ?_
    rintro v34 L34 f34 ⟨rfl, rfl, rfl⟩
    refine tf_blk _ b_Mod_line_37 rfl ?_
    refine tf_ic_ne 50 46 d_Mod_line_43 rfl rfl (fun h43 => ?_) (fun h43 => absurd h43 (hm))
    refine tf_blk _ b_Mod_line_50 rfl ?_
    refine tf_cS (tf_gok _ _) (c_Mod_at l D q (d - 1) _ _ (by omega) _ _ _ _ _ hyy) 61 d_Mod_line_58 rfl lk_Mod_222 cw_Mod_at (by rfl) sa_Mod_at (by omega) (by exact Nat.le_of_ble_eq_true rfl) rfl ?_
    rintro v58 L58 f58 ⟨rfl, rfl, rfl⟩
    refine tf_blk _ b_Mod_line_61 rfl ?_
    refine tf_cV (tf_gok _ _) (c_Mod_across l D q (d - 1) _ _ (by omega) hT hal h32 hs hs2 _ _ _ _ ha hnB) 75 d_Mod_line_72 rfl lk_Mod_233 cw_Mod_across (by rfl) in_Mod_across se_Mod_across (by exact hT.1.1) (by exact hT.1.2.1) (by rfl) (by rfl) (by omega) (by exact Nat.le_of_ble_eq_true rfl) rfl ?_
    rintro v72 L72 f72 ⟨rfl, rfl, hT⟩
    refine tf_blk _ b_Mod_line_75 rfl ?_
    refine tf_goto 22 d_Mod_line_83 rfl ?_
    refine tf_drop [0, 1, 2, 3, 4, 5, 6, 7, 8] rfl ?_
    rw [tm_va2, va_up_self] at hT
    exact ih _ _ _ _ (by omega) hnB s1 (by omega) hT
set_option maxHeartbeats 4000000 in
set_option maxRecDepth 100000 in
theorem c_Mod_line (hd : 4 ≤ d) (hT : tm_at q ad m W0 L J A R f) {al : Nat} (hal : al ≤ 64) (h32 : J 32 = nI al) (hs : 0 < (J 33).toInt) (hs2 : (J 33).toInt ≤ 256) {n : Nat} (hn : n ≤ 8) (h30 : J 30 = nI n) (x y0 x1 y2 : Int32) (hx : iB 1000000 x) (hx1 : iB 1000000 x1) (hy : iB 1000000 ((tm_fit (J 34) n (A 29) (J 33)) y0)) (hy1 : iB 1000000 ((tm_fit (J 34) n (A 29) (J 33)) y2)) : tf_C l (tf_H D q) d i_Mod_line [.ref m, .int x, .int y0, .int x1, .int y2] L f 0 0 (tm_to q ad m W0 L (none) (J) (va_up A 31 (tm_lin al (J 33) x ((tm_fit (J 34) n (A 29) (J 33)) y0) x1 ((tm_fit (J 34) n (A 29) (J 33)) y2) (A 31))) (R)) := by
  refine tf_C.of (tf_gok _ _) (by decide) w_1405 (Nat.le_of_ble_eq_true rfl) ?_
  refine tf_blk _ b_Mod_line_0 rfl ?_
  refine tf_cV (tf_gok _ _) (c_Mod_fit l D q (d - 1) _ _ (by omega) hT hn h30 (pos_ne hs) _) 5 d_Mod_line_2 rfl lk_Mod_230 cw_Mod_fit (by rfl) in_Mod_fit se_Mod_fit (by exact hT.1.1) (by exact hT.1.2.1) (by rfl) (by rfl) (by omega) (by exact Nat.le_of_ble_eq_true rfl) rfl ?_
  rintro v2 L2 f2 ⟨rfl, rfl, rfl⟩
  refine tf_blk _ b_Mod_line_5 rfl ?_
  refine tf_cV (tf_gok _ _) (c_Mod_fit l D q (d - 1) _ _ (by omega) hT hn h30 (pos_ne hs) _) 13 d_Mod_line_10 rfl lk_Mod_230 cw_Mod_fit (by rfl) in_Mod_fit se_Mod_fit (by exact hT.1.1) (by exact hT.1.2.1) (by rfl) (by rfl) (by omega) (by exact Nat.le_of_ble_eq_true rfl) rfl ?_
  rintro v10 L10 f10 ⟨rfl, rfl, rfl⟩
  refine tf_blk _ b_Mod_line_13 rfl ?_
  exact t_Mod_line l D q d _ hd hal h32 hs hs2 hx hx1 hy hy1 _ _ _ _ _ (Nat.le_refl _) hx hy (by omega) (tm_A51 31 hT)
set_option maxHeartbeats 4000000 in
set_option maxRecDepth 100000 in
theorem c_Mod_lineTo (hd : 5 ≤ d) (hT : tm_at q ad m W0 L J A R f) {al : Nat} (hal : al ≤ 64) (h32 : J 32 = nI al) (hs : 0 < (J 33).toInt) (hs2 : (J 33).toInt ≤ 256) {n : Nat} (hn : n ≤ 8) (h30 : J 30 = nI n) (hF : ∀ y, iB 100000 y → iB 1000000 ((tm_fit (J 34) n (A 29) (J 33)) y)) (x y : Int32) (h53 : iB 100000 (J 53)) (h54 : iB 100000 (J 54)) (hx : iB 100000 x) (hy : iB 100000 y) : tf_C l (tf_H D q) d i_Mod_lineTo [.ref m, .int x, .int y] L f 0 0 (tm_to q ad m W0 L (none) (tm_JS J x y) (va_up A 31 (tm_lin al (J 33) (J 53) ((tm_fit (J 34) n (A 29) (J 33)) (J 54)) x ((tm_fit (J 34) n (A 29) (J 33)) y) (A 31))) (R)) := by
  refine tf_C.of (tf_gok _ _) (by decide) w_1401 (Nat.le_of_ble_eq_true rfl) ?_
  refine tf_blk _ b_Mod_lineTo_0 rfl ?_
  refine tm_get 5 d_Mod_lineTo_2 rfl fl_Mod_236 hT rfl ?_
  refine tf_blk _ b_Mod_lineTo_5 rfl ?_
  refine tm_get 9 d_Mod_lineTo_6 rfl fl_Mod_239 hT rfl ?_
  refine tf_blk _ b_Mod_lineTo_9 rfl ?_
  refine tf_cV (tf_gok _ _) (c_Mod_line l D q (d - 1) _ _ (by omega) hT hal h32 hs hs2 hn h30 _ _ _ _ (iB_w h53) (iB_w hx) (hF _ h54) (hF _ hy)) 14 d_Mod_lineTo_11 rfl lk_Mod_242 cw_Mod_line (by rfl) in_Mod_line se_Mod_line (by exact hT.1.1) (by exact hT.1.2.1) (by rfl) (by rfl) (by omega) (by exact Nat.le_of_ble_eq_true rfl) rfl ?_
  rintro v11 L11 f11 ⟨rfl, rfl, hT⟩
  refine tf_blk _ b_Mod_lineTo_14 rfl ?_
  refine tm_put 19 d_Mod_lineTo_16 rfl fw_Mod_236 hT (by decide) rfl rfl rfl (fun f hT => ?_)
  refine tf_blk _ b_Mod_lineTo_19 rfl ?_
  refine tm_put 24 d_Mod_lineTo_21 rfl fw_Mod_239 hT (by decide) rfl rfl rfl (fun f hT => ?_)
  refine tf_vret d_Mod_lineTo_24 rfl ?_
  exact ⟨rfl, rfl, hT⟩
set_option maxHeartbeats 4000000 in
set_option maxRecDepth 100000 in
theorem t_Mod_quad (hd : 6 ≤ d) {al : Nat} (hal : al ≤ 64) (h32 : J 32 = nI al) (hs : 0 < (J 33).toInt) (hs2 : (J 33).toInt ≤ 256) {n : Nat} (hn : n ≤ 8) (h30 : J 30 = nI n) (hF : ∀ y, iB 100000 y → iB 1000000 ((tm_fit (J 34) n (A 29) (J 33)) y)) {a b x y x1 y1 : Int32} (ha : iB 100000 a) (hb : iB 100000 b) (hx : iB 100000 x) (hy : iB 100000 y) (hx1 : iB 100000 x1) (hy1 : iB 100000 y1) : ∀ w k (D0 : tm_D) (f : tf_F), k + w = 8 → iB 100000 D0.1 ∧ iB 100000 D0.2.1 → tm_at q ad m W0 L (tm_JS J D0.1 D0.2.1) (va_up A 31 D0.2.2) R f → tf_W l (tf_H D q) tf_T (tf_QM (tf_H D q) (fun v L2 f2 => v = none ∧ L2 = L ∧ ∃ D2 : tm_D, D2 = tm_qd (tm_fit (J 34) n (A 29) (J 33)) al (J 33) a b x y x1 y1 w k D0 ∧ tm_at q ad m W0 L (tm_JS J D2.1 D2.2.1) (va_up A 31 D2.2.2) R f2)) d i_Mod_quadratic 15 [(0, .ref m), (1, .int x), (2, .int y), (3, .int x1), (4, .int y1), (5, .int a), (6, .int b), (7, .int (nI k))] [] L f 0 0 := by
  intro w
  induction w with
  | zero =>
    intro k D0 f hk hD hT
    refine tf_blk _ b_Mod_quadratic_15 rfl ?_
    refine tf_ic_ge 110 22 d_Mod_quadratic_19 rfl rfl (fun h19 => ?_) (fun h19 => absurd (nI_le (a := 8) (by omega) (by omega)) h19)
    refine tf_blk _ b_Mod_quadratic_110 rfl ?_
    refine tf_cV (tf_gok _ _) (c_Mod_lineTo l D q (d - 1) _ _ (by omega) hT hal h32 hs hs2 hn h30 hF _ _ (show iB 100000 D0.1 from hD.1) (show iB 100000 D0.2.1 from hD.2) hx1 hy1) 117 d_Mod_quadratic_114 rfl lk_Mod_247 cw_Mod_lineTo (by rfl) in_Mod_lineTo se_Mod_lineTo (by exact hT.1.1) (by exact hT.1.2.1) (by rfl) (by rfl) (by omega) (by exact Nat.le_of_ble_eq_true rfl) rfl ?_
    rintro v114 L114 f114 ⟨rfl, rfl, hT⟩
    refine tf_vret d_Mod_quadratic_117 rfl ?_
    rw [tm_JS2, tm_va2, va_up_self] at hT
    exact ⟨rfl, rfl, _, rfl, hT⟩
  | succ w ih =>
    intro k D0 f hk hD hT
    refine tf_blk _ b_Mod_quadratic_15 rfl ?_
    refine tf_ic_ge 110 22 d_Mod_quadratic_19 rfl rfl (fun h19 => absurd h19 (nI_ge (b := 8) (by omega) (by omega))) (fun h19 => ?_)
    refine tf_blk _ b_Mod_quadratic_22 rfl ?_
    refine tf_ldc2 70 d_Mod_quadratic_67 rfl w_1436 ?_
    refine tf_cS (tf_gok _ _) (c_Mod_near l D q (d - 1) _ _ (by omega) (by decide)) 73 d_Mod_quadratic_70 rfl lk_Mod_140 cw_Mod_near (by rfl) sa_Mod_near (by omega) (by exact Nat.le_of_ble_eq_true rfl) rfl ?_
    rintro v70 L70 f70 ⟨rfl, rfl, rfl⟩
    refine tf_blk _ b_Mod_quadratic_73 rfl ?_
    refine tf_ldc2 97 d_Mod_quadratic_94 rfl w_1436 ?_
    refine tf_cS (tf_gok _ _) (c_Mod_near l D q (d - 1) _ _ (by omega) (by decide)) 100 d_Mod_quadratic_97 rfl lk_Mod_140 cw_Mod_near (by rfl) sa_Mod_near (by omega) (by exact Nat.le_of_ble_eq_true rfl) rfl ?_
    rintro v97 L97 f97 ⟨rfl, rfl, rfl⟩
    refine tf_blk _ b_Mod_quadratic_100 rfl ?_
    refine tf_cV (tf_gok _ _) (c_Mod_lineTo l D q (d - 1) _ _ (by omega) hT hal h32 hs hs2 hn h30 hF _ _ (show iB 100000 D0.1 from hD.1) (show iB 100000 D0.2.1 from hD.2) (tm_qp_B (by omega) ha hx hx1) (tm_qp_B (by omega) hb hy hy1)) 104 d_Mod_quadratic_101 rfl lk_Mod_247 cw_Mod_lineTo (by rfl) in_Mod_lineTo se_Mod_lineTo (by exact hT.1.1) (by exact hT.1.2.1) (by rfl) (by rfl) (by omega) (by exact Nat.le_of_ble_eq_true rfl) rfl ?_
    rintro v101 L101 f101 ⟨rfl, rfl, hT⟩
    refine tf_blk _ b_Mod_quadratic_104 rfl ?_
    refine tf_goto 15 d_Mod_quadratic_107 rfl ?_
    refine tf_drop [0, 1, 2, 3, 4, 5, 6, 7] rfl ?_
    rw [tm_JS2, tm_va2, va_up_self] at hT
    rw [show nI k + kI 1 = nI (k + 1) from (nI_succ k).symm]
    exact ih (k + 1) (tm_lt (tm_fit (J 34) n (A 29) (J 33)) al (J 33) (tm_qp a x x1 (nI k)) (tm_qp b y y1 (nI k)) D0) _ (by omega) ⟨tm_qp_B (by omega) ha hx hx1, tm_qp_B (by omega) hb hy hy1⟩ hT
set_option maxHeartbeats 4000000 in
set_option maxRecDepth 100000 in
theorem c_Mod_quadratic (hd : 6 ≤ d) (hT : tm_at q ad m W0 L J A R f) {al : Nat} (hal : al ≤ 64) (h32 : J 32 = nI al) (hs : 0 < (J 33).toInt) (hs2 : (J 33).toInt ≤ 256) {n : Nat} (hn : n ≤ 8) (h30 : J 30 = nI n) (hF : ∀ y, iB 100000 y → iB 1000000 ((tm_fit (J 34) n (A 29) (J 33)) y)) {x y x1 y1 : Int32} {w0 k0 : Nat} (hwk : k0 + w0 = 8) (hk0 : k0 = 1) (h53 : iB 100000 (J 53)) (h54 : iB 100000 (J 54)) (hx : iB 100000 x) (hy : iB 100000 y) (hx1 : iB 100000 x1) (hy1 : iB 100000 y1) : tf_C l (tf_H D q) d i_Mod_quadratic [.ref m, .int x, .int y, .int x1, .int y1] L f 0 0 (fun v L2 f2 => v = none ∧ L2 = L ∧ ∃ D2 : tm_D, D2 = tm_qd (tm_fit (J 34) n (A 29) (J 33)) al (J 33) (J 53) (J 54) x y x1 y1 w0 k0 (J 53, J 54, A 31) ∧ tm_at q ad m W0 L (tm_JS J D2.1 D2.2.1) (va_up A 31 D2.2.2) R f2) := by
  refine tf_C.of (tf_gok _ _) (by decide) w_1435 (Nat.le_of_ble_eq_true rfl) ?_
  refine tf_blk _ b_Mod_quadratic_0 rfl ?_
  refine tm_get 4 d_Mod_quadratic_1 rfl fl_Mod_236 hT rfl ?_
  refine tf_blk _ b_Mod_quadratic_4 rfl ?_
  refine tm_get 10 d_Mod_quadratic_7 rfl fl_Mod_239 hT rfl ?_
  refine tf_blk _ b_Mod_quadratic_10 rfl ?_
  subst hk0
  exact t_Mod_quad l D q d _ hd hal h32 hs hs2 hn h30 hF h53 h54 hx hy hx1 hy1 w0 1 (J 53, J 54, A 31) _ hwk ⟨h53, h54⟩ (by rw [tm_JS0]; exact tm_A51 31 hT)
set_option maxHeartbeats 4000000 in
set_option maxRecDepth 100000 in
theorem c_Mod_middle (hd : 2 ≤ d) (a b : Int32) : tf_C l (tf_H D q) d i_Mod_middle [.int a, .int b] L f 0 0 (tf_rd (.int (tm_mid a b)) L f) := by
  refine tf_C.of (tf_gok _ _) (by decide) w_1431 (Nat.le_of_ble_eq_true rfl) ?_
  refine tf_blk _ b_Mod_middle_0 rfl ?_
  refine tf_ldc2 7 d_Mod_middle_4 rfl w_1372 ?_
  refine tf_cS (tf_gok _ _) (c_Mod_near l D q (d - 1) _ _ (by omega) (by decide)) 10 d_Mod_middle_7 rfl lk_Mod_140 cw_Mod_near (by rfl) sa_Mod_near (by omega) (by exact Nat.le_of_ble_eq_true rfl) rfl ?_
  rintro v7 L7 f7 ⟨rfl, rfl, rfl⟩
  refine tf_blk _ b_Mod_middle_10 rfl ?_
  refine tf_iret d_Mod_middle_11 rfl ?_
  exact ⟨rfl, rfl, rfl⟩
end
