/-! both states: the relation -/
def rBl (mm : Nat) (u w j1 j17 j18 : Int32) : Prop := tc_mm mm ∧ j1 = nI mm ∧ j17 = u ∧ j18 = w ∧ (0 ≤ u.toInt ∧ u.toInt ≤ 1024) ∧ 0 ≤ w.toInt ∧ w.toInt ≤ 1024
/-- glyph g: points, numbers, parts, widths -/
def rGp (mm g : Nat) (G : tc_G) (a3 a4 : Nat → Int32) : Prop := G.pt ≤ 40 ∧ G.cp ≤ G.pt ∧ (∀ i, i < G.pt → ∀ k, k < mm → a3 (160 * g + 4 * i + k) = tm_pk (G.X (i * mm + k)) (G.Y (i * mm + k)) ∧ tm_isP (G.X (i * mm + k)) = true ∧ tm_isP (G.Y (i * mm + k)) = true) ∧ (∀ i, i < G.pt → ∃ c o, o < 2 ∧ c ≤ G.ct ∧ a4 (40 * g + i) = nI (2 * c + o) ∧ G.O i = nI o ∧ (∀ z, z < c → tc_e G z ≤ i) ∧ ∀ z, c ≤ z → z < G.ct → i < tc_e G z) ∧ ∀ i, i < 40 → vp_nar .boolean (G.O i) = G.O i
def rGn (g : Nat) (G : tc_G) (a5 a6 a7 a9 a10 a11 a12 : Nat → Int32) : Prop := a5 g = nI G.pt ∧ a6 g = nI G.cp ∧ a7 g = nI G.ct ∧ a9 g = bI G.lk ∧ a10 g = nI G.dp ∧ a11 g = nI (tc_op G) ∧ a12 g = nI G.pc
def rGc (g : Nat) (G : tc_G) (a13 a14 a15 a16 : Nat → Int32) : Prop := ∀ k, k < G.pc → a13 (4 * g + k) = nI (G.src k) ∧ a14 (4 * g + k) = G.dx k ∧ a15 (4 * g + k) = G.dy k ∧ a16 (4 * g + k) = nI (G.tu k) ∧ iB 4000 (G.dx k) ∧ iB 4000 (G.dy k)
def rGw (mm g : Nat) (G : tc_G) (a8 : Nat → Int32) : Prop := ∀ k, k < mm → a8 (4 * g + k) = G.W k ∧ 0 ≤ (G.W k).toInt ∧ (G.W k).toInt ≤ 4000
def rGi (S : tc_S) (G : tc_G) : Prop := tc_own G ∧ tc_prt S G ∧ G.dp ≤ 4 ∧ ∀ k, k < G.pc → (S.T (G.src k)).lk = true
def rGl (S : tc_S) (j2 : Int32) (A : Nat → Nat → Int32) : Prop := S.n ≤ 40 ∧ j2 = nI S.n ∧ (∀ g, g < S.n → rGp S.mm g (S.T g) (A 3) (A 4) ∧ rGn g (S.T g) (A 5) (A 6) (A 7) (A 9) (A 10) (A 11) (A 12) ∧ rGc g (S.T g) (A 13) (A 14) (A 15) (A 16) ∧ rGw S.mm g (S.T g) (A 8) ∧ rGi S (S.T g)) ∧ ∀ g, S.n ≤ g → g < 40 → A 5 g = nI 0 ∧ A 6 g = nI 0 ∧ A 7 g = nI 0 ∧ A 9 g = bI false ∧ A 10 g = nI 0 ∧ A 11 g = nI 0 ∧ A 12 g = nI 0 ∧ ∀ k, k < 4 → A 8 (4 * g + k) = 0
def rH (n : Nat) (h : Nat → Int32) (j30 : Int32) (a29 : Nat → Int32) : Prop := n ≤ 8 ∧ j30 = nI n ∧ hgt n h a29
def rC (ca : Nat) (ce : Nat → Int32) (j32 : Int32) (a31 : Nat → Int32) : Prop := ca ≤ 64 ∧ j32 = nI ca ∧ ∀ r k, r < ca → k < ca → a31 (ca * r + k) = ce (r * ca + k)
def rK (kl kr kc a35 a36 a37 a38 : Nat → Int32) : Prop := (∀ g, g < 40 → (∃ c, c ≤ 15 ∧ kl g = nI c ∧ a35 g = nI c) ∧ ∃ c, c ≤ 15 ∧ kr g = nI c ∧ a36 g = nI c) ∧ ∀ x y, x < 16 → y < 16 → kc (16 * x + y) = if x = 0 ∨ y = 0 ∨ a38 (16 * x + y) = 0 then 0 else a37 (16 * x + y)
def rP (n kp : Nat) (kL kR kO : Nat → Int32) (j41 : Int32) (a39 a40 : Nat → Int32) : Prop := kp ≤ 40 ∧ j41 = nI kp ∧ (∀ k, k < kp → (∃ i j, i < n ∧ j < n ∧ kL k = nI i ∧ kR k = nI j ∧ a39 k = nI (64 * i + j)) ∧ a40 k = kO k) ∧ ∀ i j, i < j → j < kp → a39 i ≠ a39 j
def rR (n rn : Nat) (RL : Nat → tw_RL) (j47 : Int32) (a42 a43 a44 a46 : Nat → Int32) (R : Nat → Int64) : Prop := rn ≤ 40 ∧ j47 = nI rn ∧ ∀ j, j < rn → a42 j = (RL j).1 ∧ a43 j = (RL j).2.2.2.2 ∧ a44 j = ((RL j).2.1 &&& 65535).toInt32 ∧ R j = (RL j).2.2.1 &&& 4294967295 ∧ a46 j = ((RL j).2.2.2.1 &&& 65535).toInt32 ∧ 1 ≤ tw_len (RL j).2.2.1 4 0 ∧ ∃ o, o < n ∧ (RL j).2.2.2.2 = nI o
def rT (n ts : Nat) (tx : Nat → Int32) (j50 : Int32) (a49 : Nat → Int32) : Prop := ts ≤ 60 ∧ j50 = nI ts ∧ ∀ i, i < ts → a49 i = tx i ∧ ∃ g, g < n ∧ tx i = nI g
def RR (S : tc_S) (J : Nat → Int32) (A : Nat → Nat → Int32) (R : Nat → Int64) : Prop :=
  rBl S.mm S.u S.w (J 1) (J 17) (J 18) ∧ rGl S (J 2) A ∧ rH S.hn S.hy (J 30) (A 29) ∧ rC S.ca S.ce (J 32) (A 31) ∧ rK S.kl S.kr S.kc (A 35) (A 36) (A 37) (A 38) ∧ rP S.n S.kp S.kL S.kR S.kO (J 41) (A 39) (A 40) ∧ rR S.n S.rn S.R (J 47) (A 42) (A 43) (A 44) (A 46) R ∧ rT S.n S.ts S.tx (J 50) (A 49) ∧ rT S.n S.rs S.row (J 52) (A 51) ∧ J 48 = S.pu ∧ S.oA 3 0 = nI 0
theorem bI_iff {b : Bool} : (bI b = 0) = (b = false) := bI_eq0 b
theorem tm_isG_nI {J : Nat → Int32} {n : Nat} (hn : n ≤ 40) (h2 : J 2 = nI n) (g : Int32) : tm_isG J g = true ↔ ∃ i, i < n ∧ g = nI i := by
  unfold tm_isG
  rw [h2, Bool.and_eq_true, decide_eq_true_eq, decide_eq_true_eq]
  constructor
  · rintro ⟨h, k⟩
    obtain ⟨j, hj, e⟩ := nI_of h
    rw [e, nI_leI (by omega) hj] at k
    exact ⟨j, by omega, e⟩
  · rintro ⟨i, hi, e⟩
    rw [e]
    exact ⟨nI_pos (by omega), nI_ge hi (by omega)⟩
theorem tm_isG_no {J : Nat → Int32} {n : Nat} (hn : n ≤ 40) (h2 : J 2 = nI n) (g : Int32) : tm_isG J g = false ↔ ∀ i, i < n → g ≠ nI i := by
  rw [← Bool.not_eq_true, tm_isG_nI hn h2]
  constructor
  · intro h i hi e
    exact h ⟨i, hi, e⟩
  · rintro h ⟨i, hi, e⟩
    exact h i hi e
theorem g_or {n : Nat} (g : Int32) : (∃ i, i < n ∧ g = nI i) ∨ ∀ i, i < n → g ≠ nI i := by
  rcases Classical.em (∃ i, i < n ∧ g = nI i) with h | h
  · exact Or.inl h
  · exact Or.inr (fun i hi e => h ⟨i, hi, e⟩)
theorem tm_isG_J0 {J : Nat → Int32} {v : Int32} (g : Int32) : tm_isG (upd J 0 v) g = tm_isG J g := rfl
theorem in_le {x : Int32} {a b : Int} : tw_in x (kI a) (kI b) = true ↔ (kI a).toInt ≤ x.toInt ∧ x.toInt ≤ (kI b).toInt := by
  unfold tw_in
  rw [Bool.and_eq_true, decide_eq_true_eq, decide_eq_true_eq, Int32.le_iff_toInt_le, Int32.le_iff_toInt_le]
theorem i0_le {x : Int32} {b : Int} : tw_i0 x (kI b) = true ↔ 0 ≤ x.toInt ∧ x.toInt ≤ (kI b).toInt := by
  unfold tw_i0
  rw [Bool.and_eq_true, decide_eq_true_eq, decide_eq_true_eq, Int32.lt_iff_toInt_lt, Int32.lt_iff_toInt_lt, Int32.toInt_zero]
  omega
theorem kt1024 : (kI 1024).toInt = 1024 := by decide
theorem kt0 : (kI 0).toInt = 0 := by decide
theorem b_one (c : Bool) (h : c = true) : bI c = kI 1 := by rw [h]; rfl
/-- instance -/
theorem q_instance {S : tc_S} {J : Nat → Int32} {A : Nat → Nat → Int32} {R : Nat → Int64} (h : RR S J A R) (x y : Int32) : (tc_inst x y S).1 = bI (tm_inst J x y).1 ∧ RR (tc_inst x y S).2 (tm_inst J x y).2 A R := by
  obtain ⟨⟨b1, b2, b3, b4, b5, b6⟩, h2⟩ := h
  unfold tc_inst tm_inst
  by_cases c : tw_in x (kI 0) (kI 1024) = true ∧ tw_in y (kI 0) (kI 1024) = true
  · have c2 := c
    rw [in_le, in_le, kt0, kt1024] at c2
    have c3 : (tw_i0 x (kI 1024) && tw_i0 y (kI 1024)) = true := by rw [Bool.and_eq_true, i0_le, i0_le, kt1024]; omega
    rw [if_pos c, if_pos c3]
    exact ⟨rfl, ⟨b1, b2, rfl, rfl, c2.1, c2.2⟩, h2⟩
  · have c3 : ¬ (tw_i0 x (kI 1024) && tw_i0 y (kI 1024)) = true := by
      rw [in_le, in_le, kt0, kt1024] at c
      rw [Bool.and_eq_true, i0_le, i0_le, kt1024]
      omega
    rw [if_neg c, if_neg c3]
    exact ⟨rfl, ⟨b1, b2, b3, b4, b5, b6⟩, h2⟩
/-- count -/
theorem q_count {S : tc_S} {J : Nat → Int32} {A : Nat → Nat → Int32} {R : Nat → Int64} (h : RR S J A R) (w : Int32) : tc_count w S = tm_count J w ∧ RR S (upd J 0 (kI 0)) A R := by
  obtain ⟨h1, h2, h3, h4, h5, h6, h7, h8, h9, h10⟩ := h
  refine ⟨?_, h1, h2, h3, h4, h5, h6, h7, h8, h9, h10⟩
  unfold tc_count tm_count
  rw [h2.2.1, h3.2.1, h6.2.1, h7.2.1, h8.2.1, h9.2.1, h10.1]
/-- only thrown has changed -/
theorem RR.t {S : tc_S} {J : Nat → Int32} {A : Nat → Nat → Int32} {R : Nat → Int64} (h : RR S J A R) (v : Int32) : RR S (upd J 0 v) A R := h
/-- type -/
theorem q_type {S : tc_S} {J : Nat → Int32} {A : Nat → Nat → Int32} {R : Nat → Int64} (h : RR S J A R) {i : Nat} (hi : i < S.n) : (tc_type i S).1 = bI (tm_type J A (nI i)).1 ∧ RR (tc_type i S).2 (tm_type J A (nI i)).2.1 (tm_type J A (nI i)).2.2 R := by
  have hG : tm_isG J (nI i) = true := (tm_isG_nI h.2.1.1 h.2.1.2.1 _).mpr ⟨i, hi, rfl⟩
  obtain ⟨h1, h2, h3, h4, h5, h6, h7, ⟨t1, t2, t3⟩, h9, h10⟩ := h
  have h50 : tm_J0 J 50 = nI S.ts := t2
  unfold tc_type tm_type
  rw [if_neg (c := bI (tm_isG (tm_J0 J) (nI i)) = 0) (by rw [tm_isG_J0, hG]; decide), h50]
  by_cases c : S.ts < 60
  · rw [if_pos c, if_neg (by intro z; have := (nI_eq (b := 60) (by omega) (by omega)).mp z; omega)]
    refine ⟨rfl, h1, h2, h3, h4, h5, h6, h7, ⟨?_, ?_, ?_⟩, h9, h10⟩
    · show S.ts + 1 ≤ 60
      omega
    · show nI S.ts + kI 1 = nI (S.ts + 1)
      exact (nI_succ _).symm
    · intro k hk
      have hk2 : k < S.ts + 1 := hk
      show upd (A 49) (nI S.ts).toNatClampNeg (nI i) k = upd S.tx S.ts (nI i) k ∧ ∃ g, g < S.n ∧ upd S.tx S.ts (nI i) k = nI g
      rw [nI_clamp (by omega)]
      unfold upd
      by_cases e : k = S.ts
      · rw [if_pos e, if_pos e]; exact ⟨rfl, i, hi, rfl⟩
      · rw [if_neg e, if_neg e]; exact t3 k (by omega)
  · rw [if_neg c, if_pos (by rw [show S.ts = 60 by omega]; rfl)]
    exact ⟨rfl, h1, h2, h3, h4, h5, h6, h7, ⟨t1, t2, t3⟩, h9, h10⟩
theorem q_type_n {S : tc_S} {J : Nat → Int32} {A : Nat → Nat → Int32} {R : Nat → Int64} (h : RR S J A R) {g : Int32} (hg : ∀ i, i < S.n → g ≠ nI i) : tm_type J A g = (false, tm_J0 J, A) := by
  have hG : tm_isG J g = false := (tm_isG_no h.2.1.1 h.2.1.2.1 _).mpr hg
  unfold tm_type
  rw [if_pos (by rw [tm_isG_J0, hG]; rfl)]
/-- pixel -/
theorem q_pixel {S : tc_S} {J : Nat → Int32} {A : Nat → Nat → Int32} {R : Nat → Int64} (h : RR S J A R) (x y : Int32) : tc_pixel x y S = tm_pix J A x y := by
  obtain ⟨h1, h2, h3, ⟨c1, c2, c3⟩, h5⟩ := h
  have h32 : tm_J0 J 32 = nI S.ca := c2
  have ha := nI_toInt (n := S.ca) (by omega)
  have hm : (nI S.ca - kI 1).toInt = S.ca - 1 := by rw [i3_sub (by rw [ha, k1_i]; omega) (by rw [ha, k1_i]; omega), ha, k1_i]
  unfold tc_pixel tm_pix
  rw [h32]
  have hin : ∀ z : Int32, tw_in z (kI 0) (nI S.ca - kI 1) = true ↔ ∃ k : Nat, k < S.ca ∧ z = nI k := by
    intro z
    unfold tw_in
    rw [Bool.and_eq_true, decide_eq_true_eq, decide_eq_true_eq, Int32.le_iff_toInt_le, Int32.le_iff_toInt_le, kt0, hm]
    constructor
    · intro q
      exact ⟨z.toInt.toNat, by omega, nI_tie (by omega) (by omega)⟩
    · rintro ⟨k, hk, e⟩
      rw [e, nI_toInt (by omega)]
      omega
  by_cases c : tw_in x (kI 0) (nI S.ca - kI 1) = true ∧ tw_in y (kI 0) (nI S.ca - kI 1) = true
  · rw [if_pos c]
    obtain ⟨⟨i, hi, ei⟩, ⟨j, hj, ej⟩⟩ := (⟨(hin x).mp c.1, (hin y).mp c.2⟩ : _ ∧ _)
    have hb : j * S.ca + i < 4096 + 4096 := by
      have := Nat.mul_le_mul (show j ≤ 64 by omega) (show S.ca ≤ 64 by omega)
      omega
    rw [ei, ej, if_neg (nI_pos (by omega)), if_neg (nI_pos (by omega)), if_neg (nI_ge hi (by omega)), if_pos (nI_lt hj (by omega)), nI_mul, nI_mul, nI_add, nI_add, nI_clamp (by omega), nI_clamp (by rw [Nat.mul_comm]; omega)]
    exact (c3 j i hj hi).symm
  · rw [if_neg c]
    by_cases d1 : x < 0
    · rw [if_pos d1]
    by_cases d2 : y < 0
    · rw [if_neg d1, if_pos d2]
    rw [if_neg d1, if_neg d2]
    obtain ⟨i, hi, ei⟩ := nI_of d1
    obtain ⟨j, hj, ej⟩ := nI_of d2
    by_cases d3 : nI S.ca ≤ x
    · rw [if_pos d3]
    rw [if_neg d3]
    by_cases d4 : y < nI S.ca
    · exfalso
      rw [ei, nI_leI (by omega) hi] at d3
      rw [ej, nI_ltI hj (by omega)] at d4
      exact c ⟨(hin x).mpr ⟨i, by omega, ei⟩, (hin y).mpr ⟨j, d4, ej⟩⟩
    · rw [if_neg d4]
