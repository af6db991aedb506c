/-! the law on a new object: what both sides answer -/
abbrev i_Law_law : tf_I := (x, code, maxLocals, ret)
def lw_B (adm : Nat → Nat) (m ou : Nat) : Nat → Prop := fun z => tm_own adm m z ∨ z = ou
def tm_Jz (c : Nat) : Nat → Int32 := upd (fun _ => 0) 1 (nI c)
theorem tm_isG0 {J : Nat → Int32} (h : J 2 = 0) (g : Int32) : tm_isG J g = false := by
  unfold tm_isG
  rw [h]
  by_cases z : g < 0
  · simp [z]
  · simp [Int32.not_lt.mp z]
theorem tm_mv {q : Nat → ClassId} {ad : Nat → Nat} {m : Nat} {J : Nat → Int32} {A : Nat → Nat → Int32} {R : Nat → Int64} {L L2 : List Nat} {f f2 : tf_F} (h : tm_ok q ad m J A R L f) (hL : ∀ z ∈ L, z ∈ L2) (hf : ∀ z, z ∈ L → tm_own ad m z → f2 z = f z) : tm_at q ad m f2 L2 J A R f2 :=
  ⟨⟨hL _ h.1, (hf m h.1 (Or.inl rfl)).trans h.2.1, fun k hk => ⟨hL _ (h.2.2.1 k hk).1, (hf _ (h.2.2.1 k hk).1 (Or.inr ⟨k, hk, rfl⟩)).trans (h.2.2.1 k hk).2⟩, h.2.2.2⟩, fun _ _ => rfl⟩
theorem tc_n0 {c : Nat} {k : Int32} : ∀ i, i < (tc_S0 c).n → k ≠ nI i := fun i hi => absurd hi (Nat.not_lt_zero i)
theorem bI_of {a b : Bool} (h : a = b) : bI a = bI b := by rw [h]
theorem tw_in_i0 (x : Int32) (n : Int32) : tw_in x (kI 0) n = tw_i0 x n := by
  unfold tw_in tw_i0
  by_cases z : x < 0
  · have : ¬ kI 0 ≤ x := fun w => absurd (Int32.lt_of_le_of_lt w z) (by decide)
    simp [z, this]
  · have : kI 0 ≤ x := Int32.not_lt.mp z
    by_cases w : n < x
    · simp [z, this, w, Int32.not_le.mpr w]
    · simp [z, this, w, Int32.not_lt.mp w]
theorem tw_in_nn (x a b : Int32) : tw_in x a b = (decide (¬ x < a) && decide (¬ b < x)) := by
  unfold tw_in
  rw [show decide (a ≤ x) = decide (¬ x < a) from decide_eq_decide.mpr Int32.not_lt.symm, show decide (x ≤ b) = decide (¬ b < x) from decide_eq_decide.mpr Int32.not_lt.symm]
theorem lw_e6 (c : Nat) (u v : Int32) : (tc_inst u v (tc_S0 c)).1 = bI (tm_inst (tm_Jz c) u v).1 := by
  unfold tc_inst tm_inst
  rw [tw_in_i0, tw_in_i0]
  cases tw_i0 u (kI 1024) <;> cases tw_i0 v (kI 1024) <;> rfl
theorem lw_e8 (c : Nat) (y : Int32) : (tc_height y (tc_S0 c)).1 = bI (tm_height (tm_Jz c) (fun _ _ => 0) 0 y).1 := by
  have e : tm_isP y = tw_in y (kI (-2000)) (kI 4000) := (tw_in_nn _ _ _).symm
  have hok : tc_hok y (tc_S0 c) := ⟨(show 0 < 8 by decide), fun z => absurd z.1 (Nat.not_lt_zero _)⟩
  by_cases h : tw_in y (kI (-2000)) (kI 4000) = true
  · rw [tc_height, if_pos ⟨h, hok⟩, tm_height, if_neg (by rw [e, h]; decide), if_neg (show ¬ ¬ bI (tm_told (fun _ => 0) y 0 0 false) = 0 from not_not_intro rfl), if_neg (by decide)]
    rfl
  · rw [tc_height, if_neg (fun z => h z.1), tm_height, if_pos (by rw [e, Bool.eq_false_iff.mpr h]; rfl)]
    rfl
theorem lw_e10a (i : Int32) : tw_in i (kI 0) (nI 0 - kI 1) = false := by
  unfold tw_in
  rw [Bool.and_eq_false_iff]
  by_cases h : kI 0 ≤ i
  · exact Or.inr (decide_eq_false (fun z => absurd (Int32.le_trans h z) (by decide)))
  · exact Or.inl (decide_eq_false h)
theorem lw_e10 (c : Nat) (i j : Int32) : tc_pixel i j (tc_S0 c) = tm_pix (tm_Jz c) (fun _ _ => 0) i j := by
  rw [tc_pixel, if_neg (fun z => absurd ((show tw_in i (kI 0) (nI (tc_S0 c).ca - kI 1) = false from lw_e10a i).symm.trans z.1) (by decide))]
  unfold tm_pix
  by_cases h1 : i < 0
  · rw [if_pos h1]
  · rw [if_neg h1]
    by_cases h2 : j < 0
    · rw [if_pos h2]
    · rw [if_neg h2, if_pos (show tm_J0 (tm_Jz c) 32 ≤ i from Int32.not_lt.mp h1)]
theorem lw_e11 {J : Nat → Int32} {A : Nat → Nat → Int32} {g : Int32} (hG : bI (tm_isG (tm_J0 J) g) = 0) (s t : Int32) : kI 0 = bI (tm_sort J A s g t).1 := by
  unfold tm_sort
  by_cases h1 : s < 0
  · rw [if_pos h1]; rfl
  · rw [if_neg h1]
    by_cases h2 : kI 1 < s
    · rw [if_pos h2]; rfl
    · rw [if_neg h2, if_pos hG]; rfl
theorem lw_kv {u v : Int32} (h1 : ¬ u < kI 1) (h2 : ¬ kI 15 < u) (h3 : ¬ v < kI 1) (h4 : ¬ kI 15 < v) : vp_in (kI 16 * u + v) 256 := by
  rw [Int32.mul_comm]
  refine tw_kidx ?_ ?_
  · rw [tw_in_nn, decide_eq_true h1, decide_eq_true h2]; rfl
  · rw [tw_in_nn, decide_eq_true h3, decide_eq_true h4]; rfl
theorem lw_e12 (c : Nat) (u v b : Int32) : (tc_kern u v b (tc_S0 c)).1 = bI (tm_kern (fun _ _ => 0) u v b).1 := by
  have e : tm_isK b = tw_isKern b := (tw_in_nn _ _ _).symm
  unfold tc_kern tm_kern
  rw [tw_in_nn, tw_in_nn, e]
  by_cases h1 : u < kI 1
  · rw [if_pos h1, if_neg (fun z => by simp [h1] at z)]; rfl
  rw [if_neg h1]
  by_cases h2 : kI 15 < u
  · rw [if_pos h2, if_neg (fun z => by simp [h2] at z)]; rfl
  rw [if_neg h2]
  by_cases h3 : v < kI 1
  · rw [if_pos h3, if_neg (fun z => by simp [h3] at z)]; rfl
  rw [if_neg h3]
  by_cases h4 : kI 15 < v
  · rw [if_pos h4, if_neg (fun z => by simp [h4] at z)]; rfl
  rw [if_neg h4]
  by_cases h5 : tw_isKern b = true
  · rw [if_pos (by simp [h1, h2, h3, h4, h5]), if_neg (show ¬ bI (tw_isKern b) = 0 by rw [h5]; decide)]; rfl
  · rw [if_pos (show bI (tw_isKern b) = 0 by rw [Bool.eq_false_iff.mpr h5]; rfl), if_neg (fun z => h5 z.2.2)]; rfl
theorem tw_rows_le2 (R : Nat → tw_RL) (n : Nat) : ∀ m k x, (tw_rows R n m k x).2.1 ≤ x.2.1 := by
  intro m
  induction m with
  | zero => intro k x; exact Nat.le_refl _
  | succ m ih => intro k x; rw [tw_rows]; exact Nat.le_trans (ih _ _) (tw_run_le R n (nI k) 60 0 x)
theorem lw_e16 (c : Nat) : (tc_shape (tc_S0 c)).1 = kI 0 := by
  have h : (tc_rows (tc_S0 c)).2.1 = 0 := Nat.le_zero.mp (tw_rows_le2 _ _ 8 0 _)
  show nI (tc_rows (tc_S0 c)).2.1 = kI 0
  rw [h]
  rfl
theorem lw_e18 (c : Nat) (w : Int32) : tc_count w (tc_S0 c) = tm_count (tm_Jz c) w := rfl
theorem lw_made0 (c : Nat) (be ip af : Int64) (ou : Int32) : tc_made be ip af ou (tc_S0 c) = false := by
  unfold tc_made
  rw [show tw_in ou (kI 0) (nI (tc_S0 c).n - kI 1) = false from lw_e10a ou, Bool.and_false, Bool.and_false, Bool.and_false, Bool.and_false]
theorem lw_in0 {i : Int32} (h : ¬ i = nI 0) : tw_in i (kI 0) (nI 0) = false := by
  unfold tw_in
  rw [Bool.and_eq_false_iff]
  by_cases h1 : kI 0 ≤ i
  · exact Or.inr (decide_eq_false (fun z => h (Int32.le_antisymm z h1)))
  · exact Or.inl (decide_eq_false h1)
theorem lw_rok {c : Nat} (hc : tc_mm c) : tc_rowOk (tc_S0 c) := ⟨Nat.zero_le _, Nat.zero_le _, Nat.zero_le _, hc, fun k hk => absurd hk (Nat.not_lt_zero k), fun g _ => ⟨⟨0, by omega, rfl⟩, 0, by omega, rfl⟩⟩
/-- a new glyph leaves all else as it was -/
theorem lw_gl {q : Nat → ClassId} {ad : Nat → Nat} {S : tc_S} {B : Nat → Prop} {L L2 : List Nat} {f f2 : tf_F} {c : Nat} {e1 : Nat → va_E} {e2 : va_E} (hS : tc_at q ad S B L f) (h : ∃ (a : Nat) (r : Nat → Nat) (f1 : tf_F), a ∉ L ∧ tf_mk (L ++ [a]) (va_up f a tw_ge) a (tw_g0 q c r) (tw_go c r) none L2 f1 ∧ f2 = va_up (va_up f1 (ad 2) (e1 a)) (ad 0) e2) : (∀ z ∈ L, z ∈ L2) ∧ ∀ z, B z → z ∈ L → f2 z = f z := by
  obtain ⟨a, r, f1, ha, ⟨m1, m2, m3, m4, m5, m6, m7⟩, rfl⟩ := h
  refine ⟨fun z hz => by rw [m2]; exact List.mem_append_left _ (List.mem_append_left _ hz), fun z hb hz => ?_⟩
  have n0 : z ≠ ad 0 := fun e => hS.2 0 (tc_isF (by decide)) (e ▸ hb)
  have n2 : z ≠ ad 2 := fun e => hS.2 2 (tc_isF (by decide)) (e ▸ hb)
  have na : z ≠ a := fun e => ha (e ▸ hz)
  rw [va_up_ne _ _ n0, va_up_ne _ _ n2, m7 z (List.mem_append_left _ hz) na, va_up_ne _ _ na]
theorem lw_e0 (c : Nat) (g1 : Nat → Int64) : lg_cmp (va_upJ g1 (nI 0) (kI 0).toNatClampNeg) (tm_glyph (tm_Jz c)).1.toInt64 = 0 := by
  have e1 : va_upJ g1 (nI 0) (kI 0).toNatClampNeg = (nI 0).toInt64 := by simp [va_upJ, vp_updL]
  have e2 : (tm_glyph (tm_Jz c)).1 = nI 0 := by
    rw [tm_glyph, if_neg (show ¬ tm_Jz c 2 = kI 40 from show ¬ (0 : Int32) = kI 40 by decide)]
    show (0 : Int32) + kI 1 - kI 1 = nI 0
    decide
  rw [e1, e2]
  decide
