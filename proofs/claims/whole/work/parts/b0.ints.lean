/-! ints: Int32 and Int64 as Int -/
theorem i3_add {a b : Int32} (h1 : -2 ^ 31 ≤ a.toInt + b.toInt) (h2 : a.toInt + b.toInt < 2 ^ 31) : (a + b).toInt = a.toInt + b.toInt := by
  rw [Int32.toInt_add]
  exact Int.bmod_eq_of_le (by omega) (by omega)
theorem i3_sub {a b : Int32} (h1 : -2 ^ 31 ≤ a.toInt - b.toInt) (h2 : a.toInt - b.toInt < 2 ^ 31) : (a - b).toInt = a.toInt - b.toInt := by
  rw [Int32.toInt_sub]
  exact Int.bmod_eq_of_le (by omega) (by omega)
theorem i3_neg {a : Int32} (h2 : -2 ^ 31 < a.toInt) : (-a).toInt = -a.toInt := by
  have h := a.toInt_lt
  rw [Int32.toInt_neg]
  exact Int.bmod_eq_of_le (by omega) (by omega)
theorem i3_mul {a b : Int32} (h1 : -2 ^ 31 ≤ a.toInt * b.toInt) (h2 : a.toInt * b.toInt < 2 ^ 31) : (a * b).toInt = a.toInt * b.toInt := by
  rw [Int32.toInt_mul]
  exact Int.bmod_eq_of_le (by omega) (by omega)
theorem i6_add {a b : Int64} (h1 : -2 ^ 63 ≤ a.toInt + b.toInt) (h2 : a.toInt + b.toInt < 2 ^ 63) : (a + b).toInt = a.toInt + b.toInt := by
  rw [Int64.toInt_add]
  exact Int.bmod_eq_of_le (by omega) (by omega)
theorem i6_sub {a b : Int64} (h1 : -2 ^ 63 ≤ a.toInt - b.toInt) (h2 : a.toInt - b.toInt < 2 ^ 63) : (a - b).toInt = a.toInt - b.toInt := by
  rw [Int64.toInt_sub]
  exact Int.bmod_eq_of_le (by omega) (by omega)
theorem i6_mul {a b : Int64} (h1 : -2 ^ 63 ≤ a.toInt * b.toInt) (h2 : a.toInt * b.toInt < 2 ^ 63) : (a * b).toInt = a.toInt * b.toInt := by
  rw [Int64.toInt_mul]
  exact Int.bmod_eq_of_le (by omega) (by omega)
theorem i6_neg {a : Int64} (h2 : -2 ^ 63 < a.toInt) : (-a).toInt = -a.toInt := by
  have h := a.toInt_lt
  rw [Int64.toInt_neg]
  exact Int.bmod_eq_of_le (by omega) (by omega)
theorem i6_of (a : Int32) : a.toInt64.toInt = a.toInt := Int32.toInt_toInt64 a
theorem i3_of {a : Int64} (h1 : -2 ^ 31 ≤ a.toInt) (h2 : a.toInt < 2 ^ 31) : a.toInt32.toInt = a.toInt := by
  rw [Int64.toInt_toInt32]
  exact Int.bmod_eq_of_le (by omega) (by omega)
theorem i3_ext {a b : Int32} (h : a.toInt = b.toInt) : a = b := Int32.toInt_inj.mp h
theorem i6_ext {a b : Int64} (h : a.toInt = b.toInt) : a = b := Int64.toInt_inj.mp h
theorem i6_div {a b : Int64} (hb : 0 < b.toInt) : (a / b).toInt = a.toInt.tdiv b.toInt := by
  have h1 := a.le_toInt
  have h2 := a.toInt_lt
  rw [Int64.toInt_div]
  have h3 : (a.toInt.tdiv b.toInt).natAbs ≤ a.toInt.natAbs := by
    rw [Int.natAbs_tdiv]
    exact Nat.div_le_self _ _
  by_cases h4 : a.toInt.tdiv b.toInt = 2 ^ 63
  · exfalso
    have h5 := Int.tmod_add_mul_tdiv a.toInt b.toInt
    have h6 := Int.lt_tmod_of_pos a.toInt hb
    rw [h4] at h5
    omega
  · exact Int.bmod_eq_of_le (by omega) (by omega)
/-- floor of a quotient, as both sides compute it -/
theorem fl_core {a q b : Int} (hb : 0 < b) (hq : q = a.tdiv b) : (if a - q * b < 0 then q - 1 else q) = a / b := by
  subst hq
  have h1 := Int.tmod_add_mul_tdiv a b
  have h2 : a - a.tdiv b * b = a.tmod b := by
    have : b * a.tdiv b = a.tdiv b * b := Int.mul_comm _ _
    omega
  rw [h2]
  have h3 := Int.tmod_lt_of_pos a hb
  have h4 := Int.lt_tmod_of_pos a hb
  by_cases h : a.tmod b < 0
  · rw [if_pos h]
    have e : b * (a.tdiv b - 1) = b * a.tdiv b - b := by rw [Int.mul_sub, Int.mul_one]
    exact (((Int.ediv_emod_unique hb).mpr ⟨show a.tmod b + b + b * (a.tdiv b - 1) = a by omega, by omega, by omega⟩).1).symm
  · rw [if_neg h]
    exact (((Int.ediv_emod_unique hb).mpr ⟨h1, by omega, h3⟩).1).symm
theorem lg_cmp_0 (x : Int64) : (0 ≤ lg_cmp x 0) = ¬ (x.toInt < 0) := by
  unfold lg_cmp
  have e0 : (0 : Int64).toInt = 0 := by decide
  by_cases h1 : x > 0
  · rw [if_pos h1]
    have h2 : (0 : Int64) < x := h1
    rw [Int64.lt_iff_toInt_lt, e0] at h2
    exact propext ⟨fun _ => by omega, fun _ => by decide⟩
  · rw [if_neg h1]
    by_cases h2 : x = 0
    · rw [if_pos h2, h2, e0]
      exact propext ⟨fun _ => by omega, fun _ => by decide⟩
    · rw [if_neg h2]
      have h3 : ¬ (0 : Int64) < x := h1
      rw [Int64.lt_iff_toInt_lt, e0] at h3
      have h4 : ¬ x.toInt = 0 := fun z => h2 (i6_ext (by rw [z, e0]))
      exact propext ⟨fun z => absurd z (by decide), fun z => absurd (show x.toInt < 0 by omega) z⟩
theorem td_abs {a b : Int} (hb : 0 < b) : (a.tdiv b * b).natAbs ≤ a.natAbs := by
  rw [Int.natAbs_mul, Int.natAbs_tdiv]
  exact Nat.div_mul_le_self _ _
theorem tm_fl_i {a b : Int64} (hb : 0 < b.toInt) : (tm_fl a b).toInt = a.toInt / b.toInt := by
  have h1 := a.le_toInt
  have h2 := a.toInt_lt
  have hd := i6_div (a := a) hb
  have h3 := td_abs (a := a.toInt) hb
  have e0 : (0 : Int64).toInt = 0 := by decide
  have e1 : (1 : Int64).toInt = 1 := by decide
  have h4 := Int.tmod_add_mul_tdiv a.toInt b.toInt
  have h5 := Int.lt_tmod_of_pos a.toInt hb
  have h6 := Int.tmod_lt_of_pos a.toInt hb
  have h7 := b.toInt_lt
  have h8 : b.toInt * a.toInt.tdiv b.toInt = a.toInt.tdiv b.toInt * b.toInt := Int.mul_comm _ _
  have hm : (a / b * b).toInt = a.toInt.tdiv b.toInt * b.toInt := by
    rw [i6_mul (by rw [hd]; omega) (by rw [hd]; omega), hd]
  have hs : (a - a / b * b).toInt = a.toInt - a.toInt.tdiv b.toInt * b.toInt := by
    rw [i6_sub (by rw [hm]; omega) (by rw [hm]; omega), hm]
  have hc := fl_core (a := a.toInt) hb rfl
  rw [← hc, ← hs]
  have hl := lg_cmp_0 (a - a / b * b)
  unfold tm_fl
  by_cases hn : (a - a / b * b).toInt < 0
  · rw [if_pos hn, if_neg (show ¬ 0 ≤ lg_cmp (a - a / b * b) 0 from by rw [hl]; exact not_not_intro hn), i6_sub, hd, e1]
    · rw [hd, e1]
      have h9 : (a.toInt.tdiv b.toInt).natAbs ≤ a.toInt.natAbs := by
        rw [Int.natAbs_tdiv]
        exact Nat.div_le_self _ _
      rcases Int.lt_or_le (-2 ^ 63) (a.toInt.tdiv b.toInt) with h | h
      · omega
      · exfalso
        have : a.toInt.tdiv b.toInt = -2 ^ 63 := by omega
        rw [this] at h4 hs
        omega
    · rw [hd, e1]
      have h9 : (a.toInt.tdiv b.toInt).natAbs ≤ a.toInt.natAbs := by
        rw [Int.natAbs_tdiv]
        exact Nat.div_le_self _ _
      omega
  · rw [if_neg hn, if_pos (show 0 ≤ lg_cmp (a - a / b * b) 0 from by rw [hl]; exact hn), hd]
theorem i6_neg_msb (x : Int64) : x.toBitVec.msb = decide (x.toInt < 0) := BitVec.msb_eq_toInt
theorem i3_neg_msb (x : Int32) : x.toBitVec.msb = decide (x.toInt < 0) := BitVec.msb_eq_toInt
theorem i6_xor {x y : Int64} (hy : 0 < y.toInt) : (x ^^^ y < 0) = (x.toInt < 0) := by
  have e0 : (0 : Int64).toInt = 0 := by decide
  have h1 := i6_neg_msb (x ^^^ y)
  have h2 := i6_neg_msb x
  have h3 := i6_neg_msb y
  rw [Int64.toBitVec_xor, BitVec.msb_xor, h2, h3, decide_eq_false (show ¬ y.toInt < 0 by omega), Bool.xor_false] at h1
  rw [Int64.lt_iff_toInt_lt, e0]
  exact propext ⟨fun z => by rw [decide_eq_true z] at h1; exact of_decide_eq_true h1, fun z => by rw [decide_eq_true z] at h1; exact of_decide_eq_true h1.symm⟩
theorem i3_xor {x y : Int32} (hy : 0 < y.toInt) : (x ^^^ y < 0) = (x.toInt < 0) := by
  have e0 : (0 : Int32).toInt = 0 := by decide
  have h1 := i3_neg_msb (x ^^^ y)
  have h2 := i3_neg_msb x
  have h3 := i3_neg_msb y
  rw [Int32.toBitVec_xor, BitVec.msb_xor, h2, h3, decide_eq_false (show ¬ y.toInt < 0 by omega), Bool.xor_false] at h1
  rw [Int32.lt_iff_toInt_lt, e0]
  exact propext ⟨fun z => by rw [decide_eq_true z] at h1; exact of_decide_eq_true h1, fun z => by rw [decide_eq_true z] at h1; exact of_decide_eq_true h1.symm⟩
theorem fl_core2 {a b : Int} (hb : 0 < b) : (a - a.tdiv b * b < 0) = (a < 0 ∧ ¬ a.tdiv b * b = a) := by
  have h1 := Int.tmod_add_mul_tdiv a b
  have h2 : b * a.tdiv b = a.tdiv b * b := Int.mul_comm _ _
  have h3 := Int.tmod_lt_of_pos a hb
  have h4 := Int.lt_tmod_of_pos a hb
  have h5 := td_abs (a := a) hb
  refine propext ⟨fun h => ⟨?_, by omega⟩, fun ⟨h6, h7⟩ => ?_⟩
  · rcases Int.lt_or_le a 0 with h6 | h6
    · exact h6
    · have h7 := Int.tmod_nonneg b h6
      omega
  · omega
theorem fdJ_i {x y : Int64} (hy : 0 < y.toInt) : (fdJ x y).toInt = x.toInt / y.toInt := by
  rw [← tm_fl_i hy]
  have hl := lg_cmp_0 (x - x / y * y)
  have h1 := x.le_toInt
  have h2 := x.toInt_lt
  have hd := i6_div (a := x) hy
  have h3 := td_abs (a := x.toInt) hy
  have h4 := Int.tmod_add_mul_tdiv x.toInt y.toInt
  have h5 := Int.lt_tmod_of_pos x.toInt hy
  have h6 := Int.tmod_lt_of_pos x.toInt hy
  have h7 := y.toInt_lt
  have h8 : y.toInt * x.toInt.tdiv y.toInt = x.toInt.tdiv y.toInt * y.toInt := Int.mul_comm _ _
  have hm : (x / y * y).toInt = x.toInt.tdiv y.toInt * y.toInt := by
    rw [i6_mul (by rw [hd]; omega) (by rw [hd]; omega), hd]
  have hs : (x - x / y * y).toInt = x.toInt - x.toInt.tdiv y.toInt * y.toInt := by
    rw [i6_sub (by rw [hm]; omega) (by rw [hm]; omega), hm]
  rw [hs, fl_core2 hy] at hl
  have hx : (x ^^^ y < 0 ∧ ¬ x / y * y = x) = (x.toInt < 0 ∧ ¬ x.toInt.tdiv y.toInt * y.toInt = x.toInt) := by
    rw [i6_xor hy]
    refine propext ⟨fun z => ⟨z.1, fun e => z.2 (i6_ext (by rw [hm, e]))⟩, fun z => ⟨z.1, fun e => z.2 (by rw [← hm, e])⟩⟩
  congr 1
  unfold fdJ tm_fl
  by_cases hc : x.toInt < 0 ∧ ¬ x.toInt.tdiv y.toInt * y.toInt = x.toInt
  · rw [if_pos (show x ^^^ y < 0 ∧ ¬ x / y * y = x from by rw [hx]; exact hc), if_neg (show ¬ 0 ≤ lg_cmp (x - x / y * y) 0 from by rw [hl]; exact not_not_intro hc)]
  · rw [if_neg (show ¬ (x ^^^ y < 0 ∧ ¬ x / y * y = x) from by rw [hx]; exact hc), if_pos (show 0 ≤ lg_cmp (x - x / y * y) 0 from by rw [hl]; exact hc)]
theorem i3_div {a b : Int32} (hb : 0 < b.toInt) : (a / b).toInt = a.toInt.tdiv b.toInt := by
  have h1 := a.le_toInt
  have h2 := a.toInt_lt
  rw [Int32.toInt_div]
  have h3 : (a.toInt.tdiv b.toInt).natAbs ≤ a.toInt.natAbs := by
    rw [Int.natAbs_tdiv]
    exact Nat.div_le_self _ _
  by_cases h4 : a.toInt.tdiv b.toInt = 2 ^ 31
  · exfalso
    have h5 := Int.tmod_add_mul_tdiv a.toInt b.toInt
    have h6 := Int.lt_tmod_of_pos a.toInt hb
    rw [h4] at h5
    omega
  · exact Int.bmod_eq_of_le (by omega) (by omega)
theorem fdI_i {x y : Int32} (hy : 0 < y.toInt) : (fdI x y).toInt = x.toInt / y.toInt := by
  have h1 := x.le_toInt
  have h2 := x.toInt_lt
  have hd := i3_div (a := x) hy
  have h3 := td_abs (a := x.toInt) hy
  have h4 := Int.tmod_add_mul_tdiv x.toInt y.toInt
  have h5 := Int.lt_tmod_of_pos x.toInt hy
  have h6 := Int.tmod_lt_of_pos x.toInt hy
  have h7 := y.toInt_lt
  have h8 : y.toInt * x.toInt.tdiv y.toInt = x.toInt.tdiv y.toInt * y.toInt := Int.mul_comm _ _
  have e1 : (kI 1).toInt = 1 := by decide
  have hm : (x / y * y).toInt = x.toInt.tdiv y.toInt * y.toInt := by
    rw [i3_mul (by rw [hd]; omega) (by rw [hd]; omega), hd]
  have hx : (x ^^^ y < 0 ∧ ¬ x / y * y = x) = (x.toInt < 0 ∧ ¬ x.toInt.tdiv y.toInt * y.toInt = x.toInt) := by
    rw [i3_xor hy]
    refine propext ⟨fun z => ⟨z.1, fun e => z.2 (i3_ext (by rw [hm, e]))⟩, fun z => ⟨z.1, fun e => z.2 (by rw [← hm, e])⟩⟩
  have hc2 := fl_core (a := x.toInt) hy rfl
  have hf := fl_core2 (a := x.toInt) hy
  unfold fdI
  by_cases hc : x.toInt < 0 ∧ ¬ x.toInt.tdiv y.toInt * y.toInt = x.toInt
  · rw [if_pos (show x.toInt - x.toInt.tdiv y.toInt * y.toInt < 0 from by rw [hf]; exact hc)] at hc2
    have h9 : (x.toInt.tdiv y.toInt).natAbs ≤ x.toInt.natAbs := by
      rw [Int.natAbs_tdiv]
      exact Nat.div_le_self _ _
    have h10 : ¬ x.toInt.tdiv y.toInt = -2 ^ 31 := fun z => by
      rw [z] at h4 hc
      omega
    rw [if_pos (show x ^^^ y < 0 ∧ ¬ x / y * y = x from by rw [hx]; exact hc), i3_sub (by rw [hd, e1]; omega) (by rw [hd, e1]; omega), hd, e1, hc2]
  · rw [if_neg (show ¬ x.toInt - x.toInt.tdiv y.toInt * y.toInt < 0 from by rw [hf]; exact hc)] at hc2
    rw [if_neg (show ¬ (x ^^^ y < 0 ∧ ¬ x / y * y = x) from by rw [hx]; exact hc), hd, hc2]
/-- both roundings are one -/
theorem tm_fl_fd {x y : Int64} (hy : 0 < y.toInt) : tm_fl x y = fdJ x y := i6_ext (by rw [tm_fl_i hy, fdJ_i hy])
theorem hvU_nr {a b : Int64} (hb : 0 < b.toInt) (hb2 : b.toInt < 2 ^ 62) : hvU a b = (tm_nr a b).toInt32 := by
  have e2 : (2 : Int64).toInt = 2 := by decide
  have h2 : (2 * b).toInt = 2 * b.toInt := by rw [i6_mul (by rw [e2]; omega) (by rw [e2]; omega), e2]
  have hne : ¬ b = 0 := fun z => by rw [z] at hb; exact absurd hb (by decide)
  unfold hvU tm_nr
  rw [if_neg hne, tm_fl_fd (by rw [h2]; omega)]
