/-! rounding, stops, values on a line: as the reference computes them, and as ints -/
/-- the whole number next to a quotient, halves up -/
def iR (a b : Int) : Int := (2 * a + b) / (2 * b)
def iB (n : Int) (x : Int32) : Prop := -n ≤ x.toInt ∧ x.toInt ≤ n
theorem e6_2 : (2 : Int64).toInt = 2 := by decide
theorem tm_nr_i {a b : Int64} (ha : -2 ^ 60 ≤ a.toInt ∧ a.toInt ≤ 2 ^ 60) (hb : 0 < b.toInt) (hb2 : b.toInt ≤ 2 ^ 60) : (tm_nr a b).toInt = iR a.toInt b.toInt := by
  have h2 : (2 * b).toInt = 2 * b.toInt := by rw [i6_mul (by rw [e6_2]; omega) (by rw [e6_2]; omega), e6_2]
  have h3 : (2 * a).toInt = 2 * a.toInt := by rw [i6_mul (by rw [e6_2]; omega) (by rw [e6_2]; omega), e6_2]
  have h4 : (2 * a + b).toInt = 2 * a.toInt + b.toInt := by rw [i6_add (by rw [h3]; omega) (by rw [h3]; omega), h3]
  unfold tm_nr iR
  rw [tm_fl_i (by rw [h2]; omega), h2, h4]
theorem iR_lo {a b k : Int} (hb : 0 < b) (h : 2 * (b * k) ≤ 2 * a + b) : k ≤ iR a b := by
  unfold iR
  refine (Int.le_ediv_iff_mul_le (by omega)).mpr ?_
  have : k * (2 * b) = 2 * (b * k) := by rw [Int.mul_comm k (2 * b), Int.mul_assoc]
  omega
theorem iR_hi {a b k : Int} (hb : 0 < b) (h : 2 * a + b < 2 * (b * k) + 2 * b) : iR a b ≤ k := by
  unfold iR
  refine Int.le_of_lt_add_one ((Int.ediv_lt_iff_lt_mul (by omega)).mpr ?_)
  have : (k + 1) * (2 * b) = 2 * (b * k) + 2 * b := by rw [Int.add_mul, Int.mul_comm k (2 * b), Int.mul_assoc]; omega
  omega
theorem iR_shift {a b k : Int} (hb : 0 < b) : iR (a + b * k) b = iR a b + k := by
  unfold iR
  have e : 2 * (a + b * k) + b = 2 * a + b + 2 * b * k := by rw [Int.mul_assoc]; omega
  rw [e, Int.add_mul_ediv_left _ _ (by omega)]
theorem iR_mono {a c b : Int} (hb : 0 < b) (h : a ≤ c) : iR a b ≤ iR c b := by
  unfold iR
  exact Int.ediv_le_ediv (by omega) (by omega)
/-- d * t / h lies between 0 and d -/
theorem iR_btw {d t h : Int} (hh : 0 < h) (h0 : 0 ≤ t) (h1 : t ≤ h) : (0 ≤ d → 0 ≤ iR (d * t) h ∧ iR (d * t) h ≤ d) ∧ (d ≤ 0 → d ≤ iR (d * t) h ∧ iR (d * t) h ≤ 0) := by
  have e : h * d = d * h := Int.mul_comm _ _
  refine ⟨fun hd => ⟨iR_lo hh ?_, iR_hi hh ?_⟩, fun hd => ⟨iR_lo hh ?_, iR_hi hh ?_⟩⟩
  · have := Int.mul_nonneg hd h0
    omega
  · have := Int.mul_le_mul_of_nonneg_left h1 hd
    omega
  · have h2 := Int.mul_nonneg (show 0 ≤ -d by omega) (show 0 ≤ h - t by omega)
    rw [Int.neg_mul, Int.mul_sub] at h2
    omega
  · have := Int.mul_nonneg_of_nonpos_of_nonpos hd (show -t ≤ 0 by omega)
    have e2 : d * -t = -(d * t) := Int.mul_neg _ _
    omega
/-- where the next multiple of the side cuts the way from a to b -/
def tm_ns (s a b : Int32) : Int32 :=
  if a = b then b else if a < b then (if ((tm_fl a.toInt64 s.toInt64).toInt32 + kI 1) * s < b then ((tm_fl a.toInt64 s.toInt64).toInt32 + kI 1) * s else b)
  else (if (-(tm_fl (-a).toInt64 s.toInt64).toInt32 - kI 1) * s ≤ b then b else (-(tm_fl (-a).toInt64 s.toInt64).toInt32 - kI 1) * s)
def iN (s a b : Int) : Int := if a = b then b else if a < b then (if (a / s + 1) * s < b then (a / s + 1) * s else b) else (if (-(-a / s) - 1) * s ≤ b then b else (-(-a / s) - 1) * s)
theorem k1_i : (kI 1).toInt = 1 := by decide
theorem div_lo (a : Int) {s : Int} (hs : 0 < s) : a / s * s ≤ a ∧ a < a / s * s + s := by
  have h1 := Int.emod_add_mul_ediv a s
  have h2 := Int.emod_nonneg a (show s ≠ 0 by omega)
  have h3 := Int.emod_lt_of_pos a hs
  have h4 : s * (a / s) = a / s * s := Int.mul_comm _ _
  omega
theorem div_abs {a s n : Int} (hs : 0 < s) (h1 : -n ≤ a) (h2 : a ≤ n) (hn : 0 ≤ n) : -n ≤ a / s ∧ a / s ≤ n := by
  constructor
  · refine (Int.le_ediv_iff_mul_le hs).mpr ?_
    have : n * 1 ≤ n * s := Int.mul_le_mul_of_nonneg_left (by omega) hn
    have e : -n * s = -(n * s) := Int.neg_mul _ _
    omega
  · refine Int.le_of_lt_add_one ((Int.ediv_lt_iff_lt_mul hs).mpr ?_)
    have : (n + 1) * 1 ≤ (n + 1) * s := Int.mul_le_mul_of_nonneg_left (by omega) (by omega)
    omega
theorem tm_ns_i {s a b : Int32} (hs : 0 < s.toInt) (hs2 : s.toInt ≤ 256) (ha : iB 1000000 a) (hb : iB 1000000 b) : (tm_ns s a b).toInt = iN s.toInt a.toInt b.toInt := by
  obtain ⟨ha1, ha2⟩ := ha
  obtain ⟨hb1, hb2⟩ := hb
  have hs6 : 0 < s.toInt64.toInt := by rw [i6_of]; exact hs
  have d1 := div_lo a.toInt hs
  have d2 := div_lo (-a.toInt) hs
  have d3 := div_abs (a := a.toInt) hs ha1 ha2 (by omega)
  have d4 := div_abs (a := -a.toInt) (n := 1000000) hs (by omega) (by omega) (by omega)
  have f1 : (tm_fl a.toInt64 s.toInt64).toInt32.toInt = a.toInt / s.toInt := by
    have h : (tm_fl a.toInt64 s.toInt64).toInt = a.toInt / s.toInt := by rw [tm_fl_i hs6, i6_of, i6_of]
    rw [i3_of (by rw [h]; omega) (by rw [h]; omega), h]
  have hng : (-a).toInt = -a.toInt := i3_neg (by omega)
  have f2 : (tm_fl (-a).toInt64 s.toInt64).toInt32.toInt = -a.toInt / s.toInt := by
    have h : (tm_fl (-a).toInt64 s.toInt64).toInt = -a.toInt / s.toInt := by rw [tm_fl_i hs6, i6_of, i6_of, hng]
    rw [i3_of (by rw [h]; omega) (by rw [h]; omega), h]
  have g1 : ((tm_fl a.toInt64 s.toInt64).toInt32 + kI 1).toInt = a.toInt / s.toInt + 1 := by rw [i3_add (by rw [f1, k1_i]; omega) (by rw [f1, k1_i]; omega), f1, k1_i]
  have m1 : (((tm_fl a.toInt64 s.toInt64).toInt32 + kI 1) * s).toInt = (a.toInt / s.toInt + 1) * s.toInt := by
    have e : (a.toInt / s.toInt + 1) * s.toInt = a.toInt / s.toInt * s.toInt + s.toInt := by rw [Int.add_mul, Int.one_mul]
    rw [i3_mul (by rw [g1, e]; omega) (by rw [g1, e]; omega), g1]
  have n2 : (-(tm_fl (-a).toInt64 s.toInt64).toInt32).toInt = -(-a.toInt / s.toInt) := by rw [i3_neg (by rw [f2]; omega), f2]
  have g2 : (-(tm_fl (-a).toInt64 s.toInt64).toInt32 - kI 1).toInt = -(-a.toInt / s.toInt) - 1 := by rw [i3_sub (by rw [n2, k1_i]; omega) (by rw [n2, k1_i]; omega), n2, k1_i]
  have m2 : ((-(tm_fl (-a).toInt64 s.toInt64).toInt32 - kI 1) * s).toInt = (-(-a.toInt / s.toInt) - 1) * s.toInt := by
    have e : (-(-a.toInt / s.toInt) - 1) * s.toInt = -(-a.toInt / s.toInt * s.toInt) - s.toInt := by rw [Int.sub_mul, Int.one_mul, Int.neg_mul]
    rw [i3_mul (by rw [g2, e]; omega) (by rw [g2, e]; omega), g2]
  unfold tm_ns iN
  by_cases h1 : a = b
  · rw [if_pos h1, if_pos (by rw [h1])]
  · rw [if_neg h1, if_neg (fun z => h1 (i3_ext z))]
    by_cases h2 : a < b
    · rw [if_pos h2, if_pos (Int32.lt_iff_toInt_lt.mp h2), ← m1]
      by_cases h3 : ((tm_fl a.toInt64 s.toInt64).toInt32 + kI 1) * s < b
      · rw [if_pos h3, if_pos (Int32.lt_iff_toInt_lt.mp h3)]
      · rw [if_neg h3, if_neg (fun z => h3 (Int32.lt_iff_toInt_lt.mpr z))]
    · rw [if_neg h2, if_neg (fun z => h2 (Int32.lt_iff_toInt_lt.mpr z)), ← m2]
      by_cases h3 : (-(tm_fl (-a).toInt64 s.toInt64).toInt32 - kI 1) * s ≤ b
      · rw [if_pos h3, if_pos (Int32.le_iff_toInt_le.mp h3)]
      · rw [if_neg h3, if_neg (fun z => h3 (Int32.le_iff_toInt_le.mpr z))]
/-- a stop lies ahead, and not behind the end -/
theorem iN_btw {s a b : Int} (hs : 0 < s) : (a < b → a < iN s a b ∧ iN s a b ≤ b) ∧ (b < a → iN s a b < a ∧ b ≤ iN s a b) := by
  have d1 := div_lo a hs
  have d2 := div_lo (-a) hs
  unfold iN
  refine ⟨fun h => ?_, fun h => ?_⟩
  · rw [if_neg (by omega), if_pos h]
    have e : (a / s + 1) * s = a / s * s + s := by rw [Int.add_mul, Int.one_mul]
    split <;> omega
  · rw [if_neg (by omega), if_neg (by omega)]
    have e : (-(-a / s) - 1) * s = -(-a / s * s) - s := by rw [Int.sub_mul, Int.one_mul, Int.neg_mul]
    split <;> omega
/-- of a line the second value, where the first one is m -/
def tm_att (a b p q m : Int32) : Int32 := a + (if q ≤ p then (tm_nr (-((b - a).toInt64 * (m - p).toInt64)) (p - q).toInt64).toInt32 else (tm_nr ((b - a).toInt64 * (m - p).toInt64) (q - p).toInt64).toInt32)
def iA (a b p q m : Int) : Int := a + (if q ≤ p then iR (-((b - a) * (m - p))) (p - q) else iR ((b - a) * (m - p)) (q - p))
theorem iA_up {a b p q m : Int} (h : p < q) : iA a b p q m = a + iR ((b - a) * (m - p)) (q - p) := by
  unfold iA
  rw [if_neg (by omega)]
/-- down is as up -/
theorem iA_dn {a b p q m : Int} (h : q < p) : iA a b p q m = b + iR ((a - b) * (m - q)) (p - q) := by
  unfold iA
  rw [if_pos (by omega)]
  have e : -((b - a) * (m - p)) = (a - b) * (m - q) + (p - q) * (b - a) := by
    rw [Int.mul_sub, Int.mul_sub, Int.sub_mul, Int.sub_mul, Int.sub_mul, Int.sub_mul, Int.mul_comm b p, Int.mul_comm a p, Int.mul_comm a q, Int.mul_comm b q, Int.mul_sub, Int.sub_mul, Int.sub_mul]
    omega
  rw [e, iR_shift (by omega)]
  omega
theorem iA_btw {a b p q m : Int} (h : p < q ∧ p ≤ m ∧ m ≤ q ∨ q < p ∧ q ≤ m ∧ m ≤ p) : (a ≤ b → a ≤ iA a b p q m ∧ iA a b p q m ≤ b) ∧ (b ≤ a → b ≤ iA a b p q m ∧ iA a b p q m ≤ a) := by
  rcases h with ⟨h1, h2, h3⟩ | ⟨h1, h2, h3⟩
  · rw [iA_up h1]
    have := iR_btw (d := b - a) (t := m - p) (h := q - p) (by omega) (by omega) (by omega)
    refine ⟨fun h => ?_, fun h => ?_⟩
    · have := this.1 (by omega); omega
    · have := this.2 (by omega); omega
  · rw [iA_dn h1]
    have := iR_btw (d := a - b) (t := m - q) (h := p - q) (by omega) (by omega) (by omega)
    refine ⟨fun h => ?_, fun h => ?_⟩
    · have := this.2 (by omega); omega
    · have := this.1 (by omega); omega
theorem mul_bd {x y n : Int} (hn : 0 ≤ n) (hx : -n ≤ x ∧ x ≤ n) (hy : -n ≤ y ∧ y ≤ n) : -(n * n) ≤ x * y ∧ x * y ≤ n * n := by
  have h : (x * y).natAbs ≤ n.natAbs * n.natAbs := by
    rw [Int.natAbs_mul]
    exact Nat.mul_le_mul (by omega) (by omega)
  have e : ((n.natAbs * n.natAbs : Nat) : Int) = n * n := by rw [Int.natAbs_mul_self]
  omega
theorem tm_att_i {a b p q m : Int32} (ha : iB 1000000 a) (hb : iB 1000000 b) (hp : iB 1000000 p) (hq : iB 1000000 q) (hm : p.toInt < q.toInt ∧ p.toInt ≤ m.toInt ∧ m.toInt ≤ q.toInt ∨ q.toInt < p.toInt ∧ q.toInt ≤ m.toInt ∧ m.toInt ≤ p.toInt) : (tm_att a b p q m).toInt = iA a.toInt b.toInt p.toInt q.toInt m.toInt := by
  obtain ⟨ha1, ha2⟩ := ha
  obtain ⟨hb1, hb2⟩ := hb
  obtain ⟨hp1, hp2⟩ := hp
  obtain ⟨hq1, hq2⟩ := hq
  have hbt := iA_btw (a := a.toInt) (b := b.toInt) hm
  have s1 : (b - a).toInt64.toInt = b.toInt - a.toInt := by rw [i6_of, i3_sub (by omega) (by omega)]
  have s2 : (m - p).toInt64.toInt = m.toInt - p.toInt := by rw [i6_of, i3_sub (by omega) (by omega)]
  have s3 : (q - p).toInt64.toInt = q.toInt - p.toInt := by rw [i6_of, i3_sub (by omega) (by omega)]
  have s4 : (p - q).toInt64.toInt = p.toInt - q.toInt := by rw [i6_of, i3_sub (by omega) (by omega)]
  have mb := mul_bd (n := 2000000) (x := b.toInt - a.toInt) (y := m.toInt - p.toInt) (by omega) (by omega) (by omega)
  have s5 : ((b - a).toInt64 * (m - p).toInt64).toInt = (b.toInt - a.toInt) * (m.toInt - p.toInt) := by rw [i6_mul (by rw [s1, s2]; omega) (by rw [s1, s2]; omega), s1, s2]
  have s6 : (-((b - a).toInt64 * (m - p).toInt64)).toInt = -((b.toInt - a.toInt) * (m.toInt - p.toInt)) := by rw [i6_neg (by rw [s5]; omega), s5]
  unfold tm_att
  unfold iA at hbt ⊢
  by_cases h : q ≤ p
  · have h0 : q.toInt ≤ p.toInt := Int32.le_iff_toInt_le.mp h
    rw [if_pos h0] at hbt
    have h9 : (tm_nr (-((b - a).toInt64 * (m - p).toInt64)) (p - q).toInt64).toInt = iR (-((b.toInt - a.toInt) * (m.toInt - p.toInt))) (p.toInt - q.toInt) := by rw [tm_nr_i (by rw [s6]; omega) (by rw [s4]; omega) (by rw [s4]; omega), s6, s4]
    have h8 : (tm_nr (-((b - a).toInt64 * (m - p).toInt64)) (p - q).toInt64).toInt32.toInt = iR (-((b.toInt - a.toInt) * (m.toInt - p.toInt))) (p.toInt - q.toInt) := by rw [i3_of (by rw [h9]; omega) (by rw [h9]; omega), h9]
    rw [if_pos h, if_pos h0, i3_add (by rw [h8]; omega) (by rw [h8]; omega), h8]
  · have h0 : ¬ q.toInt ≤ p.toInt := fun z => h (Int32.le_iff_toInt_le.mpr z)
    rw [if_neg h0] at hbt
    have h9 : (tm_nr ((b - a).toInt64 * (m - p).toInt64) (q - p).toInt64).toInt = iR ((b.toInt - a.toInt) * (m.toInt - p.toInt)) (q.toInt - p.toInt) := by rw [tm_nr_i (by rw [s5]; omega) (by rw [s3]; omega) (by rw [s3]; omega), s5, s3]
    have h8 : (tm_nr ((b - a).toInt64 * (m - p).toInt64) (q - p).toInt64).toInt32.toInt = iR ((b.toInt - a.toInt) * (m.toInt - p.toInt)) (q.toInt - p.toInt) := by rw [i3_of (by rw [h9]; omega) (by rw [h9]; omega), h9]
    rw [if_neg h, if_neg h0, i3_add (by rw [h8]; omega) (by rw [h8]; omega), h8]
