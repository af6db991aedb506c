/-! draw: the heights, sorted here and not there -/
theorem le3 {a b : Int32} : (a ≤ b) = (a.toInt ≤ b.toInt) := propext Int32.le_iff_toInt_le
theorem lt3 {a b : Int32} : (a < b) = (a.toInt < b.toInt) := propext Int32.lt_iff_toInt_lt
theorem m9 : (kI (-9999)).toInt = -9999 := by decide
theorem p9 : (kI 9999).toInt = 9999 := by decide
theorem tm_ba_c (g : Nat → Int32) (y : Int32) : ∀ w k b a, ∃ B A, tm_ba g y w k b a = (B, A) ∧ b.toInt ≤ B.toInt ∧ A.toInt ≤ a.toInt ∧ (B = b ∨ ∃ i, k ≤ i ∧ i < k + w ∧ B = g i ∧ (g i).toInt ≤ y.toInt) ∧ (A = a ∨ ∃ i, k ≤ i ∧ i < k + w ∧ A = g i ∧ y.toInt ≤ (g i).toInt) ∧ ∀ i, k ≤ i → i < k + w → ((g i).toInt ≤ y.toInt → (g i).toInt ≤ B.toInt) ∧ (y.toInt ≤ (g i).toInt → A.toInt ≤ (g i).toInt) := by
  intro w
  induction w with
  | zero =>
    intro k b a
    exact ⟨b, a, rfl, Int.le_refl _, Int.le_refl _, Or.inl rfl, Or.inl rfl, fun i h1 h2 => by omega⟩
  | succ w ih =>
    intro k b a
    obtain ⟨B, A, e, h1, h2, h3, h4, h5⟩ := ih (k + 1) (if ¬ y < g k ∧ ¬ g k ≤ b then g k else b) (if ¬ g k < y ∧ ¬ a ≤ g k then g k else a)
    refine ⟨B, A, e, ?_, ?_, ?_, ?_, ?_⟩
    · by_cases c : ¬ y < g k ∧ ¬ g k ≤ b
      · rw [if_pos c] at h1
        rw [lt3, le3] at c
        omega
      · rw [if_neg c] at h1
        exact h1
    · by_cases c : ¬ g k < y ∧ ¬ a ≤ g k
      · rw [if_pos c] at h2
        rw [lt3, le3] at c
        omega
      · rw [if_neg c] at h2
        exact h2
    · by_cases c : ¬ y < g k ∧ ¬ g k ≤ b
      · rw [if_pos c] at h3
        rw [lt3, le3] at c
        rcases h3 with h3 | ⟨i, q1, q2, q3⟩
        · exact Or.inr ⟨k, by omega, by omega, h3, by omega⟩
        · exact Or.inr ⟨i, by omega, by omega, q3⟩
      · rw [if_neg c] at h3
        rcases h3 with h3 | ⟨i, q1, q2, q3⟩
        · exact Or.inl h3
        · exact Or.inr ⟨i, by omega, by omega, q3⟩
    · by_cases c : ¬ g k < y ∧ ¬ a ≤ g k
      · rw [if_pos c] at h4
        rw [lt3, le3] at c
        rcases h4 with h3 | ⟨i, q1, q2, q3⟩
        · exact Or.inr ⟨k, by omega, by omega, h3, by omega⟩
        · exact Or.inr ⟨i, by omega, by omega, q3⟩
      · rw [if_neg c] at h4
        rcases h4 with h3 | ⟨i, q1, q2, q3⟩
        · exact Or.inl h3
        · exact Or.inr ⟨i, by omega, by omega, q3⟩
    · intro i q1 q2
      by_cases hi : i = k
      · subst hi
        constructor
        · intro hy
          by_cases c : ¬ y < g i ∧ ¬ g i ≤ b
          · rw [if_pos c] at h1
            exact h1
          · rw [if_neg c] at h1
            rw [lt3, le3] at c
            omega
        · intro hy
          by_cases c : ¬ g i < y ∧ ¬ a ≤ g i
          · rw [if_pos c] at h2
            exact h2
          · rw [if_neg c] at h2
            rw [lt3, le3] at c
            omega
      · exact h5 i (by omega) (by omega)
/-- the class's heights: sorted, the same as the reference's -/
def hgt (n : Nat) (h g : Nat → Int32) : Prop := (∀ i, i < n → -2000 ≤ (h i).toInt ∧ (h i).toInt ≤ 4000) ∧ (∀ i, i + 1 < n → (h i).toInt < (h (i + 1)).toInt) ∧ (∀ i, i < n → ∃ j, j < n ∧ g j = h i) ∧ (∀ j, j < n → ∃ i, i < n ∧ h i = g j)
theorem hgt_lt {n : Nat} {h g : Nat → Int32} (H : hgt n h g) {i j : Nat} (hij : i < j) (hj : j < n) : (h i).toInt < (h j).toInt := by
  induction j with
  | zero => omega
  | succ j ih =>
    have h1 := H.2.1 j hj
    by_cases c : i = j
    · subst c; exact h1
    · have := ih (by omega) (by omega); omega
theorem hgt_le {n : Nat} {h g : Nat → Int32} (H : hgt n h g) {i j : Nat} (hij : i ≤ j) (hj : j < n) : (h i).toInt ≤ (h j).toInt := by
  by_cases c : i = j
  · subst c; exact Int.le_refl _
  · have := hgt_lt H (show i < j by omega) hj; omega
/-- what is next below and next above, by places of the sorted ones -/
theorem tm_ba_at {n : Nat} {h g : Nat → Int32} (H : hgt n h g) (y : Int32) : ∃ B A, tm_ba g y n 0 (kI (-9999)) (kI 9999) = (B, A) ∧ (∀ i, i < n → (h i).toInt ≤ y.toInt → (i + 1 < n → y.toInt < (h (i + 1)).toInt) → B = h i) ∧ ((∀ i, i < n → y.toInt < (h i).toInt) → B = kI (-9999)) ∧ (∀ i, i < n → y.toInt ≤ (h i).toInt → (∀ j, j + 1 = i → (h j).toInt < y.toInt) → A = h i) ∧ ((∀ i, i < n → (h i).toInt < y.toInt) → A = kI 9999) := by
  obtain ⟨B, A, e, h1, h2, h3, h4, h5⟩ := tm_ba_c g y n 0 (kI (-9999)) (kI 9999)
  rw [m9] at h1
  rw [p9] at h2
  obtain ⟨H1, H2, H3, H4⟩ := id H
  refine ⟨B, A, e, ?_, ?_, ?_, ?_⟩
  · intro i hi hy hn
    obtain ⟨j, hj, ej⟩ := H3 i hi
    have q := (h5 j (by omega) (by omega)).1 (by rw [ej]; exact hy)
    rw [ej] at q
    rcases h3 with h3 | ⟨k, k1, k2, k3, k4⟩
    · rw [h3, m9] at q
      have := H1 i hi
      omega
    · obtain ⟨i2, hi2, ei2⟩ := H4 k (by omega)
      rw [k3, ← ei2] at q ⊢
      rw [← ei2] at k4
      by_cases c : i2 ≤ i
      · by_cases c2 : i2 = i
        · rw [c2]
        · have := hgt_lt H (show i2 < i by omega) hi; omega
      · have := hgt_le H (show i + 1 ≤ i2 by omega) hi2
        have := hn (by omega)
        omega
  · intro hy
    rcases h3 with h3 | ⟨k, k1, k2, k3, k4⟩
    · exact h3
    · obtain ⟨i2, hi2, ei2⟩ := H4 k (by omega)
      have := hy i2 hi2
      rw [ei2] at this
      omega
  · intro i hi hy hn
    obtain ⟨j, hj, ej⟩ := H3 i hi
    have q := (h5 j (by omega) (by omega)).2 (by rw [ej]; exact hy)
    rw [ej] at q
    rcases h4 with h3 | ⟨k, k1, k2, k3, k4⟩
    · rw [h3, p9] at q
      have := H1 i hi
      omega
    · obtain ⟨i2, hi2, ei2⟩ := H4 k (by omega)
      rw [k3, ← ei2] at q ⊢
      rw [← ei2] at k4
      by_cases c : i ≤ i2
      · by_cases c2 : i2 = i
        · rw [c2]
        · have := hgt_lt H (show i < i2 by omega) hi2; omega
      · have := hgt_le H (show i2 ≤ i - 1 by omega) (by omega)
        have := hn (i - 1) (by omega)
        omega
  · intro hy
    rcases h4 with h3 | ⟨k, k1, k2, k3, k4⟩
    · exact h3
    · obtain ⟨i2, hi2, ei2⟩ := H4 k (by omega)
      have := hy i2 hi2
      rw [ei2] at this
      omega
theorem goal_eq {s y : Int32} (hs : 0 < s.toInt) (hs2 : s.toInt ≤ 256) : tw_goal y s = tm_goal s y := by
  unfold tw_goal tm_goal
  rw [hvU_nr (by rw [i6_of]; exact hs) (by rw [i6_of]; omega), Int32.mul_comm]
theorem goal_B {s y : Int32} (hs : 0 < s.toInt) (hs2 : s.toInt ≤ 256) (hy : -2000 ≤ y.toInt ∧ y.toInt ≤ 4000) : -128 ≤ (tm_goal s y).toInt - y.toInt ∧ (tm_goal s y).toInt - y.toInt ≤ 128 := by
  have e : (tm_nr y.toInt64 s.toInt64).toInt = iR y.toInt s.toInt := by rw [tm_nr_i (by rw [i6_of]; omega) (by rw [i6_of]; exact hs) (by rw [i6_of]; omega), i6_of, i6_of]
  have hd := div_lo (2 * y.toInt + s.toInt) (show 0 < 2 * s.toInt by omega)
  have hq : iR y.toInt s.toInt * (2 * s.toInt) = 2 * (iR y.toInt s.toInt * s.toInt) := by rw [Int.mul_left_comm]
  rw [show (2 * y.toInt + s.toInt) / (2 * s.toInt) = iR y.toInt s.toInt from rfl, hq] at hd
  have hb : -4000 ≤ iR y.toInt s.toInt ∧ iR y.toInt s.toInt ≤ 4000 := ⟨iR_lo hs (by omega), iR_hi hs (by omega)⟩
  unfold tm_goal
  have e2 : (tm_nr y.toInt64 s.toInt64).toInt32.toInt = iR y.toInt s.toInt := by rw [i3_of (by rw [e]; omega) (by rw [e]; omega), e]
  rw [i3_mul (by rw [e2]; omega) (by rw [e2]; omega), e2]
  omega
theorem hvU_0 {b : Int64} (hb : 0 < b.toInt) (hb2 : b.toInt ≤ 2 ^ 60) : hvU 0 b = 0 := by
  rw [hvU_nr hb (by omega)]
  have e : (tm_nr 0 b).toInt = 0 := by
    rw [tm_nr_i (by decide) hb hb2]
    exact iR_0 hb
  exact i3_ext (by rw [i3_of (by rw [e]; omega) (by rw [e]; omega), e]; rfl)
theorem sub_goal (y b G : Int32) : y - b + G = y + G - b := by
  rw [Int32.sub_eq_add_neg, Int32.sub_eq_add_neg, Int32.add_assoc, Int32.add_assoc, Int32.add_comm (-b)]
theorem fit2_one {s y b a : Int32} (h1 : ¬ b = kI (-9999)) (h2 : a = kI 9999 ∨ a = b) : tm_fit2 s y b a = y + tm_goal s b - b := by
  unfold tm_fit2
  rw [if_neg h1, if_pos h2]
theorem betw_eq {s y lo hi : Int32} (hs : 0 < s.toInt) (hs2 : s.toInt ≤ 256) (hlo : -2000 ≤ lo.toInt) (hl : lo.toInt ≤ y.toInt) (hh : y.toInt < hi.toInt) (hhi : hi.toInt ≤ 4000) : tw_betw lo hi y s = ((tm_goal s lo).toInt64 + tm_nr ((y - lo).toInt64 * (tm_goal s hi - tm_goal s lo).toInt64) (hi - lo).toInt64).toInt32 := by
  have g1 := goal_B hs hs2 (y := lo) (by omega)
  have g2 := goal_B hs hs2 (y := hi) (by omega)
  have e1 : (y - lo).toInt = y.toInt - lo.toInt := i3_sub (by omega) (by omega)
  have e2 : (tm_goal s hi - tm_goal s lo).toInt = (tm_goal s hi).toInt - (tm_goal s lo).toInt := i3_sub (by omega) (by omega)
  have e3 : (hi - lo).toInt = hi.toInt - lo.toInt := i3_sub (by omega) (by omega)
  have hm := mul_bd (n := 10000) (by omega) (x := (y - lo).toInt) (y := (tm_goal s hi - tm_goal s lo).toInt) (by omega) (by omega)
  have e4 : ((y - lo) * (tm_goal s hi - tm_goal s lo)).toInt64 = (y - lo).toInt64 * (tm_goal s hi - tm_goal s lo).toInt64 := by
    refine i6_ext ?_
    rw [i6_of, i3_mul (by omega) (by omega), i6_mul (by rw [i6_of, i6_of]; omega) (by rw [i6_of, i6_of]; omega), i6_of, i6_of]
  unfold tw_betw
  rw [goal_eq hs hs2, goal_eq hs hs2, hvU_nr (by rw [i6_of, e3]; omega) (by rw [i6_of, e3]; omega), e4, Int64.toInt32_add, Int32.toInt32_toInt64]
theorem fitL_eq {n : Nat} {h g : Nat → Int32} (H : hgt n h g) {s y : Int32} (hs : 0 < s.toInt) (hs2 : s.toInt ≤ 256) {B A : Int32} (q1 : ∀ i, i < n → (h i).toInt ≤ y.toInt → (i + 1 < n → y.toInt < (h (i + 1)).toInt) → B = h i) (q3 : ∀ i, i < n → y.toInt ≤ (h i).toInt → (∀ j, j + 1 = i → (h j).toInt < y.toInt) → A = h i) (q4 : (∀ i, i < n → (h i).toInt < y.toInt) → A = kI 9999) : ∀ m k, k + m = n → 1 ≤ k → (h (k - 1)).toInt ≤ y.toInt → tw_fitL h y s n m k = tm_fit2 s y B A := by
  have hne : ∀ i, i < n → ¬ h i = kI (-9999) := fun i hi z => by
    have := (H.1 i hi).1
    rw [z, m9] at this
    omega
  have heq : ∀ i, i < n → y.toInt = (h i).toInt → A = h i := fun i hi e => q3 i hi (by omega) (fun j hj => by have := hgt_lt H (show j < i by omega) hi; omega)
  intro m
  induction m with
  | zero =>
    intro k hk h1 hy
    have hkn : k = n := by omega
    subst hkn
    have eB := q1 (k - 1) (by omega) hy (by omega)
    show y - h (k - 1) + tw_goal (h (k - 1)) s = _
    have hA : A = kI 9999 ∨ A = B := by
      by_cases c : y.toInt = (h (k - 1)).toInt
      · exact Or.inr (by rw [eB]; exact heq _ (by omega) c)
      · exact Or.inl (q4 (fun i hi => by have := hgt_le H (show i ≤ k - 1 by omega) (by omega); omega))
    rw [fit2_one (by rw [eB]; exact hne _ (by omega)) hA, eB, goal_eq hs hs2, sub_goal]
  | succ m ih =>
    intro k hk h1 hy
    by_cases c : h k ≤ y
    · rw [show tw_fitL h y s n (m + 1) k = tw_fitL h y s n m (k + 1) from if_pos c]
      rw [le3] at c
      exact ih (k + 1) (by omega) (by omega) c
    · rw [show tw_fitL h y s n (m + 1) k = tw_betw (h (k - 1)) (h k) y s from if_neg c]
      rw [le3] at c
      have eB := q1 (k - 1) (by omega) hy (fun _ => by rw [show k - 1 + 1 = k by omega]; omega)
      have b1 := H.1 (k - 1) (by omega)
      have b2 := H.1 k (by omega)
      by_cases c2 : y.toInt = (h (k - 1)).toInt
      · have eA := heq (k - 1) (by omega) c2
        rw [fit2_one (by rw [eB]; exact hne _ (by omega)) (Or.inr (by rw [eA, eB])), eB]
        have ey : y = h (k - 1) := i3_ext c2
        have e3 : (h k - h (k - 1)).toInt = (h k).toInt - (h (k - 1)).toInt := i3_sub (by omega) (by omega)
        unfold tw_betw
        rw [← ey, Int32.sub_self, Int32.zero_mul]
        rw [show (0 : Int32).toInt64 = 0 from rfl, ey, hvU_0 (by rw [i6_of, e3]; omega) (by rw [i6_of, e3]; omega), Int32.add_zero, goal_eq hs hs2, Int32.add_comm, Int32.add_sub_cancel]
      · have eA := q3 k (by omega) (by omega) (fun j hj => by rw [show j = k - 1 by omega]; omega)
        unfold tm_fit2
        rw [if_neg (by rw [eB]; exact hne _ (by omega)), if_neg, eA, eB, betw_eq hs hs2 (by omega) hy (by omega) (by omega)]
        rintro (z | z)
        · rw [eA] at z
          rw [z, p9] at b2
          omega
        · rw [eA, eB] at z
          rw [z] at c
          omega
theorem fit_eq {n : Nat} {h g : Nat → Int32} (H : hgt n h g) {fi s y : Int32} (hs : 0 < s.toInt) (hs2 : s.toInt ≤ 256) (hfi : ¬ fi = 0) : tw_fit h y s n = tm_fit fi n g s y := by
  unfold tw_fit tm_fit
  by_cases h0 : n = 0
  · rw [if_pos h0, if_pos (Or.inr h0)]
  rw [if_neg h0, if_neg (c := fi = 0 ∨ n = 0) (fun z => z.elim hfi h0)]
  obtain ⟨B, A, e, q1, q2, q3, q4⟩ := tm_ba_at H y
  rw [e]
  show _ = tm_fit2 s y B A
  by_cases c : h 0 < y
  · rw [if_pos c]
    rw [lt3] at c
    exact fitL_eq H hs hs2 q1 q3 q4 (n - 1) 1 (by omega) (by omega) (by rw [show 1 - 1 = 0 from rfl]; omega)
  · rw [if_neg c]
    rw [lt3] at c
    have eA := q3 0 (by omega) (by omega) (fun j hj => by omega)
    by_cases c2 : y.toInt = (h 0).toInt
    · have eB := q1 0 (by omega) (by omega) (fun hn => by have := H.2.1 0 hn; omega)
      have b1 := H.1 0 (by omega)
      rw [fit2_one (by rw [eB]; intro z; rw [z, m9] at b1; omega) (Or.inr (by rw [eA, eB])), eB, goal_eq hs hs2, sub_goal]
    · have eB := q2 (fun i hi => by have := hgt_le H (show 0 ≤ i by omega) hi; omega)
      unfold tm_fit2
      rw [if_pos eB, eA, goal_eq hs hs2, sub_goal]
theorem fit_B {n : Nat} {h g : Nat → Int32} (H : hgt n h g) {fi s y : Int32} (hs : 0 < s.toInt) (hs2 : s.toInt ≤ 256) (hy : iB 100000 y) : iB 1000000 (tm_fit fi n g s y) := by
  obtain ⟨y1, y2⟩ := hy
  unfold tm_fit
  by_cases h0 : fi = 0 ∨ n = 0
  · rw [if_pos h0]
    exact ⟨by omega, by omega⟩
  rw [if_neg h0]
  obtain ⟨B, A, e, b1, b2, b3, b4, b5⟩ := tm_ba_c g y n 0 (kI (-9999)) (kI 9999)
  rw [e]
  show iB 1000000 (tm_fit2 s y B A)
  have hin : ∀ j, j < n → -2000 ≤ (g j).toInt ∧ (g j).toInt ≤ 4000 := fun j hj => by
    obtain ⟨i, hi, ei⟩ := H.2.2.2 j hj
    rw [← ei]
    exact H.1 i hi
  have hsg : ∀ v : Int32, -2000 ≤ v.toInt ∧ v.toInt ≤ 4000 → iB 1000000 (y + tm_goal s v - v) := fun v hv => by
    have g1 := goal_B hs hs2 hv
    have e1 : (y + tm_goal s v).toInt = y.toInt + (tm_goal s v).toInt := i3_add (by omega) (by omega)
    unfold iB
    rw [i3_sub (by rw [e1]; omega) (by rw [e1]; omega), e1]
    omega
  unfold tm_fit2
  by_cases c1 : B = kI (-9999)
  · rw [if_pos c1]
    rcases b4 with b4 | ⟨i, i1, i2, i3, i4⟩
    · rw [b4]
      have hn0 : 0 < n := by omega
      have q := b5 0 (by omega) (by omega)
      have := hin 0 hn0
      rw [c1, b4, m9, p9] at q
      omega
    · exact hsg A (by rw [i3]; exact hin i (by omega))
  · rw [if_neg c1]
    rcases b3 with b3 | ⟨i, i1, i2, i3, i4⟩
    · exact absurd b3 c1
    have hB := hin i (by omega)
    rw [← i3] at hB i4
    by_cases c2 : A = kI 9999 ∨ A = B
    · rw [if_pos c2]
      exact hsg B hB
    · rw [if_neg c2]
      rcases b4 with b4 | ⟨j, j1, j2, j3, j4⟩
      · exact absurd (Or.inl b4) c2
      have hA := hin j (by omega)
      rw [← j3] at hA j4
      have hBA : ¬ B.toInt = A.toInt := fun z => c2 (Or.inr (i3_ext z.symm))
      have g1 := goal_B hs hs2 hB
      have g2 := goal_B hs hs2 hA
      have e1 : (y - B).toInt = y.toInt - B.toInt := i3_sub (by omega) (by omega)
      have e2 : (tm_goal s A - tm_goal s B).toInt = (tm_goal s A).toInt - (tm_goal s B).toInt := i3_sub (by omega) (by omega)
      have e3 : (A - B).toInt = A.toInt - B.toInt := i3_sub (by omega) (by omega)
      have hm := mul_bd (n := 10000) (by omega) (x := (y - B).toInt) (y := (tm_goal s A - tm_goal s B).toInt) (by omega) (by omega)
      have e4 : ((y - B).toInt64 * (tm_goal s A - tm_goal s B).toInt64).toInt = (y - B).toInt * (tm_goal s A - tm_goal s B).toInt := by
        rw [i6_mul (by rw [i6_of, i6_of]; omega) (by rw [i6_of, i6_of]; omega), i6_of, i6_of]
      have e5 : (tm_nr ((y - B).toInt64 * (tm_goal s A - tm_goal s B).toInt64) (A - B).toInt64).toInt = iR ((tm_goal s A - tm_goal s B).toInt * (y - B).toInt) (A - B).toInt := by
        rw [tm_nr_i (by rw [e4]; omega) (by rw [i6_of, e3]; omega) (by rw [i6_of, e3]; omega), e4, i6_of, Int.mul_comm]
      have hr := iR_btw (d := (tm_goal s A - tm_goal s B).toInt) (t := (y - B).toInt) (h := (A - B).toInt) (by omega) (by omega) (by omega)
      rw [← e5, e2] at hr
      generalize tm_nr ((y - B).toInt64 * (tm_goal s A - tm_goal s B).toInt64) (A - B).toInt64 = v at hr ⊢
      have hv : -20000 ≤ v.toInt ∧ v.toInt ≤ 20000 := by
        rcases Int.le_total 0 ((tm_goal s A).toInt - (tm_goal s B).toInt) with z | z
        · have := hr.1 z; omega
        · have := hr.2 z; omega
      have e6 : ((tm_goal s B).toInt64 + v).toInt = (tm_goal s B).toInt + v.toInt := by rw [i6_add (by rw [i6_of]; omega) (by rw [i6_of]; omega), i6_of]
      unfold iB
      rw [i3_of (by rw [e6]; omega) (by rw [e6]; omega), e6]
      omega
