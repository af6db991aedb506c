/-! draw: the reference's cover, across, line -/
theorem min_i (a b : Int32) : (if b ≤ a then b else a).toInt = if b.toInt ≤ a.toInt then b.toInt else a.toInt := by
  by_cases h : b ≤ a
  · rw [if_pos h, if_pos (Int32.le_iff_toInt_le.mp h)]
  · rw [if_neg h, if_neg (fun z => h (Int32.le_iff_toInt_le.mpr z))]
theorem tm_fr_i {s a b : Int32} (hs : 0 < s.toInt) (ha : iB 1000000 a) (hb : iB 1000000 b) : (tm_fr s a b).toInt = (if b.toInt ≤ a.toInt then b.toInt else a.toInt) / s.toInt := by
  obtain ⟨a1, a2⟩ := ha
  obtain ⟨b1, b2⟩ := hb
  have h1 : (tm_fl (if b ≤ a then b else a).toInt64 s.toInt64).toInt = (if b.toInt ≤ a.toInt then b.toInt else a.toInt) / s.toInt := by
    rw [tm_fl_i (by rw [i6_of]; exact hs), i6_of, i6_of, min_i]
  have h2 := div_abs (a := if b.toInt ≤ a.toInt then b.toInt else a.toInt) (n := 1000000) hs (by split <;> omega) (by split <;> omega) (by omega)
  unfold tm_fr
  rw [i3_of (by rw [h1]; omega) (by rw [h1]; omega), h1]
theorem upd_al {al j k j2 t : Nat} (hk : k < al) (ht : t < al) (G : Nat → Int32) (v : Int32) : upd G (al * j + k) v (al * j2 + t) = if j2 = j ∧ t = k then v else G (al * j2 + t) := by
  unfold upd
  by_cases h : j2 = j ∧ t = k
  · rw [if_pos h, h.1, h.2, if_pos rfl]
  · rw [if_neg h]
    exact if_neg (fun z => h ((al_inj ht hk).mp z))
theorem tm_cv_i {al j : Nat} (hal : al ≤ 64) {v i : Int32} {j2 t : Nat} (ht : t < al) : ∀ w k (G : Nat → Int32), k + w = al → tm_cv al j v i w k G (al * j2 + t) = if j2 = j ∧ k ≤ t ∧ (t : Int) < i.toInt then G (al * j2 + t) + v else G (al * j2 + t) := by
  intro w
  induction w with
  | zero =>
    intro k G hk
    rw [if_neg (by omega)]
    rfl
  | succ w ih =>
    intro k G hk
    have hkt := nI_toInt (n := k) (by omega)
    by_cases hi : i ≤ nI k
    · rw [show tm_cv al j v i (w + 1) k G = G from if_pos hi]
      rw [Int32.le_iff_toInt_le, hkt] at hi
      rw [if_neg (by omega)]
    · rw [show tm_cv al j v i (w + 1) k G = tm_cv al j v i w (k + 1) (upd G (al * j + k) (G (al * j + k) + v)) from if_neg hi, ih (k + 1) _ (by omega)]
      rw [Int32.le_iff_toInt_le, hkt] at hi
      rw [upd_al (show k < al by omega) ht]
      by_cases h1 : j2 = j
      · subst h1
        by_cases h2 : t = k
        · subst h2
          rw [if_neg (by omega), if_pos ⟨rfl, rfl⟩, if_pos ⟨rfl, Nat.le_refl _, by omega⟩]
        · rw [if_neg (c := j2 = j2 ∧ t = k) (by omega)]
          by_cases h3 : k ≤ t ∧ (t : Int) < i.toInt
          · rw [if_pos (by omega), if_pos (by omega)]
          · rw [if_neg (by omega), if_neg (by omega)]
      · rw [if_neg (by omega), if_neg (by omega), if_neg (by omega)]
theorem tm_cov_i {al : Nat} {s : Int32} (hal : al ≤ 64) (hs : 0 < s.toInt) (hs2 : s.toInt ≤ 256) {x y x1 y1 : Int32} (hx : iB 1000000 x) (hx1 : iB 1000000 x1) (hy : iB 1000000 y) (hy1 : iB 1000000 y1) (G : Nat → Int32) {j k : Nat} (hj : j < al) (hk : k < al) : tm_cov al s x y x1 y1 G (al * j + k) = G (al * j + k) + kI (if (j : Int) = (if y1.toInt ≤ y.toInt then y1.toInt else y.toInt) / s.toInt then (y1.toInt - y.toInt) * iW s.toInt x.toInt x1.toInt (k * s.toInt) else 0) := by
  have e1 := tm_fr_i hs hy hy1
  have e2 := tm_fr_i hs hx hx1
  have r1 : (y1 - y).toInt = y1.toInt - y.toInt := i3_sub (by have := hy.1; have := hy.2; have := hy1.1; have := hy1.2; omega) (by have := hy.1; have := hy.2; have := hy1.1; have := hy1.2; omega)
  have k0 : kI 0 = 0 := rfl
  have i0 : (0 : Int32).toInt = 0 := rfl
  have ha := nI_toInt (n := al) (by omega)
  unfold tm_cov
  by_cases h0 : y1 - y = 0
  · rw [if_pos h0]
    rw [h0] at r1
    rw [← r1, i0, Int.zero_mul, ite_self, k0, Int32.add_zero]
  rw [if_neg h0]
  by_cases h1 : tm_fr s y y1 < 0
  · rw [if_pos h1]
    rw [Int32.lt_iff_toInt_lt, i0, e1] at h1
    rw [if_neg (by omega), k0, Int32.add_zero]
  rw [if_neg h1]
  by_cases h2 : tm_fr s y y1 < nI al
  rotate_left
  · rw [if_neg h2]
    rw [Int32.lt_iff_toInt_lt, ha, e1] at h2
    rw [if_neg (by omega), k0, Int32.add_zero]
  rw [if_pos h2]
  rw [Int32.lt_iff_toInt_lt, i0, e1] at h1
  rw [Int32.lt_iff_toInt_lt, ha, e1] at h2
  obtain ⟨j0, hj0⟩ : ∃ j0 : Nat, (tm_fr s y y1).toNatClampNeg = j0 := ⟨_, rfl⟩
  have hj1 : (j0 : Int) = (if y1.toInt ≤ y.toInt then y1.toInt else y.toInt) / s.toInt := by
    rw [← e1, ← hj0]
    show ((tm_fr s y y1).toInt.toNat : Int) = _
    rw [Int.toNat_of_nonneg (by rw [e1]; omega)]
  rw [hj0, ← hj1]
  have hvv : (y1 - y) * kI 2 * s = kI ((y1.toInt - y.toInt) * (2 * s.toInt)) := by
    rw [kI_mul, kI_mul, kI_of, ← r1, kI_of, Int32.mul_assoc]
  have hi : iW s.toInt x.toInt x1.toInt (k * s.toInt) = (if (k : Int) < (tm_fr s x x1).toInt then 2 * s.toInt else if (k : Int) = (tm_fr s x x1).toInt then x.toInt + x1.toInt - 2 * (k * s.toInt) else 0) := by rw [iW_col hs, e2]
  have hb2 := div_abs (a := if x1.toInt ≤ x.toInt then x1.toInt else x.toInt) (n := 1000000) hs (by have := hx.1; have := hx.2; have := hx1.1; have := hx1.2; split <;> omega) (by have := hx.1; have := hx.2; have := hx1.1; have := hx1.2; split <;> omega) (by omega)
  rw [← e2] at hb2
  unfold tm_cov2
  generalize hi0 : tm_fr s x x1 = i at hi hb2
  have hc := tm_cv_i (j := j0) hal (v := (y1 - y) * kI 2 * s) (i := i) (j2 := j) hk al 0 G (by omega)
  unfold tm_cv2
  by_cases h3 : i < 0
  · rw [if_pos h3, hc]
    rw [Int32.lt_iff_toInt_lt, i0] at h3
    have hz : iW s.toInt x.toInt x1.toInt (k * s.toInt) = 0 := by rw [hi, if_neg (by omega), if_neg (by omega)]
    rw [if_neg (by omega), hz, Int.mul_zero, ite_self, k0, Int32.add_zero]
  rw [if_neg h3]
  by_cases h4 : nI al ≤ i
  · rw [if_pos h4, hc]
    rw [Int32.le_iff_toInt_le, ha] at h4
    rw [hi, if_pos (c := (k : Int) < i.toInt) (by omega)]
    by_cases hjj : j = j0
    · rw [if_pos ⟨hjj, by omega, by omega⟩, if_pos (show (j : Int) = (j0 : Int) by omega), hvv]
    · rw [if_neg (by omega), if_neg (show ¬ (j : Int) = (j0 : Int) by omega), k0, Int32.add_zero]
  rw [if_neg h4]
  rw [Int32.lt_iff_toInt_lt, i0] at h3
  rw [Int32.le_iff_toInt_le, ha] at h4
  obtain ⟨i1, hi1⟩ : ∃ i1 : Nat, i.toNatClampNeg = i1 := ⟨_, rfl⟩
  have hi2 : (i1 : Int) = i.toInt := by
    rw [← hi1]
    show (i.toInt.toNat : Int) = _
    rw [Int.toNat_of_nonneg (by omega)]
  have hii : kI i.toInt = i := kI_of i
  have hE : (k : Int) = i.toInt → (y1 - y) * (x + x1 - kI 2 * i * s) = kI ((y1.toInt - y.toInt) * (x.toInt + x1.toInt - 2 * (k * s.toInt))) := by
    intro z
    rw [z]
    simp only [kI_mul, kI_sub, kI_add, kI_of]
    rw [Int32.mul_assoc (kI 2)]
  rw [hi1]
  rw [upd_al (show i1 < al by omega) hk, hi]
  by_cases hjj : j = j0
  · subst hjj
    rw [if_pos (c := (j : Int) = (j : Int)) rfl]
    by_cases hki : k = i1
    · subst hki
      have hn : ¬ (j = j ∧ 0 ≤ k ∧ (k : Int) < i.toInt) := by omega
      rw [if_neg hn] at hc
      rw [if_pos ⟨rfl, rfl⟩, hc, if_neg (by omega), if_pos (by omega)]
      rw [hE hi2]
    · rw [if_neg (c := j = j ∧ k = i1) (by omega), hc]
      by_cases hlt : (k : Int) < i.toInt
      · rw [if_pos ⟨rfl, by omega, hlt⟩, if_pos hlt, hvv]
      · rw [if_neg (by omega), if_neg hlt, if_neg (by omega), Int.mul_zero, k0, Int32.add_zero]
  · rw [if_neg (by omega), hc, if_neg (by omega), if_neg (show ¬ (j : Int) = (j0 : Int) by omega), k0, Int32.add_zero]
