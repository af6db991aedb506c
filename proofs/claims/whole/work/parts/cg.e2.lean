/-! both states: height, sort, kern, pair -/
theorem tw_hat_i (g : Nat → Int32) (y : Int32) : ∀ m k, k ≤ tw_hat g y m k ∧ tw_hat g y m k ≤ k + m ∧ (∀ i, k ≤ i → i < tw_hat g y m k → (g i).toInt < y.toInt) ∧ (tw_hat g y m k < k + m → y.toInt ≤ (g (tw_hat g y m k)).toInt) := by
  intro m
  induction m with
  | zero => intro k; exact ⟨Nat.le_refl _, Nat.le_refl _, fun i h1 h2 => by have e : tw_hat g y 0 k = k := rfl; omega, fun h => by have e : tw_hat g y 0 k = k := rfl; omega⟩
  | succ m ih =>
    intro k
    by_cases c : y ≤ g k
    · rw [show tw_hat g y (m + 1) k = k from if_pos c]
      rw [le3] at c
      exact ⟨Nat.le_refl _, by omega, fun i h1 h2 => by omega, fun _ => c⟩
    · rw [show tw_hat g y (m + 1) k = tw_hat g y m (k + 1) from if_neg c]
      rw [le3] at c
      obtain ⟨a1, a2, a3, a4⟩ := ih (k + 1)
      refine ⟨by omega, by omega, fun i h1 h2 => ?_, fun h => a4 (by omega)⟩
      by_cases e : i = k
      · subst e; omega
      · exact a3 i (by omega) h2
theorem tw_up1_i (g : Nat → Int32) : ∀ m i z, m ≤ i → tw_up1 g m i z = if i - m < z ∧ z ≤ i then g (z - 1) else g z := by
  have gen : ∀ m (g : Nat → Int32) i z, m ≤ i → tw_up1 g m i z = if i - m < z ∧ z ≤ i then g (z - 1) else g z := by
    intro m
    induction m with
    | zero => intro g i z _; rw [if_neg (by omega)]; rfl
    | succ m ih =>
      intro g i z h
      show tw_up1 (upd g i (g (i - 1))) m (i - 1) z = _
      rw [ih _ (i - 1) z (by omega)]
      unfold upd
      by_cases c : z = i
      · subst c
        rw [if_neg (by omega), if_pos rfl, if_pos (by omega)]
      · by_cases c2 : i - 1 - m < z ∧ z ≤ i - 1
        · rw [if_pos c2, if_neg (by omega), if_pos (by omega)]
        · rw [if_neg c2, if_neg c, if_neg (by omega)]
  exact fun m i z h => gen m g i z h
theorem tm_told_i (g : Nat → Int32) (y : Int32) : ∀ m k b, tm_told g y m k b = true ↔ b = true ∨ ∃ i, k ≤ i ∧ i < k + m ∧ g i = y := by
  intro m
  induction m with
  | zero => intro k b; exact ⟨fun h => Or.inl h, fun h => h.elim id (fun ⟨i, h1, h2, _⟩ => by omega)⟩
  | succ m ih =>
    intro k b
    show tm_told g y m (k + 1) (b || decide (g k = y)) = true ↔ _
    rw [ih, Bool.or_eq_true, decide_eq_true_eq]
    constructor
    · rintro ((h | h) | ⟨i, h1, h2, h3⟩)
      · exact Or.inl h
      · exact Or.inr ⟨k, by omega, by omega, h⟩
      · exact Or.inr ⟨i, by omega, by omega, h3⟩
    · rintro (h | ⟨i, h1, h2, h3⟩)
      · exact Or.inl (Or.inl h)
      · by_cases e : i = k
        · subst e; exact Or.inl (Or.inr h3)
        · exact Or.inr ⟨i, by omega, by omega, h3⟩
theorem isP_in (y : Int32) : tm_isP y = tw_in y (kI (-2000)) (kI 4000) := by
  unfold tm_isP tw_in
  have e1 : decide (¬ y < kI (-2000)) = decide (kI (-2000) ≤ y) := decide_eq_decide.mpr ⟨fun h => by rw [le3]; rw [lt3] at h; omega, fun h => by rw [lt3]; rw [le3] at h; omega⟩
  have e2 : decide (¬ kI 4000 < y) = decide (y ≤ kI 4000) := decide_eq_decide.mpr ⟨fun h => by rw [le3]; rw [lt3] at h; omega, fun h => by rw [lt3]; rw [le3] at h; omega⟩
  rw [e1, e2]
theorem isP_i {y : Int32} : tm_isP y = true ↔ -2000 ≤ y.toInt ∧ y.toInt ≤ 4000 := by
  rw [isP_in, in_le, show (kI (-2000)).toInt = -2000 by decide, show (kI 4000).toInt = 4000 by decide]
theorem isK_in (y : Int32) : tm_isK y = tw_isKern y := by
  unfold tm_isK tw_isKern tw_in
  have e1 : decide (¬ y < kI (-1000)) = decide (kI (-1000) ≤ y) := decide_eq_decide.mpr ⟨fun h => by rw [le3]; rw [lt3] at h; omega, fun h => by rw [lt3]; rw [le3] at h; omega⟩
  have e2 : decide (¬ kI 1000 < y) = decide (y ≤ kI 1000) := decide_eq_decide.mpr ⟨fun h => by rw [le3]; rw [lt3] at h; omega, fun h => by rw [lt3]; rw [le3] at h; omega⟩
  rw [e1, e2]
theorem isK_i {y : Int32} : tw_isKern y = true ↔ -1000 ≤ y.toInt ∧ y.toInt ≤ 1000 := by
  unfold tw_isKern
  rw [in_le, show (kI (-1000)).toInt = -1000 by decide, show (kI 1000).toInt = 1000 by decide]
theorem isS_i {x y : Int32} : tw_isShift x y = (tm_isS x && tm_isS y) := by
  have h : ∀ y : Int32, tm_isS y = tw_in y (kI (-4000)) (kI 4000) := fun y => by
    unfold tm_isS tw_in
    have e1 : decide (¬ y < kI (-4000)) = decide (kI (-4000) ≤ y) := decide_eq_decide.mpr ⟨fun h => by rw [le3]; rw [lt3] at h; omega, fun h => by rw [lt3]; rw [le3] at h; omega⟩
    have e2 : decide (¬ kI 4000 < y) = decide (y ≤ kI 4000) := decide_eq_decide.mpr ⟨fun h => by rw [le3]; rw [lt3] at h; omega, fun h => by rw [lt3]; rw [le3] at h; omega⟩
    rw [e1, e2]
  rw [h, h]
  rfl
theorem isPl_i (x y : Int32) : tw_isPlace x y = (tm_isP x && tm_isP y) := by rw [isP_in, isP_in]; rfl
/-- height -/
theorem q_height {S : tc_S} {J : Nat → Int32} {A : Nat → Nat → Int32} {R : Nat → Int64} (h : RR S J A R) (y : Int32) : (tc_height y S).1 = bI (tm_height J A S.hn y).1 ∧ RR (tc_height y S).2 (tm_height J A S.hn y).2.1 (tm_height J A S.hn y).2.2 R := by
  obtain ⟨h1, h2, ⟨t1, t2, t3⟩, h4⟩ := id h
  obtain ⟨a1, a2, a3, a4⟩ := tw_hat_i S.hy y S.hn 0
  obtain ⟨H1, H2, H3, H4⟩ := id t3
  unfold tc_height tm_height
  by_cases c1 : tw_in y (kI (-2000)) (kI 4000) = true
  rotate_left
  · rw [if_neg (fun z => c1 z.1), if_pos (by rw [isP_in, Bool.not_eq_true _ |>.mp c1]; rfl)]
    exact ⟨rfl, h⟩
  rw [if_neg (c := bI (tm_isP y) = 0) (by rw [isP_in, c1]; decide)]
  have hyr := isP_i.mp (by rw [isP_in]; exact c1)
  -- told here, told there
  have htold : (tw_hat S.hy y S.hn 0 < S.hn ∧ S.hy (tw_hat S.hy y S.hn 0) = y) ↔ tm_told (A 29) y S.hn 0 false = true := by
    rw [tm_told_i]
    constructor
    · rintro ⟨q1, q2⟩
      obtain ⟨j, hj, ej⟩ := H3 _ q1
      exact Or.inr ⟨j, by omega, by omega, by rw [ej, q2]⟩
    · rintro (q | ⟨j, q1, q2, q3⟩)
      · cases q
      · obtain ⟨i, hi, ei⟩ := H4 j (by omega)
        have hiy : S.hy i = y := by rw [ei, q3]
        have hle : tw_hat S.hy y S.hn 0 ≤ i := by
          rcases Nat.lt_or_ge i (tw_hat S.hy y S.hn 0) with z | z
          · have := a3 i (by omega) z
            rw [hiy] at this
            omega
          · exact z
        have hlt : tw_hat S.hy y S.hn 0 < S.hn := by omega
        have h5 := a4 (by omega)
        have h6 := hgt_le t3 hle hi
        rw [hiy] at h6
        exact ⟨hlt, i3_ext (by omega)⟩
  by_cases c2 : tw_hat S.hy y S.hn 0 < S.hn ∧ S.hy (tw_hat S.hy y S.hn 0) = y
  · rw [if_neg (fun z => z.2.2 c2), if_pos (by rw [htold.mp c2]; decide)]
    exact ⟨rfl, h⟩
  rw [if_neg (c := ¬ bI (tm_told (A 29) y S.hn 0 false) = 0) (by rw [bI_iff]; intro z; exact z (by rw [← Bool.not_eq_true, ← htold]; exact c2))]
  by_cases c3 : S.hn < 8
  rotate_left
  · rw [if_neg (fun z => c3 z.2.1), if_pos (by rw [show S.hn = 8 by omega]; rfl)]
    exact ⟨rfl, h⟩
  rw [if_pos ⟨c1, c3, c2⟩, if_neg (by intro z; have := (nI_eq (b := 8) (by omega) (by omega)).mp z; omega)]
  refine ⟨rfl, h1, h2, ⟨?_, ?_, ?_⟩, h4⟩
  · show S.hn + 1 ≤ 8
    omega
  · show nI S.hn + kI 1 = nI (S.hn + 1)
    exact (nI_succ _).symm
  · show hgt (S.hn + 1) (upd (tw_up1 S.hy (S.hn - tw_hat S.hy y S.hn 0) S.hn) (tw_hat S.hy y S.hn 0) y) (upd (A 29) (nI S.hn).toNatClampNeg y)
    rw [nI_clamp (by omega)]
    generalize tw_hat S.hy y S.hn 0 = p at a1 a2 a3 a4 c2
    have hv : ∀ i, upd (tw_up1 S.hy (S.hn - p) S.hn) p y i = if i < p then S.hy i else if i = p then y else if i ≤ S.hn then S.hy (i - 1) else S.hy i := by
      intro i
      unfold upd
      rw [tw_up1_i _ _ _ _ (by omega)]
      by_cases d1 : i < p
      · rw [if_neg (by omega), if_neg (by omega), if_pos d1]
      · rw [if_neg d1]
        by_cases d2 : i = p
        · rw [if_pos d2, if_pos d2]
        · rw [if_neg d2, if_neg d2]
          by_cases d3 : i ≤ S.hn
          · rw [if_pos (by omega), if_pos d3]
          · rw [if_neg (by omega), if_neg d3]
    have hgt1 : ∀ i, p ≤ i → i < S.hn → y.toInt < (S.hy i).toInt := by
      intro i q1 q2
      have e1 := a4 (by omega)
      have e2 := hgt_le t3 q1 q2
      have : ¬ S.hy p = y := fun z => c2 ⟨by omega, z⟩
      have : ¬ (S.hy p).toInt = y.toInt := fun z => this (i3_ext z)
      omega
    refine ⟨fun i hi => ?_, fun i hi => ?_, fun i hi => ?_, fun j hj => ?_⟩
    · rw [hv]
      by_cases d1 : i < p
      · rw [if_pos d1]; exact H1 i (by omega)
      · rw [if_neg d1]
        by_cases d2 : i = p
        · rw [if_pos d2]; exact hyr
        · rw [if_neg d2, if_pos (by omega)]; exact H1 _ (by omega)
    · rw [hv, hv]
      by_cases d1 : i + 1 < p
      · rw [if_pos (by omega), if_pos d1]; exact H2 i (by omega)
      · rw [if_neg d1]
        by_cases d2 : i + 1 = p
        · rw [if_pos (by omega), if_pos d2]; exact a3 i (by omega) (by omega)
        · rw [if_neg (c := i < p) (by omega), if_neg d2, if_pos (c := i + 1 ≤ S.hn) (by omega), show i + 1 - 1 = i by omega]
          by_cases d3 : i = p
          · rw [if_pos d3]; exact hgt1 i (by omega) (by omega)
          · rw [if_neg d3, if_pos (by omega)]
            have := H2 (i - 1) (by omega)
            rw [show i - 1 + 1 = i by omega] at this
            exact this
    · rw [hv]
      have old : ∀ k, k < S.hn → ∃ j, j < S.hn + 1 ∧ upd (A 29) S.hn y j = S.hy k := fun k hk => by
        obtain ⟨j, hj, ej⟩ := H3 k hk
        refine ⟨j, by omega, ?_⟩
        unfold upd
        rw [if_neg (by omega)]
        exact ej
      by_cases d1 : i < p
      · rw [if_pos d1]; exact old i (by omega)
      · rw [if_neg d1]
        by_cases d2 : i = p
        · rw [if_pos d2]; exact ⟨S.hn, by omega, if_pos rfl⟩
        · rw [if_neg d2, if_pos (by omega)]; exact old _ (by omega)
    · unfold upd
      by_cases d : j = S.hn
      · rw [if_pos d]
        exact ⟨p, by omega, if_pos rfl⟩
      · rw [if_neg d]
        obtain ⟨i, hi, ei⟩ := H4 j (by omega)
        by_cases d1 : i < p
        · exact ⟨i, by omega, by rw [show (if i = p then y else tw_up1 S.hy (S.hn - p) S.hn i) = upd (tw_up1 S.hy (S.hn - p) S.hn) p y i from rfl, hv, if_pos d1]; exact ei⟩
        · exact ⟨i + 1, by omega, by rw [show (if i + 1 = p then y else tw_up1 S.hy (S.hn - p) S.hn (i + 1)) = upd (tw_up1 S.hy (S.hn - p) S.hn) p y (i + 1) from rfl, hv, if_neg (by omega), if_neg (by omega), if_pos (by omega), show i + 1 - 1 = i by omega]; exact ei⟩
/-- sort -/
theorem q_sort {S : tc_S} {J : Nat → Int32} {A : Nat → Nat → Int32} {R : Nat → Int64} (h : RR S J A R) {i : Nat} (hi : i < S.n) (s t : Int32) : (tc_sort s t i S).1 = bI (tm_sort J A s (nI i) t).1 ∧ RR (tc_sort s t i S).2 (tm_J0 J) (tm_sort J A s (nI i) t).2 R := by
  have hn := h.2.1.1
  have hG : tm_isG J (nI i) = true := (tm_isG_nI h.2.1.1 h.2.1.2.1 _).mpr ⟨i, hi, rfl⟩
  obtain ⟨h1, h2, h3, h4, ⟨k1, k2⟩, h6⟩ := id h
  have e1 : (kI 1).toInt = 1 := by decide
  have e15 : (kI 15).toInt = 15 := by decide
  unfold tc_sort tm_sort
  by_cases c : tw_in s (kI 0) (kI 1) = true ∧ tw_in t (kI 0) (kI 15) = true
  · rw [if_pos c]
    rw [in_le, in_le, kt0, e1, e15] at c
    rw [if_neg (c := s < 0) (by rw [lt3, i3_0]; omega), if_neg (c := kI 1 < s) (by rw [lt3, e1]; omega), if_neg (c := bI (tm_isG (tm_J0 J) (nI i)) = 0) (by rw [tm_isG_J0, hG]; decide), if_neg (c := t < 0) (by rw [lt3, i3_0]; omega), if_pos (c := t ≤ kI 15) (by rw [le3, e15]; omega)]
    obtain ⟨n, hn2⟩ : ∃ n : Nat, t.toInt = n := ⟨t.toInt.toNat, by omega⟩
    have ht : t = nI n := nI_tie (by omega) hn2
    have hnar : vp_nar .byte t.toInt8.toInt32 = nI n := by rw [ht]; exact vp_nar_by (by omega)
    refine ⟨rfl, ?_⟩
    by_cases d : s = 0
    · rw [if_pos d, if_pos d]
      refine ⟨h1, h2, h3, h4, ⟨fun g hg => ⟨?_, (k1 g hg).2⟩, k2⟩, h6⟩
      show ∃ c, c ≤ 15 ∧ upd S.kl i t g = nI c ∧ upd (A 35) (nI i).toNatClampNeg (vp_nar .byte t.toInt8.toInt32) g = nI c
      rw [nI_clamp (by omega), hnar, ht]
      unfold upd
      by_cases e : g = i
      · rw [if_pos e, if_pos e]; exact ⟨n, by omega, rfl, rfl⟩
      · rw [if_neg e, if_neg e]; exact (k1 g hg).1
    · rw [if_neg d, if_neg d]
      refine ⟨h1, h2, h3, h4, ⟨fun g hg => ⟨(k1 g hg).1, ?_⟩, k2⟩, h6⟩
      show ∃ c, c ≤ 15 ∧ upd S.kr i t g = nI c ∧ upd (A 36) (nI i).toNatClampNeg (vp_nar .byte t.toInt8.toInt32) g = nI c
      rw [nI_clamp (by omega), hnar, ht]
      unfold upd
      by_cases e : g = i
      · rw [if_pos e, if_pos e]; exact ⟨n, by omega, rfl, rfl⟩
      · rw [if_neg e, if_neg e]; exact (k1 g hg).2
  · rw [if_neg c]
    rw [in_le, in_le, kt0, e1, e15] at c
    have hf : ∀ X : Bool × (Nat → Nat → Int32), (if s < 0 then (false, A) else if kI 1 < s then (false, A) else if bI (tm_isG (tm_J0 J) (nI i)) = 0 then (false, A) else if t < 0 then (false, A) else if t ≤ kI 15 then X else (false, A)) = (false, A) := by
      intro X
      by_cases d1 : s < 0
      · rw [if_pos d1]
      rw [if_neg d1]
      by_cases d2 : kI 1 < s
      · rw [if_pos d2]
      rw [if_neg d2]
      by_cases d3 : bI (tm_isG (tm_J0 J) (nI i)) = 0
      · rw [if_pos d3]
      rw [if_neg d3]
      by_cases d4 : t < 0
      · rw [if_pos d4]
      rw [if_neg d4]
      by_cases d5 : t ≤ kI 15
      · rw [lt3, i3_0] at d1 d4
        rw [lt3, e1] at d2
        rw [le3, e15] at d5
        omega
      · rw [if_neg d5]
    rw [hf]
    exact ⟨rfl, h⟩
theorem q_sort_n {S : tc_S} {J : Nat → Int32} {A : Nat → Nat → Int32} {R : Nat → Int64} (h : RR S J A R) {g : Int32} (hg : ∀ i, i < S.n → g ≠ nI i) (s t : Int32) : tm_sort J A s g t = (false, A) := by
  have hG : tm_isG J g = false := (tm_isG_no h.2.1.1 h.2.1.2.1 _).mpr hg
  unfold tm_sort
  rw [if_pos (c := bI (tm_isG (tm_J0 J) g) = 0) (by rw [tm_isG_J0, hG]; rfl)]
  split
  · rfl
  · split <;> rfl
/-- kern -/
theorem q_kern {S : tc_S} {J : Nat → Int32} {A : Nat → Nat → Int32} {R : Nat → Int64} (h : RR S J A R) (x y b : Int32) : (tc_kern x y b S).1 = bI (tm_kern A x y b).1 ∧ RR (tc_kern x y b S).2 (tm_J0 J) (tm_kern A x y b).2 R := by
  obtain ⟨h1, h2, h3, h4, ⟨k1, k2⟩, h6⟩ := id h
  have e1 : (kI 1).toInt = 1 := by decide
  have e15 : (kI 15).toInt = 15 := by decide
  unfold tc_kern tm_kern
  by_cases c : tw_in x (kI 1) (kI 15) = true ∧ tw_in y (kI 1) (kI 15) = true ∧ tw_isKern b = true
  · rw [if_pos c]
    have hb := isK_i.mp c.2.2
    rw [in_le, in_le, e1, e15] at c
    rw [if_neg (c := x < kI 1) (by rw [lt3, e1]; omega), if_neg (c := kI 15 < x) (by rw [lt3, e15]; omega), if_neg (c := y < kI 1) (by rw [lt3, e1]; omega), if_neg (c := kI 15 < y) (by rw [lt3, e15]; omega), if_neg (c := bI (tm_isK b) = 0) (by rw [isK_in, c.2.2]; decide)]
    obtain ⟨n, hn2⟩ : ∃ n : Nat, x.toInt = n := ⟨x.toInt.toNat, by omega⟩
    obtain ⟨m, hm2⟩ : ∃ m : Nat, y.toInt = m := ⟨y.toInt.toNat, by omega⟩
    have hx : x = nI n := nI_tie (by omega) hn2
    have hy : y = nI m := nI_tie (by omega) hm2
    have hnar : vp_nar .short b.toInt16.toInt32 = b := vp_nar_sh hb
    have hnb : vp_nar .boolean (kI 1) = kI 1 := vp_nar_b true
    refine ⟨rfl, h1, h2, h3, h4, ⟨k1, fun p e hp he => ?_⟩, h6⟩
    show upd S.kc (x * kI 16 + y).toNatClampNeg b (16 * p + e) = if p = 0 ∨ e = 0 ∨ upd (A 38) (kI 16 * x + y).toNatClampNeg (vp_nar .boolean (kI 1)) (16 * p + e) = 0 then 0 else upd (A 37) (kI 16 * x + y).toNatClampNeg (vp_nar .short b.toInt16.toInt32) (16 * p + e)
    have i1 : (x * kI 16 + y).toNatClampNeg = 16 * n + m := by rw [hx, hy, show kI 16 = nI 16 from rfl, nI_mul, nI_add, nI_clamp (by omega)]; omega
    have i2 : (kI 16 * x + y).toNatClampNeg = 16 * n + m := by rw [hx, hy, show kI 16 = nI 16 from rfl, nI_mul, nI_add, nI_clamp (by omega)]
    rw [i1, i2, hnar, hnb]
    unfold upd
    by_cases d : 16 * p + e = 16 * n + m
    · rw [if_pos d, if_pos d, if_pos d, if_neg]
      rintro (z | z | z)
      · omega
      · omega
      · exact absurd z (by decide)
    · rw [if_neg d, if_neg d, if_neg d]
      exact k2 p e hp he
  · rw [if_neg c]
    have hf : ∀ X : Bool × (Nat → Nat → Int32), (if x < kI 1 then (false, A) else if kI 15 < x then (false, A) else if y < kI 1 then (false, A) else if kI 15 < y then (false, A) else if bI (tm_isK b) = 0 then (false, A) else X) = (false, A) := by
      intro X
      by_cases d1 : x < kI 1
      · rw [if_pos d1]
      rw [if_neg d1]
      by_cases d2 : kI 15 < x
      · rw [if_pos d2]
      rw [if_neg d2]
      by_cases d3 : y < kI 1
      · rw [if_pos d3]
      rw [if_neg d3]
      by_cases d4 : kI 15 < y
      · rw [if_pos d4]
      rw [if_neg d4]
      by_cases d5 : bI (tm_isK b) = 0
      · rw [if_pos d5]
      · exfalso
        rw [lt3, e1] at d1 d3
        rw [lt3, e15] at d2 d4
        rw [bI_iff, isK_in] at d5
        exact c ⟨by rw [in_le, e1, e15]; omega, by rw [in_le, e1, e15]; omega, by cases hh : tw_isKern b with | true => rfl | false => exact absurd hh d5⟩
    rw [hf]
    exact ⟨rfl, h⟩
