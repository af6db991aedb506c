/-! both states: blends, pairs, kerning, x in a row -/
theorem mix_eq (a b c e x y u w : Int64) : (a * x + b * u) * y + (c * x + e * u) * w = a * x * y + b * u * y + c * x * w + e * u * w := by
  rw [Int64.add_mul, Int64.add_mul, ← Int64.add_assoc]
theorem u_B {u : Int32} (h : 0 ≤ u.toInt ∧ u.toInt ≤ 1024) : (kI 1024 - u).toInt = 1024 - u.toInt := by
  rw [i3_sub (by rw [kt1024]; omega) (by rw [kt1024]; omega), kt1024]
theorem blend_eq {mm : Nat} {u w : Int32} {J : Nat → Int32} (hB : rBl mm u w (J 1) (J 17) (J 18)) {p : Nat} (hp : p ≤ 40) {g : Nat → Int32} {a b c e : Int32} (ha : g (p * mm) = a) (hb : ¬ mm = 1 → g (p * mm + 1) = b ∧ iB 10000 b) (hc : mm = 4 → g (p * mm + 2) = c ∧ g (p * mm + 3) = e) : tw_val (nI mm) u w g (nI p) = tm_btw J a b c e := by
  obtain ⟨b1, b2, b3, b4, b5, b6⟩ := hB
  have hm4 : mm ≤ 4 := by rcases b1 with h | h | h <;> omega
  have hpm : p * mm ≤ 40 * 4 := Nat.mul_le_mul hp hm4
  have i0 : (nI p * nI mm).toNatClampNeg = p * mm := by rw [nI_mul, nI_clamp (by omega)]
  have i1 : (nI p * nI mm + kI 1).toNatClampNeg = p * mm + 1 := by rw [nI_mul, show kI 1 = nI 1 from rfl, nI_add, nI_clamp (by omega)]
  have i2 : (nI p * nI mm + kI 2).toNatClampNeg = p * mm + 2 := by rw [nI_mul, show kI 2 = nI 2 from rfl, nI_add, nI_clamp (by omega)]
  have i3 : (nI p * nI mm + kI 3).toNatClampNeg = p * mm + 3 := by rw [nI_mul, show kI 3 = nI 3 from rfl, nI_add, nI_clamp (by omega)]
  have n1 : nI mm = kI 1 ↔ mm = 1 := nI_eq (b := 1) (by omega) (by omega)
  have n2 : nI mm = kI 2 ↔ mm = 2 := nI_eq (b := 2) (by omega) (by omega)
  unfold tw_val tm_btw
  rw [b2, b3, b4, i0, i1, i2, i3, ha]
  by_cases c1 : mm = 1
  · rw [if_pos (n1.mpr c1), if_pos (n1.mpr c1)]
  obtain ⟨hb1, hb2⟩ := hb c1
  rw [if_neg (fun z => c1 (n1.mp z)), if_neg (fun z => c1 (n1.mp z)), hb1]
  by_cases c2 : mm = 2
  · rw [if_pos (n2.mpr c2), if_pos (n2.mpr c2), hvU_nr (by decide) (by decide)]
    rfl
  rw [if_neg (fun z => c2 (n2.mp z)), if_neg (fun z => c2 (n2.mp z))]
  obtain ⟨hc1, hc2⟩ := hc (by rcases b1 with h | h | h <;> omega)
  have hbu : (b * u).toInt64 = b.toInt64 * u.toInt64 := by
    have hm := mul_bd (n := 10000) (by omega) (x := b.toInt) (y := u.toInt) ⟨hb2.1, hb2.2⟩ (by omega)
    refine i6_ext ?_
    rw [i6_of, i3_mul (by omega) (by omega), i6_mul (by rw [i6_of, i6_of]; omega) (by rw [i6_of, i6_of]; omega), i6_of, i6_of]
  rw [hc1, hc2, hbu, hvU_nr (by decide) (by decide)]
  unfold tw_mix
  rw [mix_eq]
theorem tw_pf_i (gl gr : Nat → Int32) (x y : Int32) : ∀ m k, k ≤ tw_pf gl gr x y m k ∧ tw_pf gl gr x y m k ≤ k + m ∧ (∀ z, k ≤ z → z < tw_pf gl gr x y m k → ¬ (gl z = x ∧ gr z = y)) ∧ (tw_pf gl gr x y m k < k + m → gl (tw_pf gl gr x y m k) = x ∧ gr (tw_pf gl gr x y m k) = y) := by
  intro m
  induction m with
  | zero => intro k; exact ⟨Nat.le_refl _, Nat.le_refl _, fun i h1 h2 => by have e : tw_pf gl gr x y 0 k = k := rfl; omega, fun h => by have e : tw_pf gl gr x y 0 k = k := rfl; omega⟩
  | succ m ih =>
    intro k
    by_cases c : gl k = x ∧ gr k = y
    · rw [show tw_pf gl gr x y (m + 1) k = k from if_pos c]
      exact ⟨Nat.le_refl _, by omega, fun i h1 h2 => by omega, fun _ => c⟩
    · rw [show tw_pf gl gr x y (m + 1) k = tw_pf gl gr x y m (k + 1) from if_neg c]
      obtain ⟨a1, a2, a3, a4⟩ := ih (k + 1)
      refine ⟨by omega, by omega, fun i h1 h2 => ?_, fun h => a4 (by omega)⟩
      by_cases e : i = k
      · subst e; exact c
      · exact a3 i (by omega) h2
theorem tm_pat_i (g : Nat → Int32) (v : Int32) : ∀ m k r, (tm_pat g v m k r = r ∧ ∀ z, k ≤ z → z < k + m → g z ≠ v) ∨ ∃ j, k ≤ j ∧ j < k + m ∧ g j = v ∧ tm_pat g v m k r = nI j := by
  intro m
  induction m with
  | zero => intro k r; exact Or.inl ⟨rfl, fun z h1 h2 => by omega⟩
  | succ m ih =>
    intro k r
    rw [show tm_pat g v (m + 1) k r = tm_pat g v m (k + 1) (if g k = v then nI k else r) from rfl]
    rcases ih (k + 1) (if g k = v then nI k else r) with ⟨a, b⟩ | ⟨j, h1, h2, h3, h4⟩
    · by_cases c : g k = v
      · rw [if_pos c] at a
        exact Or.inr ⟨k, by omega, by omega, c, by rw [if_pos c]; exact a⟩
      · rw [if_neg c] at a
        refine Or.inl ⟨by rw [if_neg c]; exact a, fun z h1 h2 => ?_⟩
        by_cases e : z = k
        · subst e; exact c
        · exact b z (by omega) (by omega)
    · exact Or.inr ⟨j, by omega, by omega, h3, h4⟩
theorem key_nI (i j : Nat) : kI 64 * nI i + nI j = nI (64 * i + j) := by rw [show kI 64 = nI 64 from rfl, nI_mul, nI_add]
/-- a pair is found at the same place, or in neither -/
theorem pair_at {S : tc_S} {J : Nat → Int32} {A : Nat → Nat → Int32} {R : Nat → Int64} (h : RR S J A R) {i j : Nat} (hi : i < S.n) (hj : j < S.n) : (tc_pairAt i j S < S.kp ∧ tm_pat (A 39) (kI 64 * nI i + nI j) S.kp 0 (kI (-1)) = nI (tc_pairAt i j S)) ∨ (tc_pairAt i j S = S.kp ∧ tm_pat (A 39) (kI 64 * nI i + nI j) S.kp 0 (kI (-1)) = kI (-1) ∧ ∀ k, k < S.kp → A 39 k ≠ nI (64 * i + j)) := by
  have hn := h.2.1.1
  obtain ⟨p1, p2, p3, p4⟩ := h.2.2.2.2.2.1
  obtain ⟨a1, a2, a3, a4⟩ := tw_pf_i S.kL S.kR (nI i) (nI j) S.kp 0
  have hkey : ∀ k, k < S.kp → (A 39 k = nI (64 * i + j) ↔ S.kL k = nI i ∧ S.kR k = nI j) := by
    intro k hk
    obtain ⟨⟨x, y, hx, hy, e1, e2, e3⟩, _⟩ := p3 k hk
    rw [e1, e2, e3, nI_eq (by omega) (by omega), nI_eq (by omega) (by omega), nI_eq (by omega) (by omega)]
    omega
  unfold tc_pairAt
  rw [key_nI]
  rcases tm_pat_i (A 39) (nI (64 * i + j)) S.kp 0 (kI (-1)) with ⟨b1, b2⟩ | ⟨k, b1, b2, b3, b4⟩
  · refine Or.inr ⟨?_, b1, fun k hk => b2 k (by omega) (by omega)⟩
    rcases Nat.lt_or_ge (tw_pf S.kL S.kR (nI i) (nI j) S.kp 0) S.kp with z | z
    · exact absurd ((hkey _ z).mpr (a4 (by omega))) (b2 _ (by omega) (by omega))
    · omega
  · have hk : k < S.kp := by omega
    have hm := (hkey k hk).mp b3
    have hle : tw_pf S.kL S.kR (nI i) (nI j) S.kp 0 ≤ k := by
      rcases Nat.lt_or_ge k (tw_pf S.kL S.kR (nI i) (nI j) S.kp 0) with z | z
      · exact absurd hm (a3 k (by omega) z)
      · exact z
    have hlt : tw_pf S.kL S.kR (nI i) (nI j) S.kp 0 < S.kp := by omega
    have heq : tw_pf S.kL S.kR (nI i) (nI j) S.kp 0 = k := by
      rcases Nat.lt_or_ge (tw_pf S.kL S.kR (nI i) (nI j) S.kp 0) k with z | z
      · have e1 := (hkey _ hlt).mpr (a4 (by omega))
        exact absurd (e1.trans b3.symm) (p4 _ k z hk)
      · omega
    exact Or.inl ⟨hlt, by rw [heq]; exact b4⟩
theorem isK_or (b : Int32) : tw_isKern b = true ∨ tw_isKern b = false := by cases tw_isKern b <;> simp
/-- pair: not told -/
theorem q_pair_f {S : tc_S} {b : Int32} {i j : Nat} (hb : tw_isKern b = false) : tc_pair i j b S = (kI 0, S) := by
  unfold tc_pair
  rw [if_neg (fun z => by rw [hb] at z; exact absurd z.1 (by decide))]
theorem q_pair_40 {S : tc_S} {b : Int32} {i j : Nat} (h1 : tc_pairAt i j S = S.kp) (h40 : S.kp = 40) : tc_pair i j b S = (kI 0, S) := by
  unfold tc_pair
  rw [if_neg (fun z => by have := z.2; omega)]
theorem q_pair_new {S : tc_S} {J : Nat → Int32} {A : Nat → Nat → Int32} {R : Nat → Int64} (h : RR S J A R) {i j : Nat} (hi : i < S.n) (hj : j < S.n) {b : Int32} (hb : tw_isKern b = true) (h1 : tc_pairAt i j S = S.kp) (hno : ∀ k, k < S.kp → A 39 k ≠ nI (64 * i + j)) (h40 : S.kp < 40) : (tc_pair i j b S).1 = kI 1 ∧ RR (tc_pair i j b S).2 (upd (tm_J0 J) 41 (nI S.kp + kI 1)) (va_up (va_up A 39 (upd (A 39) S.kp (kI 64 * nI i + nI j))) 40 (upd (A 40) S.kp b)) R := by
  unfold tc_pair
  rw [if_pos ⟨hb, by omega⟩, h1, key_nI, show max S.kp (S.kp + 1) = S.kp + 1 by omega]
  obtain ⟨g1, g2, g3, g4, g5, ⟨p1, p2, p3, p4⟩, g7⟩ := h
  refine ⟨rfl, g1, g2, g3, g4, g5, ⟨?_, ?_, ?_, ?_⟩, g7⟩
  · show S.kp + 1 ≤ 40
    omega
  · show nI S.kp + kI 1 = nI (S.kp + 1)
    exact (nI_succ _).symm
  · intro k hk
    have hk2 : k < S.kp + 1 := hk
    show (∃ x y, x < S.n ∧ y < S.n ∧ upd S.kL S.kp (nI i) k = nI x ∧ upd S.kR S.kp (nI j) k = nI y ∧ upd (A 39) S.kp (nI (64 * i + j)) k = nI (64 * x + y)) ∧ upd (A 40) S.kp b k = upd S.kO S.kp b k
    unfold upd
    by_cases e : k = S.kp
    · rw [if_pos e, if_pos e, if_pos e, if_pos e, if_pos e]; exact ⟨⟨i, j, hi, hj, rfl, rfl, rfl⟩, rfl⟩
    · rw [if_neg e, if_neg e, if_neg e, if_neg e, if_neg e]; exact p3 k (by omega)
  · intro x y hxy hy
    have hy2 : y < S.kp + 1 := hy
    show upd (A 39) S.kp (nI (64 * i + j)) x ≠ upd (A 39) S.kp (nI (64 * i + j)) y
    unfold upd
    rw [if_neg (by omega)]
    by_cases e : y = S.kp
    · rw [if_pos e]; exact hno x (by omega)
    · rw [if_neg e]; exact p4 x y hxy (by omega)
theorem q_pair_old {S : tc_S} {J : Nat → Int32} {A : Nat → Nat → Int32} {R : Nat → Int64} (h : RR S J A R) {i j : Nat} (hi : i < S.n) (hj : j < S.n) {b : Int32} (hb : tw_isKern b = true) (h1 : tc_pairAt i j S < S.kp) : (tc_pair i j b S).1 = kI 1 ∧ RR (tc_pair i j b S).2 (upd (tm_J0 J) 41 (nI S.kp + kI 0)) (va_up (va_up A 39 (upd (A 39) (tc_pairAt i j S) (kI 64 * nI i + nI j))) 40 (upd (A 40) (tc_pairAt i j S) b)) R := by
  obtain ⟨a1, a2, a3, a4⟩ := tw_pf_i S.kL S.kR (nI i) (nI j) S.kp 0
  have hm : S.kL (tc_pairAt i j S) = nI i ∧ S.kR (tc_pairAt i j S) = nI j := a4 (by unfold tc_pairAt at h1; omega)
  have hn := h.2.1.1
  obtain ⟨g1, g2, g3, g4, g5, ⟨p1, p2, p3, p4⟩, g7⟩ := h
  unfold tc_pair
  rw [if_pos ⟨hb, by omega⟩, key_nI, show max S.kp (tc_pairAt i j S + 1) = S.kp by omega]
  generalize tc_pairAt i j S = p at h1 hm
  have hA : A 39 p = nI (64 * i + j) := by
    obtain ⟨⟨x, y, hx, hy, e1, e2, e3⟩, _⟩ := p3 p h1
    rw [hm.1, nI_eq (by omega) (by omega)] at e1
    rw [hm.2, nI_eq (by omega) (by omega)] at e2
    rw [e3, e1, e2]
  refine ⟨rfl, g1, g2, g3, g4, g5, ⟨p1, ?_, ?_, ?_⟩, g7⟩
  · show nI S.kp + kI 0 = nI S.kp
    exact Int32.add_zero _
  · intro k hk
    show (∃ x y, x < S.n ∧ y < S.n ∧ upd S.kL p (nI i) k = nI x ∧ upd S.kR p (nI j) k = nI y ∧ upd (A 39) p (nI (64 * i + j)) k = nI (64 * x + y)) ∧ upd (A 40) p b k = upd S.kO p b k
    unfold upd
    by_cases e : k = p
    · rw [if_pos e, if_pos e, if_pos e, if_pos e, if_pos e]; exact ⟨⟨i, j, hi, hj, rfl, rfl, rfl⟩, rfl⟩
    · rw [if_neg e, if_neg e, if_neg e, if_neg e, if_neg e]; exact p3 k hk
  · intro x y hxy hy
    have e : upd (A 39) p (nI (64 * i + j)) = A 39 := by
      funext z
      unfold upd
      by_cases e : z = p
      · rw [if_pos e, e, hA]
      · rw [if_neg e]
    show upd (A 39) p (nI (64 * i + j)) x ≠ upd (A 39) p (nI (64 * i + j)) y
    rw [e]
    exact p4 x y hxy hy
/-- the distance of two glyphs -/
theorem ker_eq {S : tc_S} {J : Nat → Int32} {A : Nat → Nat → Int32} {R : Nat → Int64} (h : RR S J A R) {i j : Nat} (hi : i < S.n) (hj : j < S.n) : tc_ker S (nI i) (nI j) = tm_kn A S.kp i j := by
  have hn := h.2.1.1
  have hp := pair_at h hi hj
  obtain ⟨p1, p2, p3, p4⟩ := h.2.2.2.2.2.1
  obtain ⟨k1, k2⟩ := h.2.2.2.2.1
  unfold tc_ker tm_kn
  rw [show tw_pf S.kL S.kR (nI i) (nI j) S.kp 0 = tc_pairAt i j S from rfl]
  rcases hp with ⟨a, b⟩ | ⟨a, b, _⟩
  · rw [if_pos a, b, if_neg (nI_pos (by omega)), nI_clamp (by omega)]
    exact ((p3 _ a).2).symm
  · rw [if_neg (by omega), b, if_pos (by decide), nI_clamp (by omega), nI_clamp (by omega)]
    obtain ⟨⟨c, hc, e1, e2⟩, _⟩ := k1 i (by omega)
    obtain ⟨_, ⟨e, he, e3, e4⟩⟩ := k1 j (by omega)
    unfold tm_kc
    have i1 : (nI c * kI 16 + nI e).toNatClampNeg = 16 * c + e := by rw [show kI 16 = nI 16 from rfl, nI_mul, nI_add, nI_clamp (by omega)]; omega
    have i2 : (kI 16 * nI c + nI e).toNatClampNeg = 16 * c + e := by rw [show kI 16 = nI 16 from rfl, nI_mul, nI_add, nI_clamp (by omega)]
    rw [e1, e3, e2, e4, i1, i2, k2 c e (by omega) (by omega)]
    by_cases d1 : c = 0
    · rw [if_pos (Or.inl d1), if_pos (by rw [d1]; decide)]; rfl
    rw [if_neg (c := nI c ≤ 0) (nI_nle (by omega) (by omega))]
    by_cases d2 : e = 0
    · rw [if_pos (Or.inr (Or.inl d2)), if_pos (by rw [d2]; decide)]; rfl
    rw [if_neg (c := nI e ≤ 0) (nI_nle (by omega) (by omega))]
    by_cases d3 : A 38 (16 * c + e) = 0
    · rw [if_pos (Or.inr (Or.inr d3)), if_pos d3]; rfl
    · rw [if_neg d3, if_neg]
      rintro (z | z | z)
      · exact d1 z
      · exact d2 z
      · exact d3 z
theorem wid_eq {S : tc_S} {J : Nat → Int32} {A : Nat → Nat → Int32} {R : Nat → Int64} (h : RR S J A R) {i : Nat} (hi : i < S.n) : tc_wid S i = tm_wid J A i := by
  obtain ⟨h1, ⟨g1, g2, g3, g4⟩, _⟩ := h
  obtain ⟨_, _, _, w, _⟩ := g3 i hi
  have hmm := h1.1
  have hw : ∀ k, k < S.mm → A 8 (4 * i + k) = (S.T i).W k ∧ 0 ≤ ((S.T i).W k).toInt ∧ ((S.T i).W k).toInt ≤ 4000 := w
  have hz : ∀ k, 0 * S.mm + k = k := fun k => by rw [Nat.zero_mul, Nat.zero_add]
  have hz0 : 0 * S.mm = 0 := Nat.zero_mul _
  unfold tc_wid tm_wid
  refine blend_eq h1 (p := 0) (by omega) ?_ (fun hm => ?_) (fun hm => ?_)
  · rw [hz0, (show A 8 (4 * i) = (S.T i).W 0 from (hw 0 (by rcases hmm with z | z | z <;> omega)).1)]
  · obtain ⟨a, b, c⟩ := hw 1 (by rcases hmm with z | z | z <;> omega)
    rw [hz, a]
    exact ⟨rfl, by omega, by omega⟩
  · rw [hz, hz, (hw 2 (by omega)).1, (hw 3 (by omega)).1]
    exact ⟨rfl, rfl⟩
/-- where a glyph of the row stands -/
theorem xs_eq {S : tc_S} {J : Nat → Int32} {A : Nat → Nat → Int32} {R : Nat → Int64} (h : RR S J A R) {gr : Nat → Nat} (hg : ∀ k, k < S.rs → S.row k = nI (gr k) ∧ gr k < S.n) : ∀ m k x, k + m ≤ S.rs → tc_x S m k x = tm_xs J A S.kp S.rs gr m k x := by
  have hn := h.2.1.1
  intro m
  induction m with
  | zero => intro k x _; rfl
  | succ m ih =>
    intro k x hk
    obtain ⟨a1, a2⟩ := hg k (by omega)
    have hw := wid_eq h a2
    show tc_x S m (k + 1) (if k + 1 < S.rs then x + tc_wid S (S.row k).toNatClampNeg + tc_ker S (S.row k) (S.row (k + 1)) else x + tc_wid S (S.row k).toNatClampNeg) = tm_xs J A S.kp S.rs gr m (k + 1) (x + (tm_wid J A (gr k) + (if k + 1 < S.rs then tm_kn A S.kp (gr k) (gr (k + 1)) else kI 0)))
    rw [ih (k + 1) _ (by omega), a1, nI_clamp (by omega), hw]
    congr 1
    by_cases c : k + 1 < S.rs
    · obtain ⟨b1, b2⟩ := hg (k + 1) c
      rw [if_pos c, if_pos c, b1, ker_eq h a2 b2, Int32.add_assoc]
    · rw [if_neg c, if_neg c, show kI 0 = 0 from rfl, Int32.add_zero]
