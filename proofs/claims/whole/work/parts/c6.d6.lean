/-! draw: the class's parts, lines, edges -/
theorem cut_i {n : Nat} {s : Int32} (hn : n ≤ 64) (hs : 0 < s.toInt) (hs2 : s.toInt ≤ 256) {k : Nat} (hk : k ≤ 65) : (nI k * s).toInt = k * s.toInt := by
  have h := nI_toInt (n := k) (by omega)
  have h1 : (0 : Int) ≤ k * s.toInt := Int.mul_nonneg (by omega) (by omega)
  have h2 : (k : Int) * s.toInt ≤ 65 * 256 := Int.mul_le_mul (by omega) hs2 (by omega) (by omega)
  rw [i3_mul (by rw [h]; omega) (by rw [h]; omega), h]
/-- the rest of a part: what it adds from x on -/
theorem tw_cut_i {n : Nat} {s : Int32} (hn : n ≤ 64) (hs : 0 < s.toInt) (hs2 : s.toInt ≤ 256) {r : Nat} (hr : r < n) {way lx ly rx ry : Int32} {w : Int} (hlx : iB 1000000 lx) (hly : iB 1000000 ly) (hrx : iB 1000000 rx) (hry : iB 1000000 ry) (hlr : lx.toInt < rx.toInt) (hw : ∀ t t2 : Int, lx.toInt ≤ t → t ≤ t2 → t2 ≤ rx.toInt → ∀ d : Int32, d.toInt = iA ly.toInt ry.toInt lx.toInt rx.toInt t2 - iA ly.toInt ry.toInt lx.toInt rx.toInt t → (way * tw_abs d).toInt = w * d.toInt) {r2 kk : Nat} (hkk : kk < n) : ∀ m k (x y : Int32) (g : Nat → Int32), m = n + 1 - k → lx.toInt ≤ x.toInt → x.toInt ≤ rx.toInt → y.toInt = iA ly.toInt ry.toInt lx.toInt rx.toInt x.toInt → (x.toInt < k * s.toInt ∧ (k = 0 ∨ k * s.toInt ≤ x.toInt + s.toInt)) → sfx (tw_rise (tw_cut s n r way lx ly rx ry m k x y g).2.2 s (nI n) (nI r) (tw_cut s n r way lx ly rx ry m k x y g).1 rx (way * tw_abs (ry - (tw_cut s n r way lx ly rx ry m k x y g).2.1))) (r2 * n) (n - kk) kk = sfx g (r2 * n) (n - kk) kk + kI (if r2 = r then w * iT s.toInt (iA ly.toInt ry.toInt lx.toInt rx.toInt) (kk * s.toInt) x.toInt rx.toInt else 0) := by
  have k0 : kI 0 = 0 := rfl
  have hB : ∀ t : Int32, lx.toInt ≤ t.toInt → t.toInt ≤ rx.toInt → iB 1000000 t := fun t h1 h2 => ⟨by have := hlx.1; omega, by have := hrx.2; omega⟩
  have hC : ∀ b t : Int32, lx.toInt ≤ t.toInt → t.toInt ≤ rx.toInt → b.toInt = iA ly.toInt ry.toInt lx.toInt rx.toInt t.toInt → iB 1000000 b := by
    intro b t h1 h2 e
    have h := iA_btw (a := ly.toInt) (b := ry.toInt) (p := lx.toInt) (q := rx.toInt) (m := t.toInt) (by omega)
    obtain ⟨a1, a2⟩ := hly
    obtain ⟨b1, b2⟩ := hry
    unfold iB
    rw [e]
    rcases Int.le_total ly.toInt ry.toInt with c | c
    · have := h.1 c; omega
    · have := h.2 c; omega
  have hp0 : (0 : Int) ≤ kk * s.toInt := Int.mul_nonneg (by omega) (by omega)
  have hkn : (kk : Int) * s.toInt + s.toInt ≤ n * s.toInt := by
    have := Int.mul_le_mul_of_nonneg_right (show (kk : Int) + 1 ≤ n by omega) (Int.le_of_lt hs)
    rw [Int.add_mul, Int.one_mul] at this
    exact this
  have hq : iA ly.toInt ry.toInt lx.toInt rx.toInt rx.toInt = ry.toInt := iA_q (by omega)
  -- a piece [x, t] in one column, or left of all
  have hone : ∀ (k : Nat) (x t y u : Int32) (g : Nat → Int32), lx.toInt ≤ x.toInt → x.toInt ≤ t.toInt → t.toInt ≤ rx.toInt → y.toInt = iA ly.toInt ry.toInt lx.toInt rx.toInt x.toInt → u.toInt = iA ly.toInt ry.toInt lx.toInt rx.toInt t.toInt → (t.toInt ≤ k * s.toInt ∧ x.toInt < k * s.toInt ∧ (k = 0 ∨ k * s.toInt ≤ x.toInt + s.toInt)) ∨ n * s.toInt ≤ x.toInt → sfx (tw_rise g s (nI n) (nI r) x t (way * tw_abs (u - y))) (r2 * n) (n - kk) kk = sfx g (r2 * n) (n - kk) kk + kI (if r2 = r then w * iT s.toInt (iA ly.toInt ry.toInt lx.toInt rx.toInt) (kk * s.toInt) x.toInt t.toInt else 0) := by
    intro k x t y u g h1 h2 h3 hy hu hc
    have by_ := hC y x h1 (by omega) hy
    have bu := hC u t (by omega) h3 hu
    have hd : (u - y).toInt = u.toInt - y.toInt := i3_sub (by have := by_.1; have := by_.2; have := bu.1; have := bu.2; omega) (by have := by_.1; have := by_.2; have := bu.1; have := bu.2; omega)
    have hww := hw x.toInt t.toInt h1 h2 h3 (u - y) (by rw [hd, hu, hy])
    rw [tw_rise_i hn hs hs2 hr (hB x h1 (by omega)) (hB t (by omega) h3) h2 _ g hkk, hww, hd, hu, hy, Int.mul_assoc]
    congr 4
    by_cases hxt : x.toInt = t.toInt
    · rw [hxt, Int.sub_self, Int.zero_mul, iT_rr]
    have hlt : x.toInt < t.toInt := by omega
    rcases hc with ⟨c1, c2, c3⟩ | c
    · rcases c3 with c3 | c3
      · subst c3
        have z0 : ((0 : Nat) : Int) * s.toInt = 0 := by rw [Int.natCast_zero, Int.zero_mul]
        rw [z0] at c1 c2
        rw [iT_0 hs h2 (by omega)]
        unfold iW
        rw [if_neg (c := t.toInt ≤ x.toInt) (by omega), if_neg (by omega), if_neg (by omega), Int.mul_zero]
      · have e : (k : Int) * s.toInt = ((k : Int) - 1) * s.toInt + s.toInt := by rw [Int.sub_mul, Int.one_mul]; omega
        exact (iT_one hs hlt (q := ((k : Int) - 1) * s.toInt) (by omega) (by omega) (mult_cmp3 hs _ _)).symm
    · rw [iT_2 hs (by omega), Int.mul_comm]
      unfold iW
      rw [if_neg (c := t.toInt ≤ x.toInt) (by omega), if_pos (by omega)]
  intro m
  induction m with
  | zero =>
    intro k x y g hm h1 h2 hy hk
    show sfx (tw_rise g s (nI n) (nI r) x rx (way * tw_abs (ry - y))) (r2 * n) (n - kk) kk = _
    refine hone 0 x rx y ry g h1 h2 (Int.le_refl _) hy hq.symm (Or.inr ?_)
    have := Int.mul_le_mul_of_nonneg_right (show (n : Int) + 1 ≤ k by omega) (Int.le_of_lt hs)
    rw [Int.add_mul, Int.one_mul] at this
    omega
  | succ m ih =>
    intro k x y g hm h1 h2 hy hk
    have ek := cut_i hn hs hs2 (k := k) (by omega)
    by_cases hrk : rx ≤ nI k * s
    · rw [show tw_cut s n r way lx ly rx ry (m + 1) k x y g = (x, y, g) from if_pos hrk]
      rw [Int32.le_iff_toInt_le, ek] at hrk
      exact hone k x rx y ry g h1 h2 (Int.le_refl _) hy hq.symm (Or.inl ⟨hrk, hk⟩)
    · rw [show tw_cut s n r way lx ly rx ry (m + 1) k x y g = tw_cut s n r way lx ly rx ry m (k + 1) (nI k * s) (tw_cross lx ly rx ry (nI k * s)) (tw_rise g s (nI n) (nI r) x (nI k * s) (way * tw_abs (tw_cross lx ly rx ry (nI k * s) - y))) from if_neg hrk]
      rw [Int32.le_iff_toInt_le, ek] at hrk
      have ht := tw_cross_i hlx hly hrx hry hlr (k := nI k * s) (by omega) (by omega)
      generalize tw_cross lx ly rx ry (nI k * s) = u at ht ⊢
      generalize nI k * s = c at ek ht ⊢
      have e1 : ((k + 1 : Nat) : Int) * s.toInt = k * s.toInt + s.toInt := by rw [Int.natCast_add, Int.add_mul, Int.natCast_one, Int.one_mul]
      rw [ih (k + 1) c u _ (by omega) (by omega) (by omega) ht ⟨by omega, Or.inr (by omega)⟩, hone k x c y u g h1 (by omega) (by omega) hy ht (Or.inl ⟨by omega, hk⟩), add_if, ← Int.mul_add, ← iT_add hs (by omega) (by omega) (by rw [ek]; exact mult_cmp hs _ _)]
theorem tw_k0_i {n : Nat} {s : Int32} (hn : n ≤ 64) (hs : 0 < s.toInt) (hs2 : s.toInt ≤ 256) {x : Int32} (hx : iB 1000000 x) : x.toInt < tw_k0 s x * s.toInt ∧ (tw_k0 s x = 0 ∨ tw_k0 s x * s.toInt ≤ x.toInt + s.toInt) := by
  have ec : (fdI x s).toInt = x.toInt / s.toInt := fdI_i hs
  have hb2 := div_abs (a := x.toInt) (n := 1000000) hs hx.1 hx.2 (by omega)
  have hd := div_lo x.toInt hs
  rw [← ec] at hb2 hd
  unfold tw_k0
  generalize fdI x s = c at hb2 hd
  have e1 : (c + kI 1).toInt = c.toInt + 1 := by rw [i3_add (by rw [k1_i]; omega) (by rw [k1_i]; omega), k1_i]
  have e0 : (kI 0).toInt = 0 := rfl
  by_cases h : kI 0 < c + kI 1
  · rw [if_pos h]
    rw [Int32.lt_iff_toInt_lt, e1, e0] at h
    rw [show (c + kI 1).toNatClampNeg = c.toInt.toNat + 1 from clampI (by rw [e1]; omega)]
    have e2 : ((c.toInt.toNat + 1 : Nat) : Int) * s.toInt = c.toInt * s.toInt + s.toInt := by rw [Int.natCast_add, Int.add_mul, Int.natCast_one, Int.one_mul, Int.toNat_of_nonneg (by omega)]
    rw [e2]
    exact ⟨by omega, Or.inr (by omega)⟩
  · rw [if_neg h]
    rw [Int32.lt_iff_toInt_lt, e1, e0] at h
    have h3 := Int.mul_le_mul_of_nonneg_right (show c.toInt ≤ -1 by omega) (Int.le_of_lt hs)
    rw [show (kI 0).toNatClampNeg = 0 from rfl]
    rw [Int.natCast_zero, Int.zero_mul]
    exact ⟨by omega, Or.inl rfl⟩
theorem tw_part2_i {n : Nat} {s : Int32} (hn : n ≤ 64) (hs : 0 < s.toInt) (hs2 : s.toInt ≤ 256) {r : Nat} (hr : r < n) {way lx ly rx ry : Int32} {w : Int} (h1 : w = 1 ∨ w = -1) (hway : way = kI w) (hlx : iB 1000000 lx) (hly : iB 1000000 ly) (hrx : iB 1000000 rx) (hry : iB 1000000 ry) (hlr : lx.toInt ≤ rx.toInt) {r2 kk : Nat} (hkk : kk < n) (g : Nat → Int32) : (ly.toInt ≤ ry.toInt → sfx (tw_part2 s n r way lx ly rx ry (tw_k0 s lx) g) (r2 * n) (n - kk) kk = sfx g (r2 * n) (n - kk) kk + kI (if r2 = r then w * iF s.toInt lx.toInt ly.toInt rx.toInt ry.toInt (kk * s.toInt) else 0)) ∧ (ry.toInt ≤ ly.toInt → sfx (tw_part2 s n r way lx ly rx ry (tw_k0 s lx) g) (r2 * n) (n - kk) kk = sfx g (r2 * n) (n - kk) kk + kI (if r2 = r then -w * iF s.toInt lx.toInt ly.toInt rx.toInt ry.toInt (kk * s.toInt) else 0)) := by
  have hk0 := tw_k0_i hn hs hs2 hlx
  have hdB : ∀ d : Int32, (∃ t t2 : Int32, d.toInt = t2.toInt - t.toInt ∧ iB 1000000 t ∧ iB 1000000 t2) → iB 2000000 d := by
    rintro d ⟨t, t2, e, ⟨a1, a2⟩, ⟨b1, b2⟩⟩
    exact ⟨by omega, by omega⟩
  by_cases he : lx.toInt = rx.toInt
  · -- upright
    have hee : lx = rx := i3_ext he
    subst hee
    have hcut : tw_cut s n r way lx ly lx ry (n + 1 - tw_k0 s lx) (tw_k0 s lx) lx ly g = (lx, ly, g) := by
      cases hm : n + 1 - tw_k0 s lx with
      | zero => rfl
      | succ m =>
        refine if_pos ?_
        rw [Int32.le_iff_toInt_le, cut_i hn hs hs2 (by omega)]
        omega
    have hF : iF s.toInt lx.toInt ly.toInt lx.toInt ry.toInt (kk * s.toInt) = (ry.toInt - ly.toInt) * iW s.toInt lx.toInt lx.toInt (kk * s.toInt) := if_pos rfl
    have hd : (ry - ly).toInt = ry.toInt - ly.toInt := i3_sub (by have := hly.1; have := hly.2; have := hry.1; have := hry.2; omega) (by have := hly.1; have := hly.2; have := hry.1; have := hry.2; omega)
    have hwa := way_abs hway (hdB (ry - ly) ⟨ly, ry, hd, hly, hry⟩) h1
    unfold tw_part2
    rw [hcut, hF, tw_rise_i hn hs hs2 hr hlx hlx (Int.le_refl _) _ g hkk]
    constructor
    · intro h
      rw [hwa.1 (by omega), hd, Int.mul_assoc]
    · intro h
      rw [hwa.2 (by omega), hd, Int.mul_assoc]
  · have hlt : lx.toInt < rx.toInt := by omega
    have hF : iF s.toInt lx.toInt ly.toInt rx.toInt ry.toInt (kk * s.toInt) = iT s.toInt (iA ly.toInt ry.toInt lx.toInt rx.toInt) (kk * s.toInt) lx.toInt rx.toInt := by
      unfold iF
      rw [if_neg he, if_pos hlt]
    have hp : ly.toInt = iA ly.toInt ry.toInt lx.toInt rx.toInt lx.toInt := (iA_p (by omega)).symm
    have hbd : ∀ t t2 : Int, lx.toInt ≤ t → t ≤ t2 → t2 ≤ rx.toInt → ∀ d : Int32, d.toInt = iA ly.toInt ry.toInt lx.toInt rx.toInt t2 - iA ly.toInt ry.toInt lx.toInt rx.toInt t → iB 2000000 d := by
      intro t t2 a1 a2 a3 d e
      have e1 := iA_btw (a := ly.toInt) (b := ry.toInt) (p := lx.toInt) (q := rx.toInt) (m := t) (by omega)
      have e2 := iA_btw (a := ly.toInt) (b := ry.toInt) (p := lx.toInt) (q := rx.toInt) (m := t2) (by omega)
      have := hly.1; have := hly.2; have := hry.1; have := hry.2
      rcases Int.le_total ly.toInt ry.toInt with c | c
      · have := e1.1 c; have := e2.1 c; exact ⟨by omega, by omega⟩
      · have := e1.2 c; have := e2.2 c; exact ⟨by omega, by omega⟩
    rw [hF]
    unfold tw_part2
    constructor
    · intro h
      exact tw_cut_i hn hs hs2 hr (w := w) hlx hly hrx hry hlt (fun t t2 a1 a2 a3 d e => (way_abs hway (hbd t t2 a1 a2 a3 d e) h1).1 (by have := (iA_mono (a := ly.toInt) (b := ry.toInt) hlt a2).1 h; omega)) hkk _ _ lx ly g rfl (Int.le_refl _) hlr hp hk0
    · intro h
      exact tw_cut_i hn hs hs2 hr (w := -w) hlx hly hrx hry hlt (fun t t2 a1 a2 a3 d e => (way_abs hway (hbd t t2 a1 a2 a3 d e) h1).2 (by have := (iA_mono (a := ly.toInt) (b := ry.toInt) hlt a2).2 h; omega)) hkk _ _ lx ly g rfl (Int.le_refl _) hlr hp hk0
theorem tw_part_i {n : Nat} {s : Int32} (hn : n ≤ 64) (hs : 0 < s.toInt) (hs2 : s.toInt ≤ 256) {way x y z u : Int32} {w : Int} (h1 : w = 1 ∨ w = -1) (hway : way = kI w) (hx : iB 1000000 x) (hy : iB 1000000 y) (hz : iB 1000000 z) (hu : iB 1000000 u) (hyu : y.toInt ≤ u.toInt) {r2 kk : Nat} (hr2 : r2 < n) (hkk : kk < n) (g : Nat → Int32) : sfx (tw_part g s n x y z u way) (r2 * n) (n - kk) kk = sfx g (r2 * n) (n - kk) kk + kI (if (r2 : Int) = y.toInt / s.toInt then w * iF s.toInt x.toInt y.toInt z.toInt u.toInt (kk * s.toInt) else 0) := by
  have ec : (fdI y s).toInt = y.toInt / s.toInt := fdI_i hs
  have k0 : kI 0 = 0 := rfl
  have e0 : (kI 0).toInt = 0 := rfl
  have ha : (nI n - kI 1).toInt = n - 1 := by rw [nI_sub1 (by omega), nI_toInt (by omega)]; omega
  unfold tw_part
  rw [← ec]
  generalize fdI y s = c
  by_cases h : tw_in c (kI 0) (nI n - kI 1) = true
  · rw [if_pos h]
    unfold tw_in at h
    rw [Bool.and_eq_true, decide_eq_true_eq, decide_eq_true_eq, Int32.le_iff_toInt_le, Int32.le_iff_toInt_le, e0, ha] at h
    obtain ⟨r, hr⟩ : ∃ r : Nat, c.toInt = r := ⟨c.toInt.toNat, by omega⟩
    rw [clampI hr, hr]
    have hif : ∀ a : Int, (if (r2 : Int) = (r : Int) then a else 0) = if r2 = r then a else 0 := fun a => by
      by_cases h : r2 = r
      · rw [if_pos h, if_pos (by omega)]
      · rw [if_neg h, if_neg (by omega)]
    rw [hif]
    by_cases hzx : z < x
    · rw [if_pos hzx]
      rw [Int32.lt_iff_toInt_lt] at hzx
      rw [(tw_part2_i hn hs hs2 (by omega) h1 hway hz hu hx hy (by omega) hkk g).2 hyu, iF_neg s.toInt x.toInt, Int.neg_mul_neg]
    · rw [if_neg hzx]
      rw [Int32.lt_iff_toInt_lt] at hzx
      rw [(tw_part2_i hn hs hs2 (by omega) h1 hway hx hy hz hu (by omega) hkk g).1 hyu]
  · rw [if_neg h]
    unfold tw_in at h
    rw [Bool.and_eq_true, decide_eq_true_eq, decide_eq_true_eq, Int32.le_iff_toInt_le, Int32.le_iff_toInt_le, e0, ha] at h
    rw [if_neg (by omega), k0, Int32.add_zero]
theorem tw_ris_i {n : Nat} {s : Int32} (hn : n ≤ 64) (hs : 0 < s.toInt) (hs2 : s.toInt ≤ 256) {way lx ly hx hy : Int32} {w : Int} (h1 : w = 1 ∨ w = -1) (hway : way = kI w) (blx : iB 1000000 lx) (bly : iB 1000000 ly) (bhx : iB 1000000 hx) (bhy : iB 1000000 hy) (hlh : ly.toInt < hy.toInt) {r2 kk : Nat} (hr2 : r2 < n) (hkk : kk < n) : ∀ m k (x y : Int32) (g : Nat → Int32), m = n + 1 - k → ly.toInt ≤ y.toInt → y.toInt ≤ hy.toInt → x.toInt = iA lx.toInt hx.toInt ly.toInt hy.toInt y.toInt → (y.toInt < k * s.toInt ∧ (k = 0 ∨ k * s.toInt ≤ y.toInt + s.toInt)) → sfx (tw_part (tw_ris s n way lx ly hx hy m k x y g).2.2 s n (tw_ris s n way lx ly hx hy m k x y g).1 (tw_ris s n way lx ly hx hy m k x y g).2.1 hx hy way) (r2 * n) (n - kk) kk = sfx g (r2 * n) (n - kk) kk + kI (w * iU s.toInt (iQ s.toInt lx.toInt ly.toInt hx.toInt hy.toInt (kk * s.toInt)) (r2 * s.toInt) y.toInt hy.toInt) := by
  have k0 : kI 0 = 0 := rfl
  have h0 := iQ_0 s.toInt lx.toInt ly.toInt hx.toInt hy.toInt (kk * s.toInt)
  have hB : ∀ t : Int32, ly.toInt ≤ t.toInt → t.toInt ≤ hy.toInt → iB 1000000 t := fun t h1 h2 => ⟨by have := bly.1; omega, by have := bhy.2; omega⟩
  have hC : ∀ b t : Int32, ly.toInt ≤ t.toInt → t.toInt ≤ hy.toInt → b.toInt = iA lx.toInt hx.toInt ly.toInt hy.toInt t.toInt → iB 1000000 b := by
    intro b t h1 h2 e
    have h := iA_btw (a := lx.toInt) (b := hx.toInt) (p := ly.toInt) (q := hy.toInt) (m := t.toInt) (by omega)
    obtain ⟨a1, a2⟩ := blx
    obtain ⟨b1, b2⟩ := bhx
    unfold iB
    rw [e]
    rcases Int.le_total lx.toInt hx.toInt with c | c
    · have := h.1 c; omega
    · have := h.2 c; omega
  have hp0 : (0 : Int) ≤ r2 * s.toInt := Int.mul_nonneg (by omega) (by omega)
  have hrn : (r2 : Int) * s.toInt + s.toInt ≤ n * s.toInt := by
    have := Int.mul_le_mul_of_nonneg_right (show (r2 : Int) + 1 ≤ n by omega) (Int.le_of_lt hs)
    rw [Int.add_mul, Int.one_mul] at this
    exact this
  have hq : iA lx.toInt hx.toInt ly.toInt hy.toInt hy.toInt = hx.toInt := iA_q (by omega)
  have hone : ∀ (k : Nat) (x y u t : Int32) (g : Nat → Int32), ly.toInt ≤ y.toInt → y.toInt ≤ t.toInt → t.toInt ≤ hy.toInt → x.toInt = iA lx.toInt hx.toInt ly.toInt hy.toInt y.toInt → u.toInt = iA lx.toInt hx.toInt ly.toInt hy.toInt t.toInt → (t.toInt ≤ k * s.toInt ∧ y.toInt < k * s.toInt ∧ (k = 0 ∨ k * s.toInt ≤ y.toInt + s.toInt)) ∨ n * s.toInt ≤ y.toInt → sfx (tw_part g s n x y u t way) (r2 * n) (n - kk) kk = sfx g (r2 * n) (n - kk) kk + kI (w * iU s.toInt (iQ s.toInt lx.toInt ly.toInt hx.toInt hy.toInt (kk * s.toInt)) (r2 * s.toInt) y.toInt t.toInt) := by
    intro k x y u t g a1 a2 a3 hx_ hu hc
    rw [tw_part_i hn hs hs2 h1 hway (hC x y a1 (by omega) hx_) (hB y a1 (by omega)) (hC u t (by omega) a3 hu) (hB t (by omega) a3) a2 hr2 hkk g, hx_, hu]
    have hd := div_lo y.toInt hs
    rw [show iF s.toInt (iA lx.toInt hx.toInt ly.toInt hy.toInt y.toInt) y.toInt (iA lx.toInt hx.toInt ly.toInt hy.toInt t.toInt) t.toInt (kk * s.toInt) = iQ s.toInt lx.toInt ly.toInt hx.toInt hy.toInt (kk * s.toInt) y.toInt t.toInt from rfl]
    congr 2
    rcases hc with ⟨c1, c2, c3⟩ | c
    · rcases c3 with c3 | c3
      · subst c3
        have z0 : ((0 : Nat) : Int) * s.toInt = 0 := by rw [Int.natCast_zero, Int.zero_mul]
        rw [z0] at c1 c2
        rw [iU_0 hs h0 a2 (by omega), Int.mul_zero, if_neg]
        intro z
        rw [← z] at hd
        omega
      · have e : (k : Int) * s.toInt = ((k : Int) - 1) * s.toInt + s.toInt := by rw [Int.sub_mul, Int.one_mul]; omega
        rw [iU_one hs h0 (q := ((k : Int) - 1) * s.toInt) a2 (by omega) (by omega) (mult_cmp3 hs _ _), if_mul hs, div_is hs (j := (k : Int) - 1) (by omega) (by omega)]
        split
        · rfl
        · rw [Int.mul_zero]
    · rw [iU_2 hs h0 (by omega), Int.mul_zero, if_neg]
      intro z
      rw [← z] at hd
      omega
  intro m
  induction m with
  | zero =>
    intro k x y g hm a1 a2 hx_ hk
    show sfx (tw_part g s n x y hx hy way) (r2 * n) (n - kk) kk = _
    refine hone 0 x y hx hy g a1 a2 (Int.le_refl _) hx_ hq.symm (Or.inr ?_)
    have := Int.mul_le_mul_of_nonneg_right (show (n : Int) + 1 ≤ k by omega) (Int.le_of_lt hs)
    rw [Int.add_mul, Int.one_mul] at this
    omega
  | succ m ih =>
    intro k x y g hm a1 a2 hx_ hk
    have ek := cut_i hn hs hs2 (k := k) (by omega)
    by_cases hrk : hy ≤ nI k * s
    · rw [show tw_ris s n way lx ly hx hy (m + 1) k x y g = (x, y, g) from if_pos hrk]
      rw [Int32.le_iff_toInt_le, ek] at hrk
      exact hone k x y hx hy g a1 a2 (Int.le_refl _) hx_ hq.symm (Or.inl ⟨hrk, hk⟩)
    · rw [show tw_ris s n way lx ly hx hy (m + 1) k x y g = tw_ris s n way lx ly hx hy m (k + 1) (tw_cross ly lx hy hx (nI k * s)) (nI k * s) (tw_part g s n x y (tw_cross ly lx hy hx (nI k * s)) (nI k * s) way) from if_neg hrk]
      rw [Int32.le_iff_toInt_le, ek] at hrk
      have ht := tw_cross_i bly blx bhy bhx hlh (k := nI k * s) (by omega) (by omega)
      generalize tw_cross ly lx hy hx (nI k * s) = u at ht ⊢
      generalize nI k * s = c at ek ht ⊢
      have e1 : ((k + 1 : Nat) : Int) * s.toInt = k * s.toInt + s.toInt := by rw [Int.natCast_add, Int.add_mul, Int.natCast_one, Int.one_mul]
      rw [ih (k + 1) u c _ (by omega) (by omega) (by omega) ht ⟨by omega, Or.inr (by omega)⟩, hone k x y u c g a1 (by omega) (by omega) hx_ ht (Or.inl ⟨by omega, hk⟩), Int32.add_assoc, ← kI_add, ← Int.mul_add, ← iU_add hs h0 (by omega) (by omega) (by rw [ek]; exact mult_cmp hs _ _)]
theorem tw_rising_i {n : Nat} {s : Int32} (hn : n ≤ 64) (hs : 0 < s.toInt) (hs2 : s.toInt ≤ 256) {way lx ly hx hy : Int32} {w : Int} (h1 : w = 1 ∨ w = -1) (hway : way = kI w) (blx : iB 1000000 lx) (bly : iB 1000000 ly) (bhx : iB 1000000 hx) (bhy : iB 1000000 hy) (hlh : ly.toInt < hy.toInt) {r2 kk : Nat} (hr2 : r2 < n) (hkk : kk < n) (g : Nat → Int32) : sfx (tw_rising g s n lx ly hx hy way) (r2 * n) (n - kk) kk = sfx g (r2 * n) (n - kk) kk + kI (w * iL s.toInt lx.toInt ly.toInt hx.toInt hy.toInt r2 kk) := by
  have e : iL s.toInt lx.toInt ly.toInt hx.toInt hy.toInt r2 kk = iU s.toInt (iQ s.toInt lx.toInt ly.toInt hx.toInt hy.toInt (kk * s.toInt)) (r2 * s.toInt) ly.toInt hy.toInt := by
    unfold iL
    rw [if_neg (by omega), if_pos hlh]
  rw [e]
  exact tw_ris_i hn hs hs2 h1 hway blx bly bhx bhy hlh hr2 hkk _ _ lx ly g rfl (Int.le_refl _) (by omega) (iA_p (by omega)).symm (tw_k0_i hn hs hs2 bly)
theorem tw_edge_i {n : Nat} {s : Int32} (hn : n ≤ 64) (hs : 0 < s.toInt) (hs2 : s.toInt ≤ 256) {x y z u : Int32} (hx : iB 1000000 x) (hy : iB 1000000 y) (hz : iB 1000000 z) (hu : iB 1000000 u) {r2 kk : Nat} (hr2 : r2 < n) (hkk : kk < n) (g : Nat → Int32) : sfx (tw_edge g s n x y z u) (r2 * n) (n - kk) kk = sfx g (r2 * n) (n - kk) kk + kI (iL s.toInt x.toInt y.toInt z.toInt u.toInt r2 kk) := by
  unfold tw_edge
  by_cases h : y < u
  · rw [if_pos h]
    rw [Int32.lt_iff_toInt_lt] at h
    rw [tw_rising_i hn hs hs2 (Or.inl rfl) rfl hx hy hz hu h hr2 hkk g, Int.one_mul]
  · rw [if_neg h]
    by_cases h2 : u < y
    · rw [if_pos h2]
      rw [Int32.lt_iff_toInt_lt] at h2
      rw [tw_rising_i hn hs hs2 (Or.inr rfl) rfl hz hu hx hy h2 hr2 hkk g, iL_neg s.toInt x.toInt, Int.neg_mul_neg, Int.one_mul]
    · rw [if_neg h2]
      rw [Int32.lt_iff_toInt_lt] at h h2
      have e : iL s.toInt x.toInt y.toInt z.toInt u.toInt r2 kk = 0 := if_pos (by omega)
      rw [e]
      exact (Int32.add_zero _).symm
