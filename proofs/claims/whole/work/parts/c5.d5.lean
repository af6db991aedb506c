/-! draw: the class's rise, part, rising, edge, as Int -/
def sfx (g : Nat → Int32) (b : Nat) : Nat → Nat → Int32
  | 0, _ => 0
  | w + 1, k => sfx g b w (k + 1) + g (b + k)
theorem sfx_out {g : Nat → Int32} {b t : Nat} {v : Int32} : ∀ w k, (∀ i, k ≤ i → i < k + w → b + i ≠ t) → sfx (upd g t v) b w k = sfx g b w k := by
  intro w
  induction w with
  | zero => intro k _; rfl
  | succ w ih =>
    intro k h
    show sfx (upd g t v) b w (k + 1) + upd g t v (b + k) = sfx g b w (k + 1) + g (b + k)
    rw [ih (k + 1) (fun i h1 h2 => h i (by omega) (by omega))]
    unfold upd
    rw [if_neg (h k (by omega) (by omega))]
theorem sfx_in {g : Nat → Int32} {b i : Nat} {v : Int32} : ∀ w k, k ≤ i → i < k + w → sfx (upd g (b + i) (g (b + i) + v)) b w k = sfx g b w k + v := by
  intro w
  induction w with
  | zero => intro k h1 h2; omega
  | succ w ih =>
    intro k h1 h2
    show sfx (upd g (b + i) _) b w (k + 1) + upd g (b + i) _ (b + k) = sfx g b w (k + 1) + g (b + k) + v
    by_cases h : k = i
    · subst h
      rw [sfx_out w (k + 1) (fun i h1 h2 => by omega)]
      unfold upd
      rw [if_pos rfl, Int32.add_assoc]
    · rw [ih (k + 1) (by omega) (by omega)]
      unfold upd
      rw [if_neg (by omega), Int32.add_assoc, Int32.add_comm v, ← Int32.add_assoc]
theorem sfx_row {g : Nat → Int32} {n r i r2 k : Nat} {v : Int32} (hi : i < n) (hk : k < n) : sfx (upd g (r * n + i) (g (r * n + i) + v)) (r2 * n) (n - k) k = sfx g (r2 * n) (n - k) k + (if r2 = r ∧ k ≤ i then v else 0) := by
  by_cases h : r2 = r
  · subst h
    by_cases h2 : k ≤ i
    · rw [if_pos ⟨rfl, h2⟩, sfx_in (n - k) k h2 (by omega)]
    · rw [if_neg (fun z => h2 z.2), sfx_out (n - k) k (fun z h3 h4 => by omega), Int32.add_zero]
  · rw [if_neg (fun z => h z.1), sfx_out (n - k) k (fun z h3 h4 e => ?_), Int32.add_zero]
    rw [Nat.mul_comm r2, Nat.mul_comm r] at e
    exact h ((al_inj (show z < n by omega) hi).mp e).1
theorem clampI {x : Int32} {k : Nat} (h : x.toInt = k) : x.toNatClampNeg = k := by
  show x.toInt.toNat = k
  rw [h]; rfl
theorem nI_tie {x : Int32} {k : Nat} (hk : k < 2 ^ 31) (h : x.toInt = k) : x = nI k := i3_ext (by rw [h, nI_toInt hk])
theorem i3_0 : (0 : Int32).toInt = 0 := rfl
theorem tw_rise_i {n : Nat} {s : Int32} (hn : n ≤ 64) (hs : 0 < s.toInt) (hs2 : s.toInt ≤ 256) {r : Nat} (hr : r < n) {x y : Int32} (hx : iB 1000000 x) (hy : iB 1000000 y) (hxy : x.toInt ≤ y.toInt) (rr : Int32) (g : Nat → Int32) {r2 k : Nat} (hk : k < n) : sfx (tw_rise g s (nI n) (nI r) x y rr) (r2 * n) (n - k) k = sfx g (r2 * n) (n - k) k + kI (if r2 = r then rr.toInt * iW s.toInt x.toInt y.toInt (k * s.toInt) else 0) := by
  have ec : (fdI x s).toInt = x.toInt / s.toInt := fdI_i hs
  have hb2 := div_abs (a := x.toInt) (n := 1000000) hs hx.1 hx.2 (by omega)
  have ha := nI_toInt (n := n) (by omega)
  have hi : iW s.toInt x.toInt y.toInt (k * s.toInt) = (if (k : Int) < (fdI x s).toInt then 2 * s.toInt else if (k : Int) = (fdI x s).toInt then x.toInt + y.toInt - 2 * (k * s.toInt) else 0) := by
    rw [iW_comm, iW_col hs, if_pos hxy, ec, Int.add_comm y.toInt]
  rw [← ec] at hb2
  have k0 : kI 0 = 0 := rfl
  have hE : ∀ c : Int32, (k : Int) = c.toInt → (x + y - kI 2 * c * s) * rr = kI (rr.toInt * (x.toInt + y.toInt - 2 * (k * s.toInt))) := by
    intro c z
    rw [z]
    simp only [kI_mul, kI_sub, kI_add, kI_of]
    rw [Int32.mul_assoc (kI 2), Int32.mul_comm rr]
  have hV : kI 2 * s * rr = kI (rr.toInt * (2 * s.toInt)) := by
    simp only [kI_mul, kI_of]
    rw [Int32.mul_comm rr]
  unfold tw_rise
  generalize fdI x s = c at hi hb2 ⊢
  by_cases h1 : c < nI n
  rotate_left
  · rw [if_neg h1]
    rw [Int32.lt_iff_toInt_lt, ha] at h1
    have hix : (nI r * nI n + nI n - kI 1).toNatClampNeg = r * n + (n - 1) := by
      have hrn := Nat.mul_le_mul (show r ≤ 64 by omega) (show n ≤ 64 by omega)
      rw [nI_mul, nI_add, nI_sub1 (by omega), nI_clamp (by omega)]
      omega
    rw [hix, sfx_row (by omega) hk, hi, if_pos (c := (k : Int) < c.toInt) (by omega), hV]
    by_cases h2 : r2 = r
    · rw [if_pos ⟨h2, by omega⟩, if_pos h2]
    · rw [if_neg (fun z => h2 z.1), if_neg h2, k0]
  rw [if_pos h1]
  rw [Int32.lt_iff_toInt_lt, ha] at h1
  by_cases h2 : c < 0
  · rw [if_pos h2]
    rw [Int32.lt_iff_toInt_lt, i3_0] at h2
    have hz : iW s.toInt x.toInt y.toInt (k * s.toInt) = 0 := by rw [hi, if_neg (by omega), if_neg (by omega)]
    rw [hz, Int.mul_zero, ite_self, k0, Int32.add_zero]
  rw [if_neg h2]
  rw [Int32.lt_iff_toInt_lt, i3_0] at h2
  obtain ⟨i, hi0⟩ : ∃ i : Nat, c.toInt = i := ⟨c.toInt.toNat, by omega⟩
  have hci : c = nI i := nI_tie (by omega) hi0
  have hrn := Nat.mul_le_mul (show r ≤ 64 by omega) (show n ≤ 64 by omega)
  have hix : (nI r * nI n + c).toNatClampNeg = r * n + i := by
    rw [hci, nI_mul, nI_add, nI_clamp (by omega)]
  by_cases h3 : c ≤ 0
  · rw [if_pos h3, hix, sfx_row (by omega) hk, hi]
    rw [Int32.le_iff_toInt_le, i3_0] at h3
    rw [if_neg (c := (k : Int) < c.toInt) (by omega)]
    by_cases h4 : r2 = r
    · rw [if_pos h4]
      by_cases h5 : (k : Int) = c.toInt
      · rw [if_pos ⟨h4, by omega⟩, if_pos h5, hE c h5]
      · rw [if_neg (by omega), if_neg h5, Int.mul_zero, k0]
    · rw [if_neg h4, if_neg (fun z => h4 z.1), k0]
  rw [if_neg h3]
  rw [Int32.le_iff_toInt_le, i3_0] at h3
  have hix2 : (nI r * nI n + c - kI 1).toNatClampNeg = r * n + (i - 1) := by
    rw [hci, nI_mul, nI_add, nI_sub1 (by omega), nI_clamp (by omega)]
    omega
  rw [hix, hix2, sfx_row (by omega) hk, sfx_row (by omega) hk, hi]
  by_cases h4 : r2 = r
  · rw [if_pos h4]
    by_cases h5 : (k : Int) = c.toInt
    · rw [if_neg (c := (k : Int) < c.toInt) (by omega), if_pos h5, if_pos ⟨h4, by omega⟩, if_neg (c := r2 = r ∧ k ≤ i - 1) (by omega), Int32.add_zero, hE c h5]
    · by_cases h6 : (k : Int) < c.toInt
      · rw [if_pos h6, if_pos ⟨h4, by omega⟩, if_pos ⟨h4, by omega⟩, hV, Int32.add_assoc, Int32.add_comm (_ * rr), Int32.sub_add_cancel]
      · rw [if_neg h6, if_neg h5, if_neg (by omega), if_neg (by omega), Int.mul_zero, k0, Int32.add_zero, Int32.add_zero]
  · rw [if_neg h4, if_neg (fun z => h4 z.1), if_neg (fun z => h4 z.1), k0, Int32.add_zero, Int32.add_zero]
theorem tw_cross_att {x y z u k : Int32} (hx : iB 1000000 x) (hz : iB 1000000 z) (h : x.toInt < z.toInt) : tw_cross x y z u k = tm_att y u x z k := by
  have e : (z - x).toInt = z.toInt - x.toInt := i3_sub (by have := hx.1; have := hx.2; have := hz.1; have := hz.2; omega) (by have := hx.1; have := hx.2; have := hz.1; have := hz.2; omega)
  unfold tw_cross tm_att
  rw [if_neg (fun c => by rw [Int32.le_iff_toInt_le] at c; omega), hvU_nr (by rw [i6_of, e]; omega) (by rw [i6_of, e]; have := hx.1; have := hz.2; omega), Int64.mul_comm]
theorem tw_cross_i {x y z u k : Int32} (hx : iB 1000000 x) (hy : iB 1000000 y) (hz : iB 1000000 z) (hu : iB 1000000 u) (h : x.toInt < z.toInt) (h1 : x.toInt ≤ k.toInt) (h2 : k.toInt ≤ z.toInt) : (tw_cross x y z u k).toInt = iA y.toInt u.toInt x.toInt z.toInt k.toInt := by
  rw [tw_cross_att hx hz h, tm_att_i hy hu hx hz (by omega)]
theorem iA_mono {a b p q m m2 : Int} (h : p < q) (hm : m ≤ m2) : (a ≤ b → iA a b p q m ≤ iA a b p q m2) ∧ (b ≤ a → iA a b p q m2 ≤ iA a b p q m) := by
  rw [iA_up h, iA_up h]
  constructor
  · intro c
    have := Int.mul_le_mul_of_nonneg_left (show m - p ≤ m2 - p by omega) (show 0 ≤ b - a by omega)
    have := iR_mono (b := q - p) (by omega) this
    omega
  · intro c
    have := Int.mul_le_mul_of_nonpos_left (show b - a ≤ 0 by omega) (show m - p ≤ m2 - p by omega)
    have := iR_mono (b := q - p) (by omega) this
    omega
theorem way_abs {way d : Int32} {w : Int} (hw : way = kI w) (hd : iB 2000000 d) (h1 : w = 1 ∨ w = -1) : (0 ≤ d.toInt → (way * tw_abs d).toInt = w * d.toInt) ∧ (d.toInt ≤ 0 → (way * tw_abs d).toInt = -w * d.toInt) := by
  obtain ⟨d1, d2⟩ := hd
  have hwi : way.toInt = w := by
    rw [hw]
    rcases h1 with rfl | rfl <;> decide
  have ha : (0 ≤ d.toInt → (tw_abs d).toInt = d.toInt) ∧ (d.toInt ≤ 0 → (tw_abs d).toInt = -d.toInt) := by
    unfold tw_abs
    constructor
    · intro h
      rw [if_pos (by rw [Int32.le_iff_toInt_le, i3_0]; exact h)]
    · intro h
      by_cases h0 : d.toInt = 0
      · rw [if_pos (by rw [Int32.le_iff_toInt_le, i3_0]; omega)]; omega
      · rw [if_neg (by rw [Int32.le_iff_toInt_le, i3_0]; omega), i3_sub (by rw [i3_0]; omega) (by rw [i3_0]; omega), i3_0]; omega
  constructor
  · intro h
    have e := ha.1 h
    rw [i3_mul (by rw [hwi, e]; rcases h1 with rfl | rfl <;> omega) (by rw [hwi, e]; rcases h1 with rfl | rfl <;> omega), hwi, e]
  · intro h
    have e := ha.2 h
    rw [i3_mul (by rw [hwi, e]; rcases h1 with rfl | rfl <;> omega) (by rw [hwi, e]; rcases h1 with rfl | rfl <;> omega), hwi, e]
    rcases h1 with rfl | rfl <;> omega
