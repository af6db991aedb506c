/-! both states: shape -/
/-- rule j: what both sides know of it -/
theorem rule_w {S : tc_S} {J : Nat → Int32} {A : Nat → Nat → Int32} {R : Nat → Int64} (h : RR S J A R) {j : Nat} (hj : j < S.rn) : (∀ k, k < 4 → byt (R j) k = byt (S.R j).2.2.1 k) ∧ (∀ k, k < 2 → byt (A 44 j).toInt64 k = byt (S.R j).2.1 k) ∧ ∀ k, k < 2 → byt (A 46 j).toInt64 k = byt (S.R j).2.2.2.1 k := by
  obtain ⟨a1, a2, a3, a4, a5, a6⟩ := h.2.2.2.2.2.2.1.2.2 j hj
  rw [a3, a4, a5]
  exact ⟨byt_in _, byt_be _, byt_be _⟩
theorem std_eq {g g2 : Nat → Int32} {t x : Int64} {w p : Nat} (hw : w ≤ 4) (hb : ∀ j, j < w → byt t j = byt x j) (hg : ∀ k, k < tw_len x w 0 → g (p + k) = g2 (p + k)) : ∀ m k, k + m = tw_len x w 0 → tm_std g t w p m k true = tw_st g2 p x m k := by
  obtain ⟨_, _, c⟩ := word_eq hw hb
  intro m
  induction m with
  | zero => intro k _; rfl
  | succ m ih =>
    intro k hk
    obtain ⟨d1, _⟩ := c k (by omega)
    have e1 : tm_std g t w p (m + 1) k true = tm_std g t w p m (k + 1) (decide (g (p + k) = tm_gof t k w)) := rfl
    rw [e1, d1, hg k (by omega)]
    show _ = if g2 (p + k) = tw_ga x (nI k) then tw_st g2 p x m (k + 1) else false
    by_cases e : g2 (p + k) = tw_ga x (nI k)
    · rw [if_pos e, decide_eq_true e]; exact ih (k + 1) (by omega)
    · rw [if_neg e, decide_eq_false e]
      cases m with
      | zero => rfl
      | succ m => rfl
theorem stands_eq {g g2 : Nat → Int32} {t x : Int64} {w rs : Nat} (hw : w ≤ 4) (hb : ∀ j, j < w → byt t j = byt x j) (hrs : rs ≤ 60) (hg : ∀ k, k < rs → g k = g2 k) {p : Nat} (hp : p ≤ 200) : tm_stands g rs t w (nI p) = (decide (p + tw_len x w 0 ≤ rs) && tw_st g2 p x (tw_len x w 0) 0) := by
  obtain ⟨a, b, _⟩ := word_eq hw hb
  unfold tm_stands
  rw [a, nI_add]
  by_cases c : p + tw_len x w 0 ≤ rs
  · rw [if_pos ⟨nI_pos (by omega), by rw [nI_ltI (by omega) (by omega)]; omega⟩, nI_clamp (by omega), decide_eq_true c, Bool.true_and, std_eq hw hb (fun k hk => hg _ (by omega)) _ 0 (Nat.zero_add _)]
  · rw [if_neg (by rw [nI_ltI (by omega) (by omega)]; omega), decide_eq_false c, Bool.false_and]
theorem stands_neg {g : Nat → Int32} {rs : Nat} {t : Int64} {w : Nat} {x : Int32} (h : x < 0) : tm_stands g rs t w x = false := by
  unfold tm_stands
  rw [if_neg (fun z => z.1 h)]
/-- a rule fits at a place of the row: asked alike -/
theorem fits_eq {S : tc_S} {J : Nat → Int32} {A : Nat → Nat → Int32} {R : Nat → Int64} (h : RR S J A R) {j : Nat} (hj : j < S.rn) {g g2 : Nat → Int32} {rs p : Nat} (hrs : rs ≤ 60) (hp : p < rs) (hg : ∀ k, k < rs → g k = g2 k) : tm_fits (va_up A 51 g) R rs j (nI p) = tw_fitsR (S.R j) g2 rs p := by
  obtain ⟨w1, w2, w3⟩ := rule_w h hj
  obtain ⟨a1, a2, _⟩ := word_eq (show (4 : Nat) ≤ 4 by omega) w1
  obtain ⟨b1, b2, _⟩ := word_eq (show (2 : Nat) ≤ 4 by omega) w2
  obtain ⟨c1, c2, _⟩ := word_eq (show (2 : Nat) ≤ 4 by omega) w3
  unfold tm_fits tw_fitsR tw_fits
  rw [show va_up A 51 g 51 = g from va_up_self _ _ _, show va_up A 51 g 44 = A 44 from va_up_ne _ _ (by decide), show va_up A 51 g 46 = A 46 from va_up_ne _ _ (by decide), a1, b1, nI_add, stands_eq (by omega) w1 hrs hg (by omega), stands_eq (by omega) w3 hrs hg (by omega)]
  by_cases d : tw_len (S.R j).2.1 2 0 ≤ p
  · rw [nI_subI d, stands_eq (by omega) w2 hrs hg (by omega), decide_eq_true (show ¬ p < tw_len (S.R j).2.1 2 0 by omega), Bool.true_and, decide_eq_true (show p - tw_len (S.R j).2.1 2 0 + tw_len (S.R j).2.1 2 0 ≤ rs by omega), Bool.true_and]
    by_cases e : p + tw_len (S.R j).2.2.1 4 0 + tw_len (S.R j).2.2.2.1 2 0 ≤ rs
    · rw [decide_eq_true e, decide_eq_true (show p + tw_len (S.R j).2.2.1 4 0 ≤ rs by omega), decide_eq_true (show ¬ rs < p + tw_len (S.R j).2.2.1 4 0 + tw_len (S.R j).2.2.2.1 2 0 by omega), Bool.true_and, Bool.true_and, Bool.true_and]
      cases tw_st g2 p (S.R j).2.2.1 (tw_len (S.R j).2.2.1 4 0) 0 <;> cases tw_st g2 (p - tw_len (S.R j).2.1 2 0) (S.R j).2.1 (tw_len (S.R j).2.1 2 0) 0 <;> rfl
    · rw [decide_eq_false e, decide_eq_false (show ¬ ¬ rs < p + tw_len (S.R j).2.2.1 4 0 + tw_len (S.R j).2.2.2.1 2 0 by omega), Bool.false_and, Bool.false_and, Bool.and_false, Bool.and_false]
  · have hneg : nI p - nI (tw_len (S.R j).2.1 2 0) < 0 := by
      rw [lt3, i3_0, i3_sub (by rw [nI_toInt (by omega), nI_toInt (by omega)]; omega) (by rw [nI_toInt (by omega), nI_toInt (by omega)]; omega), nI_toInt (by omega), nI_toInt (by omega)]
      omega
    rw [stands_neg hneg, decide_eq_false (show ¬ ¬ p < tw_len (S.R j).2.1 2 0 by omega), Bool.false_and, Bool.false_and, Bool.and_false]
/-- the best rule yet, on both sides -/
def bR (RL : Nat → tw_RL) (b : Option Nat) (x n : Int32) : Prop := (b = none ∧ x = kI (-1) ∧ n = kI 0) ∨ ∃ j, b = some j ∧ j < 40 ∧ x = nI j ∧ n = nI (tw_len (RL j).2.2.1 4 0)
theorem best_eq {S : tc_S} {J : Nat → Int32} {A : Nat → Nat → Int32} {R : Nat → Int64} (h : RR S J A R) {g g2 : Nat → Int32} {rs p : Nat} (hrs : rs ≤ 60) (hp : p < rs) (hg : ∀ k, k < rs → g k = g2 k) (lo : Int32) : ∀ m k b x n, k + m = S.rn → bR S.R b x n → ∃ n2, bR S.R (tw_best S.R g2 rs p lo m k b) (tm_bst (va_up A 51 g) R rs lo (nI p) m k x n) n2 := by
  have hrn := h.2.2.2.2.2.2.1.1
  intro m
  induction m with
  | zero => intro k b x n _ hb; exact ⟨n, hb⟩
  | succ m ih =>
    intro k b x n hk hb
    obtain ⟨a1, a2, a3, a4, a5, a6, a7⟩ := h.2.2.2.2.2.2.1.2.2 k (by omega)
    obtain ⟨w1, w2, w3⟩ := rule_w h (show k < S.rn by omega)
    obtain ⟨c1, c2, _⟩ := word_eq (show (4 : Nat) ≤ 4 by omega) w1
    have hlen : ∀ j, tw_len (S.R j).2.2.1 4 0 ≤ 4 := fun j => by have := (tw_len_i (S.R j).2.2.1 4 0).2.1; omega
    have hlg : tw_lg S.R k b = true ↔ n < nI (tw_len (S.R k).2.2.1 4 0) := by
      rcases hb with ⟨e1, e2, e3⟩ | ⟨j, e1, e2, e3, e4⟩
      · rw [e1, e3]
        exact ⟨fun _ => by rw [show kI 0 = nI 0 from rfl, nI_ltI (by omega) (by have := hlen k; omega)]; omega, fun _ => rfl⟩
      · rw [e1, e4]
        show decide (nI (tw_len (S.R j).2.2.1 4 0) < nI (tw_len (S.R k).2.2.1 4 0)) = true ↔ _
        rw [decide_eq_true_eq]
    have htk : tw_take S.R g2 rs p lo k b = true ↔ (va_up A 51 g 42 k = lo ∧ n < nI (tm_len (R k) 4) ∧ tm_fits (va_up A 51 g) R rs k (nI p) = true) := by
      unfold tw_take
      rw [fits_eq h (by omega) hrs hp hg, c1, Bool.and_eq_true, Bool.and_eq_true, decide_eq_true_eq, hlg, show va_up A 51 g 42 = A 42 from va_up_ne _ _ (by decide), a1]
    by_cases c : tw_take S.R g2 rs p lo k b = true
    · rw [tw_best_t c, show tm_bst (va_up A 51 g) R rs lo (nI p) (m + 1) k x n = tm_bst (va_up A 51 g) R rs lo (nI p) m (k + 1) (nI k) (nI (tm_len (R k) 4)) from if_pos (htk.mp c), c1]
      exact ih (k + 1) _ _ _ (by omega) (Or.inr ⟨k, rfl, by omega, rfl, rfl⟩)
    · rw [tw_best_f (by cases hh : tw_take S.R g2 rs p lo k b with | false => rfl | true => exact absurd hh c), show tm_bst (va_up A 51 g) R rs lo (nI p) (m + 1) k x n = tm_bst (va_up A 51 g) R rs lo (nI p) m (k + 1) x n from if_neg (fun z => c (htk.mpr z))]
      exact ih (k + 1) _ _ _ (by omega) hb
theorem tm_mv_i (n : Nat) (hn : 1 ≤ n) : ∀ w k (g : Nat → Int32), n ≤ k → ∀ z, tm_mv n w k g z = if k - n + 1 ≤ z ∧ z < k - n + 1 + w then g (z + n - 1) else g z := by
  intro w
  induction w with
  | zero => intro k g _ z; rw [if_neg (by omega)]; rfl
  | succ w ih =>
    intro k g hk z
    show tm_mv n w (k + 1) (upd g (k - n + 1) (g k)) z = _
    rw [ih (k + 1) _ (by omega) z]
    unfold upd
    by_cases c : k + 1 - n + 1 ≤ z ∧ z < k + 1 - n + 1 + w
    · rw [if_pos c, if_neg (by omega), if_pos (by omega)]
    · rw [if_neg c]
      by_cases d : z = k - n + 1
      · rw [if_pos d, if_pos (by omega), show z + n - 1 = k by omega]
      · rw [if_neg d, if_neg (by omega)]
theorem tm_cp_i (t : Nat → Int32) : ∀ w k (g : Nat → Int32) z, tm_cp t w k g z = if k ≤ z ∧ z < k + w then t z else g z := by
  intro w
  induction w with
  | zero => intro k g z; rw [if_neg (by omega)]; rfl
  | succ w ih =>
    intro k g z
    show tm_cp t w (k + 1) (upd g k (t k)) z = _
    rw [ih]
    unfold upd
    by_cases c : z = k
    · subst c
      rw [if_neg (by omega), if_pos rfl, if_pos (by omega)]
    · rw [if_neg c]
      by_cases c2 : k ≤ z ∧ z < k + (w + 1)
      · rw [if_pos (by omega), if_pos c2]
      · rw [if_neg (by omega), if_neg c2]
/-- rows in work, on both sides: x the class's, y the reference's -/
def rW (n : Nat) (x y : tw_RW) : Prop := x.2.1 = y.2.1 ∧ x.2.2 = y.2.2 ∧ x.2.1 ≤ 60 ∧ ∀ i, i < x.2.1 → y.1 i = x.1 i ∧ ∃ g, g < n ∧ x.1 i = nI g
theorem put_eq {S : tc_S} {J : Nat → Int32} {A : Nat → Nat → Int32} {R : Nat → Int64} (h : RR S J A R) {j p : Nat} (hj : j < S.rn) {x y : tw_RW} (hx : rW S.n x y) (hp : p + tw_len (S.R j).2.2.1 4 0 ≤ x.2.1) : rW S.n (tw_put (S.R j) p x) (tm_put2 A R j p y) := by
  obtain ⟨a1, a2, a3, a4, a5, a6, o, ho, eo⟩ := h.2.2.2.2.2.2.1.2.2 j hj
  obtain ⟨w1, _, _⟩ := rule_w h hj
  obtain ⟨c1, c2, _⟩ := word_eq (show (4 : Nat) ≤ 4 by omega) w1
  obtain ⟨x1, x2, x3, x4⟩ := hx
  unfold tw_put tm_put2
  rw [c1, ← x1, ← x2, a2]
  generalize tw_len (S.R j).2.2.1 4 0 = n at a6 hp
  refine ⟨rfl, rfl, ?_, fun i hi => ?_⟩
  · show x.2.1 - (n - 1) ≤ 60
    omega
  · have hi2 : i < x.2.1 - (n - 1) := hi
    show tm_mv n (x.2.1 - (p + n)) (p + n) (upd y.1 p (S.R j).2.2.2.2) i = va_cpy (upd x.1 p (S.R j).2.2.2.2) (upd x.1 p (S.R j).2.2.2.2) (p + n) (p + 1) (x.2.1 - (p + n)) i ∧ ∃ g, g < S.n ∧ va_cpy (upd x.1 p (S.R j).2.2.2.2) (upd x.1 p (S.R j).2.2.2.2) (p + n) (p + 1) (x.2.1 - (p + n)) i = nI g
    rw [tm_mv_i n a6 _ _ _ (by omega)]
    unfold va_cpy upd
    by_cases c : p + 1 ≤ i ∧ i < p + 1 + (x.2.1 - (p + n))
    · rw [if_pos (by omega), if_pos c, if_neg (by omega), if_neg (by omega), show p + n + (i - (p + 1)) = i + n - 1 by omega]
      exact x4 _ (by omega)
    · rw [if_neg (by omega), if_neg c]
      by_cases d : i = p
      · rw [if_pos d, if_pos d]; exact ⟨rfl, o, ho, eo⟩
      · rw [if_neg d, if_neg d]; exact x4 i (by omega)
theorem step_eq {S : tc_S} {J : Nat → Int32} {A : Nat → Nat → Int32} {R : Nat → Int64} (h : RR S J A R) (lo : Int32) {p : Nat} {x y : tw_RW} (hx : rW S.n x y) (hp : p < x.2.1) : rW S.n (tw_step S.R S.rn lo p x) (tm_step A R S.rn lo p y) := by
  obtain ⟨x1, x2, x3, x4⟩ := id hx
  obtain ⟨n2, hb⟩ := best_eq h (g := y.1) (g2 := x.1) x3 hp (fun k hk => (x4 k hk).1) lo S.rn 0 none (kI (-1)) (kI 0) (by omega) (Or.inl ⟨rfl, rfl, rfl⟩)
  have hbs : tm_bs A R S.rn lo p y = tm_bst (va_up A 51 y.1) R x.2.1 lo (nI p) S.rn 0 (kI (-1)) (kI 0) := by unfold tm_bs; rw [x1]
  unfold tm_step
  rw [hbs]
  show rW S.n (match tw_best S.R x.1 x.2.1 p lo S.rn 0 none with
    | none => x
    | some j => tw_put (S.R j) p x) _
  rcases hb with ⟨e1, e2, e3⟩ | ⟨j, e1, e2, e3, e4⟩
  · rw [e1, e2, if_pos (by decide)]
    exact hx
  · rw [e1, e3, if_neg (nI_pos (by omega)), nI_clamp (by omega)]
    obtain ⟨f1, f2, f3⟩ : 0 ≤ j ∧ j < 0 + S.rn ∧ tw_fitsR (S.R j) x.1 x.2.1 p = true := by
      rcases tw_best_s S.R x.1 x.2.1 p lo S.rn 0 none j e1 with z | z
      · cases z
      · exact z
    have hfit : p + tw_len (S.R j).2.2.1 4 0 ≤ x.2.1 := by
      unfold tw_fitsR tw_fits at f3
      rw [Bool.and_eq_true, Bool.and_eq_true, decide_eq_true_eq, decide_eq_true_eq] at f3
      omega
    exact put_eq h (by omega) hx hfit
theorem run_eq {S : tc_S} {J : Nat → Int32} {A : Nat → Nat → Int32} {R : Nat → Int64} (h : RR S J A R) (lo : Int32) : ∀ m p x y, rW S.n x y → rW S.n (tw_run S.R S.rn lo m p x) (tm_run A R S.rn lo m p y) := by
  intro m
  induction m with
  | zero => intro p x y hx; exact hx
  | succ m ih =>
    intro p x y hx
    show rW S.n (if p < x.2.1 then tw_run S.R S.rn lo m (p + 1) (tw_step S.R S.rn lo p x) else x) (if p < y.2.1 then tm_run A R S.rn lo m (p + 1) (tm_step A R S.rn lo p y) else y)
    rw [← hx.1]
    by_cases c : p < x.2.1
    · rw [if_pos c, if_pos c]; exact ih (p + 1) _ _ (step_eq h lo hx c)
    · rw [if_neg c, if_neg c]; exact hx
theorem rows_eq {S : tc_S} {J : Nat → Int32} {A : Nat → Nat → Int32} {R : Nat → Int64} (h : RR S J A R) : ∀ m k x y, rW S.n x y → rW S.n (tw_rows S.R S.rn m k x) (tm_rows A R S.rn m k y) := by
  intro m
  induction m with
  | zero => intro k x y hx; exact hx
  | succ m ih => intro k x y hx; exact ih (k + 1) _ _ (run_eq h (nI k) 60 0 x y hx)
/-- shape -/
theorem q_shape {S : tc_S} {J : Nat → Int32} {A : Nat → Nat → Int32} {R : Nat → Int64} (h : RR S J A R) {rr : tw_RW} (hrr : rr = tm_rows A R S.rn 8 0 (tm_cp (A 49) S.ts 0 (A 51), S.ts, kI 0)) : (tc_shape S).1 = nI rr.2.1 ∧ RR (tc_shape S).2 (tm_JR (upd (upd J 0 (kI 0)) 50 (kI 0)) rr.2.1 rr.2.2) (va_up A 51 rr.1) R := by
  obtain ⟨t1, t2, t3⟩ := h.2.2.2.2.2.2.2.1
  have h0 : rW S.n (va_cpy S.tx S.row 0 0 S.ts, S.ts, kI 0) (tm_cp (A 49) S.ts 0 (A 51), S.ts, kI 0) := by
    refine ⟨rfl, rfl, t1, fun i hi => ?_⟩
    have hi2 : i < S.ts := hi
    show tm_cp (A 49) S.ts 0 (A 51) i = va_cpy S.tx S.row 0 0 S.ts i ∧ ∃ g, g < S.n ∧ va_cpy S.tx S.row 0 0 S.ts i = nI g
    rw [tm_cp_i, if_pos (by omega)]
    unfold va_cpy
    rw [if_pos (by omega), show 0 + (i - 0) = i by omega]
    exact t3 i hi2
  have hR := rows_eq h 8 0 _ _ h0
  rw [← hrr] at hR
  have hrows : tc_rows S = tw_rows S.R S.rn 8 0 (va_cpy S.tx S.row 0 0 S.ts, S.ts, kI 0) := rfl
  rw [← hrows] at hR
  unfold tc_shape
  generalize tc_rows S = x at hR
  obtain ⟨x1, x2, x3, x4⟩ := hR
  obtain ⟨h1, h2, h3, h4, h5, h6, h7, h8, h9, h10, h11⟩ := h
  refine ⟨by rw [x1], h1, h2, h3, h4, h5, h6, h7, ⟨Nat.zero_le _, rfl, fun i hi => absurd hi (Nat.not_lt_zero _)⟩, ⟨x3, ?_, x4⟩, ?_, h11⟩
  · show nI rr.2.1 = nI x.2.1
    rw [x1]
  · show rr.2.2 = x.2.2
    rw [x2]
/-- shaped -/
theorem row_ok {S : tc_S} {J : Nat → Int32} {A : Nat → Nat → Int32} {R : Nat → Int64} (h : RR S J A R) : tc_rowOk S := by
  obtain ⟨h1, h2, h3, h4, h5, h6, h7, h8, h9, h10⟩ := h
  refine ⟨h2.1, h9.1, h6.1, h1.1, fun k hk => ?_, fun g hg => ⟨?_, ?_⟩⟩
  · obtain ⟨_, g, a, b⟩ := h9.2.2 k hk
    exact ⟨g, a, b⟩
  · obtain ⟨⟨c, a, b, _⟩, _⟩ := h5.1 g hg
    exact ⟨c, a, b⟩
  · obtain ⟨_, ⟨c, a, b, _⟩⟩ := h5.1 g hg
    exact ⟨c, a, b⟩
theorem q_shaped_gr {S : tc_S} {J : Nat → Int32} {A : Nat → Nat → Int32} {R : Nat → Int64} (h : RR S J A R) : ∃ gr : Nat → Nat, (∀ k, k < S.rs → A 51 k = nI (gr k) ∧ gr k < 40) ∧ ∀ i, i ≤ S.rs → tc_x S i 0 (kI 0) = tm_xs J A S.kp S.rs gr i 0 (kI 0) := by
  have hn := h.2.1.1
  have h9 := h.2.2.2.2.2.2.2.2.1
  refine ⟨fun k => (S.row k).toNatClampNeg, fun k hk => ?_, fun i hi => xs_eq h (fun k hk => ?_) i 0 (kI 0) (by omega)⟩
  · obtain ⟨a, g, b, c⟩ := h9.2.2 k hk
    show A 51 k = nI (S.row k).toNatClampNeg ∧ (S.row k).toNatClampNeg < 40
    rw [a, c, nI_clamp (by omega)]
    exact ⟨rfl, by omega⟩
  · obtain ⟨a, g, b, c⟩ := h9.2.2 k hk
    show S.row k = nI (S.row k).toNatClampNeg ∧ (S.row k).toNatClampNeg < S.n
    rw [c, nI_clamp (by omega)]
    exact ⟨rfl, b⟩
theorem q_cv {S : tc_S} {J : Nat → Int32} {A : Nat → Nat → Int32} {R : Nat → Int64} (h : RR S J A R) : ∀ i j, i < 40 → j < 40 → vp_in (kI 16 * A 35 i + A 36 j) 256 := by
  intro i j hi hj
  obtain ⟨⟨c, hc, _, e2⟩, _⟩ := h.2.2.2.2.1.1 i hi
  obtain ⟨_, ⟨e, he, _, e4⟩⟩ := h.2.2.2.2.1.1 j hj
  rw [e2, e4, show kI 16 = nI 16 from rfl, nI_mul, nI_add]
  exact vp_in_nI (by omega) (by omega)
