/-! the reference: contour and draw, their values -/
theorem tm_at_JS {q : Nat → ClassId} {ad : Nat → Nat} {m : Nat} {W0 : tf_F} {L : List Nat} {J : Nat → Int32} {A : Nat → Nat → Int32} {R : Nat → Int64} {f : tf_F} {a b c e : Int32} (h : tm_at q ad m W0 L (upd (upd (tm_JS J a b) 53 c) 54 e) A R f) : tm_at q ad m W0 L (tm_JS J c e) A R f := by
  have e9 := tm_JS2 J a b c e
  rw [← e9]
  exact h
theorem nI_rem {a n : Nat} (hn : 0 < n) (hn2 : n < 2 ^ 31) (ha : a < 2 ^ 31) : nI a - nI a / nI n * nI n = nI (a % n) := by
  have t1 := nI_toInt ha
  have t2 := nI_toInt hn2
  have h1 : (nI a / nI n).toInt = ((a / n : Nat) : Int) := by
    rw [i3_div (by rw [t2]; omega), t1, t2]
    exact Int.ofNat_tdiv a n
  have h2 := Nat.div_add_mod a n
  have h3 : n * (a / n) = a / n * n := Nat.mul_comm _ _
  have h4 : ((a / n : Nat) : Int) * (n : Int) = ((a / n * n : Nat) : Int) := by rw [Int.natCast_mul]
  have h5 : (nI a / nI n * nI n).toInt = ((a / n * n : Nat) : Int) := by
    rw [i3_mul (by rw [h1, t2, h4]; omega) (by rw [h1, t2, h4]; omega), h1, t2, h4]
  have h6 := Nat.mod_lt a hn
  refine i3_ext ?_
  rw [i3_sub (by rw [h5, t1]; omega) (by rw [h5, t1]; omega), h5, t1, nI_toInt (by omega)]
  omega
def tm_e1 (X O : Nat → Int32) (r p : Nat) : Int32 := if O r = 0 then tm_mid (X r) (X p) else X r
def tm_e2 (X O : Nat → Int32) (p e : Nat) : Int32 := if O e = 0 then tm_mid (X p) (X e) else X e
def tm_c1 (X Y O : Nat → Int32) (F : Int32 → Int32) (al : Nat) (s : Int32) (w0 k0 : Nat) (p e r : Nat) (D : tm_D) : tm_D :=
  if O p = 0 then tm_qd F al s (tm_e1 X O r p) (tm_e1 Y O r p) (X p) (Y p) (tm_e2 X O p e) (tm_e2 Y O p e) w0 k0 (tm_e1 X O r p, tm_e1 Y O r p, D.2.2)
  else if O e = 0 then (X p, Y p, D.2.2) else tm_lt F al s (X e) (Y e) (X p, Y p, D.2.2)
def tm_ct (X Y O : Nat → Int32) (F : Int32 → Int32) (al : Nat) (s : Int32) (w0 k0 fi n : Nat) : Nat → Nat → tm_D → tm_D
  | 0, _, D => D
  | w + 1, k, D => tm_ct X Y O F al s w0 k0 fi n w (k + 1) (tm_c1 X Y O F al s w0 k0 (fi + k) (fi + (k + 1) % n) (fi + (k + n - 1) % n) D)
theorem tm_e1_B {X O : Nat → Int32} {r p : Nat} (hr : iB 100000 (X r)) (hp : iB 100000 (X p)) : iB 100000 (tm_e1 X O r p) := by
  unfold tm_e1
  split
  · exact tm_mid_B hr hp
  · exact hr
theorem tm_e2_B {X O : Nat → Int32} {p e : Nat} (hp : iB 100000 (X p)) (he : iB 100000 (X e)) : iB 100000 (tm_e2 X O p e) := by
  unfold tm_e2
  split
  · exact tm_mid_B hp he
  · exact he
def tm_gy (s v : Int32) : Int32 := if 0 ≤ lg_cmp (tm_nr (255 * v.toInt64) (2 * s.toInt64 * s.toInt64)) 0 then (if lg_cmp (tm_nr (255 * v.toInt64) (2 * s.toInt64 * s.toInt64)) 255 ≤ 0 then (tm_nr (255 * v.toInt64) (2 * s.toInt64 * s.toInt64)).toInt32 else kI 255) else kI 0
def tm_gs (s : Int32) : Nat → Nat → Int32 → (Nat → Int32) → Int32 × (Nat → Int32)
  | 0, _, su, G => (su, G)
  | w + 1, k, su, G => tm_gs s w (k + 1) (su + tm_gy s (G k)) (upd G k (tm_gy s (G k)))
def tm_cnt (Co : Nat → Int32) (sz c fi : Nat) : Nat → Nat → Nat
  | 0, n => n
  | w + 1, n => if fi + n < sz ∧ Co (fi + n) = nI c then tm_cnt Co sz c fi w (n + 1) else n
def tm_drc (X Y O Co : Nat → Int32) (F : Int32 → Int32) (al : Nat) (s : Int32) (w0 k0 sz : Nat) : Nat → Nat → Nat → tm_D → tm_D
  | 0, _, _, D => D
  | w + 1, c, fi, D => tm_drc X Y O Co F al s w0 k0 sz w (c + 1) (fi + tm_cnt Co sz c fi (sz - fi) 0) (tm_ct X Y O F al s w0 k0 fi (tm_cnt Co sz c fi (sz - fi) 0) (tm_cnt Co sz c fi (sz - fi) 0) 0 D)
/-- what draw leaves as it was -/
def tm_o4 (J : Nat → Int32) (A : Nat → Nat → Int32) (J2 : Nat → Int32) (A2 : Nat → Nat → Int32) : Prop :=
  (∀ k, k ≠ 0 → k ≠ 23 → k ≠ 24 → k ≠ 27 → k ≠ 28 → k ≠ 32 → k ≠ 33 → k ≠ 34 → k ≠ 53 → k ≠ 54 → J2 k = J k) ∧ ∀ k, k ≠ 19 → k ≠ 20 → k ≠ 21 → k ≠ 22 → k ≠ 25 → k ≠ 26 → k ≠ 31 → A2 k = A k
theorem tm_o4_mk {J J9 : Nat → Int32} {A A9 : Nat → Nat → Int32} {s v w x y : Int32} {G : Nat → Int32} (hJ : ∀ k, k ≠ 23 → k ≠ 24 → k ≠ 27 → k ≠ 28 → J9 k = upd J 0 (kI 0) k) (hA : ∀ k, k ≠ 19 → k ≠ 20 → k ≠ 21 → k ≠ 22 → k ≠ 25 → k ≠ 26 → A9 k = A k) : tm_o4 J A (tm_JS (upd (upd (upd J9 33 s) 32 v) 34 w) x y) (va_up A9 31 G) := by
  refine ⟨fun k k0 k23 k24 k27 k28 k32 k33 k34 k53 k54 => ?_, fun k a b c d e f g => ?_⟩
  · show upd (upd (upd (upd (upd J9 33 s) 32 v) 34 w) 53 x) 54 y k = J k
    rw [show upd (upd (upd (upd (upd J9 33 s) 32 v) 34 w) 53 x) 54 y k = upd (upd (upd (upd J9 33 s) 32 v) 34 w) 53 x k from if_neg k54, show upd (upd (upd (upd J9 33 s) 32 v) 34 w) 53 x k = upd (upd (upd J9 33 s) 32 v) 34 w k from if_neg k53, show upd (upd (upd J9 33 s) 32 v) 34 w k = upd (upd J9 33 s) 32 v k from if_neg k34, show upd (upd J9 33 s) 32 v k = upd J9 33 s k from if_neg k32, show upd J9 33 s k = J9 k from if_neg k33, hJ k k23 k24 k27 k28]
    exact if_neg k0
  · rw [va_up_ne _ _ g, hA k a b c d e f]
theorem lg_cmp_255 (x : Int64) : (lg_cmp x 255 ≤ 0) = (x.toInt ≤ 255) := by
  unfold lg_cmp
  have e0 : (255 : Int64).toInt = 255 := by decide
  by_cases h1 : x > 255
  · rw [if_pos h1]
    have h2 : (255 : Int64) < x := h1
    rw [Int64.lt_iff_toInt_lt, e0] at h2
    exact propext ⟨fun z => absurd z (by decide), fun _ => by omega⟩
  · rw [if_neg h1]
    have h3 : ¬ (255 : Int64) < x := h1
    rw [Int64.lt_iff_toInt_lt, e0] at h3
    by_cases h2 : x = 255
    · rw [if_pos h2, h2, e0]
      exact propext ⟨fun _ => by omega, fun _ => by decide⟩
    · rw [if_neg h2]
      exact propext ⟨fun z => by omega, fun z => by decide⟩
theorem tm_cnt_le {Co : Nat → Int32} {sz c fi : Nat} : ∀ w n, fi + n ≤ sz → fi + tm_cnt Co sz c fi w n ≤ sz := by
  intro w
  induction w with
  | zero => intro n h; exact h
  | succ w ih =>
    intro n h
    by_cases e : fi + n < sz ∧ Co (fi + n) = nI c
    · rw [show tm_cnt Co sz c fi (w + 1) n = tm_cnt Co sz c fi w (n + 1) from if_pos e]
      exact ih (n + 1) (by omega)
    · rw [show tm_cnt Co sz c fi (w + 1) n = n from if_neg e]
      exact h
theorem acr_div {s : Int32} {al : Nat} (h : tc_acr s al) : kI 2048 / s = nI al ∧ ¬ s = 0 ∧ 0 < s.toInt ∧ s.toInt ≤ 256 ∧ al ≤ 64 ∧ ¬ 2 * (2 * s.toInt64 * s.toInt64) = 0 := by
  rcases h with ⟨e1, e2⟩ | ⟨e1, e2⟩ | ⟨e1, e2⟩ | ⟨e1, e2⟩ <;> (rw [e1, e2]; decide)
theorem acr_side {s : Int32} {al : Nat} (h : tc_acr s al) : s = kI 32 ∨ s = kI 64 ∨ s = kI 128 ∨ s = kI 256 := by
  rcases h with ⟨e1, _⟩ | ⟨e1, _⟩ | ⟨e1, _⟩ | ⟨e1, _⟩
  · exact Or.inl e1
  · exact Or.inr (Or.inl e1)
  · exact Or.inr (Or.inr (Or.inl e1))
  · exact Or.inr (Or.inr (Or.inr e1))
