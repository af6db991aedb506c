/-! draw: a contour as a list of corners, on both sides -/
abbrev tw_CL := List (Int32 × Int32)
def lts (F : Int32 → Int32) (al : Nat) (s : Int32) : tw_CL → tm_D → tm_D
  | [], D => D
  | c :: l, D => lts F al s l (tm_lt F al s c.1 c.2 D)
theorem lts_app (F : Int32 → Int32) (al : Nat) (s : Int32) : ∀ (l l2 : tw_CL) (D : tm_D), lts F al s (l ++ l2) D = lts F al s l2 (lts F al s l D)
  | [], _, _ => rfl
  | c :: l, l2, D => lts_app F al s l l2 (tm_lt F al s c.1 c.2 D)
/-- where the pen stands behind a list -/
def lpen : tw_CL → Int32 × Int32 → Int32 × Int32
  | [], p => p
  | c :: l, _ => lpen l c
theorem lpen_app : ∀ (l l2 : tw_CL) (p : Int32 × Int32), lpen (l ++ l2) p = lpen l2 (lpen l p)
  | [], _, _ => rfl
  | c :: l, l2, _ => lpen_app l l2 c
theorem lts_pen (F : Int32 → Int32) (al : Nat) (s : Int32) : ∀ (l : tw_CL) (D : tm_D), ((lts F al s l D).1, (lts F al s l D).2.1) = lpen l (D.1, D.2.1)
  | [], _ => rfl
  | c :: l, D => lts_pen F al s l (tm_lt F al s c.1 c.2 D)
theorem lts_eta (F : Int32 → Int32) (al : Nat) (s : Int32) (l : tw_CL) (D : tm_D) : lts F al s l D = ((lpen l (D.1, D.2.1)).1, (lpen l (D.1, D.2.1)).2, (lts F al s l D).2.2) := by
  rw [← lts_pen F al s l D]
theorem lpen_ne : ∀ (l : tw_CL) (p p2 : Int32 × Int32), l ≠ [] → lpen l p = lpen l p2
  | [], _, _, h => absurd rfl h
  | _ :: _, _, _, _ => rfl
/-- the corners of a quadratic -/
def qdl (a b x y x1 y1 : Int32) : Nat → Nat → tw_CL
  | 0, _ => [(x1, y1)]
  | w + 1, k => (tm_qp a x x1 (nI k), tm_qp b y y1 (nI k)) :: qdl a b x y x1 y1 w (k + 1)
theorem tm_qd_l (F : Int32 → Int32) (al : Nat) (s a b x y x1 y1 : Int32) : ∀ w k D, tm_qd F al s a b x y x1 y1 w k D = lts F al s (qdl a b x y x1 y1 w k) D := by
  intro w
  induction w with
  | zero => intro k D; rfl
  | succ w ih => intro k D; exact ih (k + 1) _
theorem qdl_pen (a b x y x1 y1 : Int32) : ∀ w k p, lpen (qdl a b x y x1 y1 w k) p = (x1, y1) := by
  intro w
  induction w with
  | zero => intro k p; rfl
  | succ w ih => intro k p; exact ih (k + 1) _
/-- the corners behind point p -/
def crl (X Y O : Nat → Int32) (w0 k0 p e r : Nat) : tw_CL :=
  if O p = 0 then qdl (tm_e1 X O r p) (tm_e1 Y O r p) (X p) (Y p) (tm_e2 X O p e) (tm_e2 Y O p e) w0 k0 else if O e = 0 then [] else [(X e, Y e)]
def stp (X Y O : Nat → Int32) (p r : Nat) : Int32 × Int32 := if O p = 0 then (tm_e1 X O r p, tm_e1 Y O r p) else (X p, Y p)
theorem tm_c1_l (X Y O : Nat → Int32) (F : Int32 → Int32) (al : Nat) (s : Int32) (w0 k0 p e r : Nat) (D : tm_D) : tm_c1 X Y O F al s w0 k0 p e r D = lts F al s (crl X Y O w0 k0 p e r) ((stp X Y O p r).1, (stp X Y O p r).2, D.2.2) := by
  unfold tm_c1 crl stp
  by_cases h : O p = 0
  · rw [if_pos h, if_pos h, if_pos h, tm_qd_l]
  · rw [if_neg h, if_neg h, if_neg h]
    by_cases h2 : O e = 0
    · rw [if_pos h2, if_pos h2]; rfl
    · rw [if_neg h2, if_neg h2]; rfl
/-- the piece ends where the next one begins -/
theorem crl_pen (X Y O : Nat → Int32) (w0 k0 p e r : Nat) : lpen (crl X Y O w0 k0 p e r) (stp X Y O p r) = stp X Y O e p := by
  unfold crl stp
  by_cases h : O p = 0
  · rw [if_pos h, if_pos h, qdl_pen]
    unfold tm_e1 tm_e2
    rw [if_pos h, if_pos h]
    by_cases h2 : O e = 0
    · rw [if_pos h2, if_pos h2, if_pos h2]
    · rw [if_neg h2, if_neg h2, if_neg h2]
  · rw [if_neg h, if_neg h]
    by_cases h2 : O e = 0
    · rw [if_pos h2, if_pos h2]
      unfold tm_e1
      rw [if_neg h, if_neg h]
      rfl
    · rw [if_neg h2, if_neg h2]
      rfl
def nxt (fi n k : Nat) : Nat := fi + (k + 1) % n
def prv (fi n k : Nat) : Nat := fi + (k + n - 1) % n
theorem prv_nxt {fi n k : Nat} (h : k + 1 < n) : prv fi n (k + 1) = fi + k ∧ nxt fi n k = fi + (k + 1) := by
  unfold prv nxt
  rw [show k + 1 + n - 1 = k + n by omega, Nat.add_mod_right, Nat.mod_eq_of_lt (by omega), Nat.mod_eq_of_lt h]
  exact ⟨rfl, rfl⟩
theorem prv_0 {fi n : Nat} (h : 0 < n) : prv fi n 0 = fi + (n - 1) ∧ nxt fi n (n - 1) = fi := by
  unfold prv nxt
  rw [show 0 + n - 1 = n - 1 by omega, Nat.mod_eq_of_lt (show n - 1 < n by omega), show n - 1 + 1 = n by omega, Nat.mod_self]
  exact ⟨rfl, rfl⟩
/-- all corners of points k on, w of them -/
def ctl (X Y O : Nat → Int32) (w0 k0 fi n : Nat) : Nat → Nat → tw_CL
  | 0, _ => []
  | w + 1, k => crl X Y O w0 k0 (fi + k) (nxt fi n k) (prv fi n k) ++ ctl X Y O w0 k0 fi n w (k + 1)
theorem tm_ct_l (X Y O : Nat → Int32) (F : Int32 → Int32) (al : Nat) (s : Int32) (w0 k0 fi n : Nat) : ∀ w k (D : tm_D), k + w = n → 0 < w → (tm_ct X Y O F al s w0 k0 fi n w k D) = lts F al s (ctl X Y O w0 k0 fi n w k) ((stp X Y O (fi + k) (prv fi n k)).1, (stp X Y O (fi + k) (prv fi n k)).2, D.2.2) := by
  intro w
  induction w with
  | zero => intro k D _ h; omega
  | succ w ih =>
    intro k D hk _
    rw [show tm_ct X Y O F al s w0 k0 fi n (w + 1) k D = tm_ct X Y O F al s w0 k0 fi n w (k + 1) (tm_c1 X Y O F al s w0 k0 (fi + k) (nxt fi n k) (prv fi n k) D) from rfl, tm_c1_l]
    rw [show ctl X Y O w0 k0 fi n (w + 1) k = crl X Y O w0 k0 (fi + k) (nxt fi n k) (prv fi n k) ++ ctl X Y O w0 k0 fi n w (k + 1) from rfl, lts_app]
    have hp := crl_pen X Y O w0 k0 (fi + k) (nxt fi n k) (prv fi n k)
    cases w with
    | zero => rfl
    | succ w =>
      rw [ih (k + 1) _ (by omega) (by omega)]
      obtain ⟨e1, e2⟩ := prv_nxt (fi := fi) (n := n) (k := k) (by omega)
      have e3 : ((lts F al s (crl X Y O w0 k0 (fi + k) (nxt fi n k) (prv fi n k)) ((stp X Y O (fi + k) (prv fi n k)).1, (stp X Y O (fi + k) (prv fi n k)).2, D.2.2)).1, (lts F al s (crl X Y O w0 k0 (fi + k) (nxt fi n k) (prv fi n k)) ((stp X Y O (fi + k) (prv fi n k)).1, (stp X Y O (fi + k) (prv fi n k)).2, D.2.2)).2.1) = stp X Y O (nxt fi n k) (fi + k) := (lts_pen F al s _ _).trans hp
      generalize lts F al s (crl X Y O w0 k0 (fi + k) (nxt fi n k) (prv fi n k)) ((stp X Y O (fi + k) (prv fi n k)).1, (stp X Y O (fi + k) (prv fi n k)).2, D.2.2) = D2 at e3 ⊢
      rw [e2] at e3
      rw [e1, ← e3]
theorem ctl_pen (X Y O : Nat → Int32) (w0 k0 fi n : Nat) : ∀ w k, k + w = n → 0 < w → lpen (ctl X Y O w0 k0 fi n w k) (stp X Y O (fi + k) (prv fi n k)) = stp X Y O fi (fi + (n - 1)) := by
  intro w
  induction w with
  | zero => intro k _ h; omega
  | succ w ih =>
    intro k hk _
    rw [show ctl X Y O w0 k0 fi n (w + 1) k = crl X Y O w0 k0 (fi + k) (nxt fi n k) (prv fi n k) ++ ctl X Y O w0 k0 fi n w (k + 1) from rfl, lpen_app, crl_pen]
    cases w with
    | zero =>
      obtain ⟨_, e2⟩ := prv_0 (fi := fi) (n := n) (by omega)
      rw [show k = n - 1 by omega, e2]
      rfl
    | succ w =>
      obtain ⟨e1, e2⟩ := prv_nxt (fi := fi) (n := n) (k := k) (by omega)
      have := ih (k + 1) (by omega) (by omega)
      rw [e1] at this
      rw [e2]
      exact this
/-- the class's path holds a list -/
def pl (w : tw_PW) (l : tw_CL) : Prop := w.1 = l.length ∧ ∀ i c, l[i]? = some c → w.2.1 i = c.1 ∧ w.2.2 i = c.2
theorem pl_cor {w : tw_PW} {l : tw_CL} (h : pl w l) (x y : Int32) : pl (tw_cor x y w) (l ++ [(x, y)]) := by
  obtain ⟨h1, h2⟩ := h
  refine ⟨by rw [List.length_append]; exact congrArg (· + 1) h1, ?_⟩
  intro i c hc
  show upd w.2.1 w.1 x i = c.1 ∧ upd w.2.2 w.1 y i = c.2
  unfold upd
  rw [h1]
  by_cases hi : i < l.length
  · rw [List.getElem?_append_left hi] at hc
    rw [if_neg (by omega), if_neg (by omega)]
    exact h2 i c hc
  · rw [List.getElem?_append_right (by omega)] at hc
    by_cases he : i = l.length
    · subst he
      rw [Nat.sub_self] at hc
      have : (x, y) = c := Option.some.inj hc
      rw [if_pos rfl, if_pos rfl, ← this]
      exact ⟨rfl, rfl⟩
    · rw [List.getElem?_eq_none (by simp; omega)] at hc
      cases hc
theorem tw_onQ_qp (a x x1 k : Int32) : tw_onQ a x x1 k = tm_qp a x x1 k := by
  unfold tw_onQ tm_qp
  exact hvU_nr (by decide) (by decide)
theorem tm_qp_8 {a x x1 : Int32} (h1 : iB 100000 x1) : tm_qp a x x1 (nI 8) = x1 := by
  obtain ⟨c1, c2⟩ := h1
  have e8 : nI 8 = kI 8 := rfl
  have e64 : (nI 8 * nI 8).toInt = 64 := by decide
  have t : (nI 8 * nI 8 * x1).toInt = 64 * x1.toInt := by rw [i3_mul (by rw [e64]; omega) (by rw [e64]; omega), e64]
  have z1 : (kI 8 - nI 8) * (kI 8 - nI 8) * a = 0 := by rw [show (kI 8 - nI 8) * (kI 8 - nI 8) = 0 by decide, Int32.zero_mul]
  have z2 : kI 2 * nI 8 * (kI 8 - nI 8) * x = 0 := by rw [show kI 2 * nI 8 * (kI 8 - nI 8) = 0 by decide, Int32.zero_mul]
  unfold tm_qp
  rw [z1, z2, Int32.zero_add, Int32.zero_add]
  refine i3_ext ?_
  have e : (tm_nr (nI 8 * nI 8 * x1).toInt64 64).toInt = x1.toInt := by
    rw [tm_nr_i (by rw [i6_of, t]; omega) (by decide) (by decide), i6_of, t]
    have e := iR_shift (a := 0) (b := 64) (k := x1.toInt) (by omega)
    rw [Int.zero_add, iR_0 (by omega), Int.zero_add] at e
    exact e
  rw [i3_of (by rw [e]; omega) (by rw [e]; omega), e]
theorem tw_quad_l {fx fy bx yb tx ty : Int32} (hx : iB 100000 tx) (hy : iB 100000 ty) : ∀ m k (w : tw_PW) (l : tw_CL), k + m = 8 → pl w l → pl (tw_quad fx fy bx yb tx ty (m + 1) k w) (l ++ qdl fx fy bx yb tx ty m k) := by
  intro m
  induction m with
  | zero =>
    intro k w l hk h
    have : k = 8 := by omega
    subst this
    show pl (tw_cor (tw_onQ fx bx tx (nI 8)) (tw_onQ fy yb ty (nI 8)) w) (l ++ [(tx, ty)])
    rw [tw_onQ_qp, tw_onQ_qp, tm_qp_8 hx, tm_qp_8 hy]
    exact pl_cor h _ _
  | succ m ih =>
    intro k w l hk h
    have h2 := ih (k + 1) _ _ (by omega) (pl_cor h (tw_onQ fx bx tx (nI k)) (tw_onQ fy yb ty (nI k)))
    rw [List.append_assoc] at h2
    rw [show qdl fx fy bx yb tx ty (m + 1) k = [(tw_onQ fx bx tx (nI k), tw_onQ fy yb ty (nI k))] ++ qdl fx fy bx yb tx ty m (k + 1) by rw [tw_onQ_qp, tw_onQ_qp]; rfl]
    exact h2
theorem hvU_mid (a b : Int32) : hvU (a + b).toInt64 2 = tm_mid a b := hvU_nr (by decide) (by decide)
theorem tw_endAt_1 (X O : Nat → Int32) {r p : Nat} (hr : r < 2 ^ 31) (hp : p < 2 ^ 31) : tw_endAt X (nI r) (nI p) (O r) = tm_e1 X O r p := by
  unfold tw_endAt tm_e1
  rw [nI_clamp hr, nI_clamp hp, hvU_mid]
theorem tw_endAt_2 (X O : Nat → Int32) {p e : Nat} (hp : p < 2 ^ 31) (he : e < 2 ^ 31) : tw_endAt X (nI e) (nI p) (O e) = tm_e2 X O p e := by
  unfold tw_endAt tm_e2
  rw [nI_clamp he, nI_clamp hp, Int32.add_comm, hvU_mid]
theorem tw_fol1_l {X Y O : Nat → Int32} {fi n k : Nat} (hk : k < n) (hn : fi + n ≤ 160) (hB : ∀ p, p < fi + n → iB 100000 (X p) ∧ iB 100000 (Y p)) {w : tw_PW} {l : tw_CL} (h : pl w l) : pl (tw_fol1 X Y O fi (fi + n) (fi + k) w) (l ++ crl X Y O 7 1 (fi + k) (nxt fi n k) (prv fi n k)) := by
  have e1 : tw_nx fi (fi + n) (fi + k) = nxt fi n k := by
    unfold tw_nx nxt
    by_cases h : k + 1 < n
    · rw [if_pos (by omega), Nat.mod_eq_of_lt h]; omega
    · rw [if_neg (by omega), show k + 1 = n by omega, Nat.mod_self]; rfl
  have e2 : tw_pv fi (fi + n) (fi + k) = prv fi n k := by
    unfold tw_pv prv
    by_cases h : 0 < k
    · rw [if_pos (by omega), show k + n - 1 = (k - 1) + n by omega, Nat.add_mod_right, Nat.mod_eq_of_lt (by omega)]; omega
    · rw [if_neg (by omega), show k + n - 1 = n - 1 by omega, Nat.mod_eq_of_lt (by omega)]; omega
  have b1 : nxt fi n k < fi + n := by unfold nxt; have := Nat.mod_lt (k + 1) (show 0 < n by omega); omega
  have b2 : prv fi n k < fi + n := by unfold prv; have := Nat.mod_lt (k + n - 1) (show 0 < n by omega); omega
  unfold tw_fol1 crl
  rw [e1, e2]
  generalize nxt fi n k = e at b1
  generalize prv fi n k = r at b2
  obtain ⟨pX, pY⟩ := hB (fi + k) (by omega)
  obtain ⟨eX, eY⟩ := hB e b1
  by_cases h1 : O (fi + k) = 0
  · rw [if_pos h1, if_pos h1]
    unfold tw_qd
    rw [tw_endAt_1 X O (by omega) (by omega), tw_endAt_1 Y O (by omega) (by omega), tw_endAt_2 X O (by omega) (by omega), tw_endAt_2 Y O (by omega) (by omega)]
    exact tw_quad_l (tm_e2_B pX eX) (tm_e2_B pY eY) 7 1 w l rfl h
  · rw [if_neg h1, if_neg h1]
    by_cases h2 : O e = 0
    · rw [if_pos h2, if_pos h2, List.append_nil]
      exact h
    · rw [if_neg h2, if_neg h2]
      exact pl_cor h _ _
theorem tw_fol_l {X Y O : Nat → Int32} {fi n : Nat} (hn : fi + n ≤ 160) (hB : ∀ p, p < fi + n → iB 100000 (X p) ∧ iB 100000 (Y p)) : ∀ m k (w : tw_PW) (l : tw_CL), k + m = n → pl w l → pl (tw_fol X Y O fi (fi + n) m (fi + k) w) (l ++ ctl X Y O 7 1 fi n m k) := by
  intro m
  induction m with
  | zero =>
    intro k w l hk h
    show pl w (l ++ [])
    rw [List.append_nil]
    exact h
  | succ m ih =>
    intro k w l hk h
    have h2 := ih (k + 1) _ _ (by omega) (tw_fol1_l (O := O) (show k < n by omega) hn hB h)
    rw [List.append_assoc] at h2
    exact h2
