/-! outlines as lists: the reference's side -/
def rq (x : tm_OU) : Nat → Nat → oC → Prop
  | _, _, [] => True
  | p, C, l :: L => (∀ i q, l[i]? = some q → x.1 (p + i) = q.1 ∧ x.2.1 (p + i) = q.2.1 ∧ x.2.2.1 (p + i) = q.2.2 ∧ x.2.2.2.1 (p + i) = nI C) ∧ rq x (p + l.length) (C + 1) L
/-- below point p nothing has changed -/
def kq (p : Nat) (x y : tm_OU) : Prop := ∀ z, z < p → y.1 z = x.1 z ∧ y.2.1 z = x.2.1 z ∧ y.2.2.1 z = x.2.2.1 z ∧ y.2.2.2.1 z = x.2.2.2.1 z
theorem kq.rf (p : Nat) (x : tm_OU) : kq p x x := fun z _ => ⟨rfl, rfl, rfl, rfl⟩
theorem kq.tr {p p2 : Nat} {x y w : tm_OU} (h : kq p x y) (h2 : kq p2 y w) (hp : p ≤ p2) : kq p x w := fun z hz => by
  obtain ⟨a, b, c, d⟩ := h z hz
  obtain ⟨a2, b2, c2, d2⟩ := h2 z (by omega)
  exact ⟨a2.trans a, b2.trans b, c2.trans c, d2.trans d⟩
theorem rq_kq {x y : tm_OU} : ∀ {L : oC} {p C p2 : Nat}, rq x p C L → kq p2 x y → p + olen L ≤ p2 → rq y p C L
  | [], _, _, _, _, _, _ => trivial
  | l :: L, p, C, p2, h, hk, hp => by
    have e : olen (l :: L) = l.length + olen L := rfl
    refine ⟨fun i q hi => ?_, rq_kq h.2 hk (by omega)⟩
    have := get_lt hi
    obtain ⟨a, b, c, d⟩ := hk (p + i) (by omega)
    rw [a, b, c, d]
    exact h.1 i q hi
theorem rq_app {x : tm_OU} : ∀ {L1 L2 : oC} {p C : Nat}, rq x p C L1 → rq x (p + olen L1) (C + L1.length) L2 → rq x p C (L1 ++ L2)
  | [], L2, p, C, _, h2 => h2
  | l :: L1, L2, p, C, h1, h2 => by
    refine ⟨h1.1, rq_app h1.2 ?_⟩
    rw [show p + l.length + olen L1 = p + olen (l :: L1) from Nat.add_assoc _ _ _, show C + 1 + L1.length = C + (l :: L1).length by simp only [List.length_cons]; omega]
    exact h2
/-- the points of contour c among those from k on -/
def tl (pt : Nat → Int32 × Int32) (mk : Nat → Int32) (g K : Nat) (b : Bool) (c : Nat) : Nat → Nat → List oP
  | 0, _ => []
  | w + 1, k => (if tm_mc (mk (tm_ps g K b k)) = nI c then [((pt (tm_ps g K b k)).1, (pt (tm_ps g K b k)).2, tm_mo (mk (tm_ps g K b k)))] else []) ++ tl pt mk g K b c w (k + 1)
theorem tck_l (pt : Nat → Int32 × Int32) (mk : Nat → Int32) (g K : Nat) (b : Bool) (c : Nat) : ∀ w k (x : tm_OU), (tm_tck pt mk g K b c w k x).2.2.2.2.1 = x.2.2.2.2.1 + (tl pt mk g K b c w k).length ∧ (tm_tck pt mk g K b c w k x).2.2.2.2.2 = x.2.2.2.2.2 ∧ (∀ i q, (tl pt mk g K b c w k)[i]? = some q → (tm_tck pt mk g K b c w k x).1 (x.2.2.2.2.1 + i) = q.1 ∧ (tm_tck pt mk g K b c w k x).2.1 (x.2.2.2.2.1 + i) = q.2.1 ∧ (tm_tck pt mk g K b c w k x).2.2.1 (x.2.2.2.2.1 + i) = q.2.2 ∧ (tm_tck pt mk g K b c w k x).2.2.2.1 (x.2.2.2.2.1 + i) = nI x.2.2.2.2.2) ∧ kq x.2.2.2.2.1 x (tm_tck pt mk g K b c w k x) := by
  intro w
  induction w with
  | zero => intro k x; exact ⟨rfl, rfl, (fun i q h => by cases h), kq.rf _ _⟩
  | succ w ih =>
    intro k x
    have e1 : tm_tck pt mk g K b c (w + 1) k x = tm_tck pt mk g K b c w (k + 1) (if tm_mc (mk (tm_ps g K b k)) = nI c then tm_add x (pt (tm_ps g K b k)).1 (pt (tm_ps g K b k)).2 (tm_mo (mk (tm_ps g K b k))) else x) := rfl
    have e2 : tl pt mk g K b c (w + 1) k = (if tm_mc (mk (tm_ps g K b k)) = nI c then [((pt (tm_ps g K b k)).1, (pt (tm_ps g K b k)).2, tm_mo (mk (tm_ps g K b k)))] else []) ++ tl pt mk g K b c w (k + 1) := rfl
    rw [e1, e2]
    generalize tm_ps g K b k = p
    by_cases h : tm_mc (mk p) = nI c
    · rw [if_pos h, if_pos h]
      obtain ⟨a1, a2, a3, a4⟩ := ih (k + 1) (tm_add x (pt p).1 (pt p).2 (tm_mo (mk p)))
      have s1 : (tm_add x (pt p).1 (pt p).2 (tm_mo (mk p))).2.2.2.2.1 = x.2.2.2.2.1 + 1 := rfl
      have s2 : (tm_add x (pt p).1 (pt p).2 (tm_mo (mk p))).2.2.2.2.2 = x.2.2.2.2.2 := rfl
      rw [s1] at a1 a3 a4
      rw [s2] at a2 a3
      refine ⟨?_, a2, ?_, ?_⟩
      · rw [a1]; simp only [List.length_append, List.length_cons, List.length_nil]; omega
      · intro i q hi
        cases i with
        | zero =>
          have hq : ((pt p).1, (pt p).2, tm_mo (mk p)) = q := Option.some.inj hi
          obtain ⟨b1, b2, b3, b4⟩ := a4 x.2.2.2.2.1 (by omega)
          simp only [Nat.add_zero]
          rw [b1, b2, b3, b4, ← hq]
          exact ⟨if_pos rfl, if_pos rfl, if_pos rfl, if_pos rfl⟩
        | succ i =>
          have := a3 i q hi
          rw [show x.2.2.2.2.1 + 1 + i = x.2.2.2.2.1 + (i + 1) by omega] at this
          exact this
      · intro z hz
        obtain ⟨b1, b2, b3, b4⟩ := a4 z (by omega)
        rw [b1, b2, b3, b4]
        exact ⟨if_neg (by omega), if_neg (by omega), if_neg (by omega), if_neg (by omega)⟩
    · rw [if_neg h, if_neg h]
      exact ih (k + 1) x
/-- .. of contours c on, w of them -/
def tlc (pt : Nat → Int32 × Int32) (mk : Nat → Int32) (g K : Nat) (b : Bool) : Nat → Nat → oC
  | 0, _ => []
  | w + 1, c => tl pt mk g K b c K 0 :: tlc pt mk g K b w (c + 1)
theorem tcc_l (pt : Nat → Int32 × Int32) (mk : Nat → Int32) (g K : Nat) (b : Bool) : ∀ w c (x : tm_OU), (tm_tcc pt mk g K b w c x).2.2.2.2.1 = x.2.2.2.2.1 + olen (tlc pt mk g K b w c) ∧ (tm_tcc pt mk g K b w c x).2.2.2.2.2 = x.2.2.2.2.2 + (tlc pt mk g K b w c).length ∧ rq (tm_tcc pt mk g K b w c x) x.2.2.2.2.1 x.2.2.2.2.2 (tlc pt mk g K b w c) ∧ kq x.2.2.2.2.1 x (tm_tcc pt mk g K b w c x) := by
  intro w
  induction w with
  | zero => intro c x; exact ⟨rfl, rfl, trivial, kq.rf _ _⟩
  | succ w ih =>
    intro c x
    have e1 : tm_tcc pt mk g K b (w + 1) c x = tm_tcc pt mk g K b w (c + 1) (tm_nc (tm_tck pt mk g K b c K 0 x)) := rfl
    have e2 : tlc pt mk g K b (w + 1) c = tl pt mk g K b c K 0 :: tlc pt mk g K b w (c + 1) := rfl
    obtain ⟨t1, t2, t3, t4⟩ := tck_l pt mk g K b c K 0 x
    rw [e1, e2]
    generalize tm_tck pt mk g K b c K 0 x = y at t1 t2 t3 t4 ⊢
    generalize tl pt mk g K b c K 0 = l at t1 t3 ⊢
    obtain ⟨a1, a2, a3, a4⟩ := ih (c + 1) (tm_nc y)
    have s1 : (tm_nc y).2.2.2.2.1 = x.2.2.2.2.1 + l.length := t1
    have s2 : (tm_nc y).2.2.2.2.2 = x.2.2.2.2.2 + 1 := congrArg (· + 1) t2
    rw [s1] at a1 a3 a4
    rw [s2] at a2 a3
    refine ⟨?_, ?_, ⟨?_, a3⟩, ?_⟩
    · rw [a1, Nat.add_assoc]; rfl
    · rw [a2, List.length_cons]; omega
    · intro i q hi
      have := get_lt hi
      obtain ⟨b1, b2, b3, b4⟩ := a4 (x.2.2.2.2.1 + i) (by omega)
      rw [b1, b2, b3, b4]
      exact t3 i q hi
    · intro z hz
      obtain ⟨b1, b2, b3, b4⟩ := a4 z (by omega)
      rw [b1, b2, b3, b4]
      exact t4 z hz
theorem oseg_snoc (X Y O : Nat → Int32) : ∀ m i, oseg X Y O (m + 1) i = oseg X Y O m i ++ [(X (i + m), Y (i + m), O (i + m))]
  | 0, i => rfl
  | m + 1, i => by
    show (X i, Y i, O i) :: oseg X Y O (m + 1) (i + 1) = (X i, Y i, O i) :: (oseg X Y O m (i + 1) ++ [(X (i + (m + 1)), Y (i + (m + 1)), O (i + (m + 1)))])
    rw [oseg_snoc X Y O m (i + 1), show i + 1 + m = i + (m + 1) by omega]
/-- contour c's points lie between lo and hi -/
theorem tl_f {pt : Nat → Int32 × Int32} {mk : Nat → Int32} {g K c lo hi : Nat} (hlh : lo ≤ hi) (hK : hi ≤ K) (hm : ∀ k, k < K → (tm_mc (mk (40 * g + k)) = nI c ↔ lo ≤ k ∧ k < hi)) : ∀ w k, k + w = K → tl pt mk g K false c w k = oseg (fun i => (pt (40 * g + i)).1) (fun i => (pt (40 * g + i)).2) (fun i => tm_mo (mk (40 * g + i))) (hi - (if lo ≤ k then k else lo)) (if lo ≤ k then k else lo) := by
  intro w
  induction w with
  | zero =>
    intro k hk
    rw [show hi - (if lo ≤ k then k else lo) = 0 by split <;> omega]
    rfl
  | succ w ih =>
    intro k hk
    have e2 : tl pt mk g K false c (w + 1) k = (if tm_mc (mk (40 * g + k)) = nI c then [((pt (40 * g + k)).1, (pt (40 * g + k)).2, tm_mo (mk (40 * g + k)))] else []) ++ tl pt mk g K false c w (k + 1) := rfl
    rw [e2, ih (k + 1) (by omega)]
    by_cases h : lo ≤ k ∧ k < hi
    · rw [if_pos ((hm k (by omega)).mpr h), if_pos (by omega), if_pos h.1, show hi - k = (hi - (k + 1)) + 1 by omega]
      rfl
    · rw [if_neg (fun z => h ((hm k (by omega)).mp z)), List.nil_append]
      by_cases h2 : lo ≤ k
      · rw [if_pos (by omega), if_pos h2, show hi - (k + 1) = 0 by omega, show hi - k = 0 by omega]
        rfl
      · by_cases h3 : lo = k + 1
        · rw [if_pos (by omega), if_neg h2, h3]
        · rw [if_neg (by omega), if_neg h2]
theorem tl_b {pt : Nat → Int32 × Int32} {mk : Nat → Int32} {g K c lo hi : Nat} (hlh : lo ≤ hi) (hK : hi ≤ K) (hm : ∀ k, k < K → (tm_mc (mk (40 * g + k)) = nI c ↔ lo ≤ k ∧ k < hi)) : ∀ w k, k + w = K → tl pt mk g K true c w k = (oseg (fun i => (pt (40 * g + i)).1) (fun i => (pt (40 * g + i)).2) (fun i => tm_mo (mk (40 * g + i))) ((if hi ≤ w then hi else w) - lo) lo).reverse := by
  intro w
  induction w with
  | zero =>
    intro k hk
    rw [show (if hi ≤ 0 then hi else 0) - lo = 0 by split <;> omega]
    rfl
  | succ w ih =>
    intro k hk
    have ew : K - 1 - k = w := by omega
    have e2 : tl pt mk g K true c (w + 1) k = (if tm_mc (mk (40 * g + w)) = nI c then [((pt (40 * g + w)).1, (pt (40 * g + w)).2, tm_mo (mk (40 * g + w)))] else []) ++ tl pt mk g K true c w (k + 1) := by
      show (if tm_mc (mk (40 * g + (K - 1 - k))) = nI c then [((pt (40 * g + (K - 1 - k))).1, (pt (40 * g + (K - 1 - k))).2, tm_mo (mk (40 * g + (K - 1 - k))))] else []) ++ tl pt mk g K true c w (k + 1) = _
      rw [ew]
    rw [e2, ih (k + 1) (by omega)]
    by_cases h : lo ≤ w ∧ w < hi
    · rw [if_pos ((hm w (by omega)).mpr h), if_neg (c := hi ≤ w) (by omega)]
      rw [show (if hi ≤ w + 1 then hi else w + 1) - lo = (w - lo) + 1 by split <;> omega, oseg_snoc, List.reverse_append, show lo + (w - lo) = w by omega]
      rfl
    · rw [if_neg (fun z => h ((hm w (by omega)).mp z)), List.nil_append]
      by_cases h2 : hi ≤ w
      · rw [if_pos h2, if_pos (by omega)]
      · rw [if_neg h2, show w - lo = 0 by omega, show (if hi ≤ w + 1 then hi else w + 1) - lo = 0 by split <;> omega]
theorem oseg_map {X Y O X2 Y2 O2 : Nat → Int32} {F : oP → oP} : ∀ m i, (∀ j, i ≤ j → j < i + m → F (X j, Y j, O j) = (X2 j, Y2 j, O2 j)) → (oseg X Y O m i).map F = oseg X2 Y2 O2 m i := by
  intro m
  induction m with
  | zero => intro i _; rfl
  | succ m ih =>
    intro i h
    show F (X i, Y i, O i) :: (oseg X Y O m (i + 1)).map F = (X2 i, Y2 i, O2 i) :: oseg X2 Y2 O2 m (i + 1)
    rw [h i (Nat.le_refl _) (by omega), ih (i + 1) (fun j q1 q2 => h j (by omega) (by omega))]
/-- a whole glyph's own contours, through a turn of each point, backwards or not -/
theorem tlc_own {pt : Nat → Int32 × Int32} {mk : Nat → Int32} {g K : Nat} {b : Bool} {X Y O : Nat → Int32} {e : Nat → Nat} {F : oP → oP} (hF : ∀ i, i < K → F (X i, Y i, O i) = ((pt (40 * g + i)).1, (pt (40 * g + i)).2, tm_mo (mk (40 * g + i)))) (hK2 : K ≤ 40) {N : Nat} (hN : N ≤ 40) (hm : ∀ c, c < N → ∀ k, k < K → (tm_mc (mk (40 * g + k)) = nI c ↔ (∀ c0, c0 + 1 = c → e c0 ≤ k) ∧ k < e c)) (heK : ∀ c, c < N → e c ≤ K) (hmon : ∀ c, c + 1 < N → e c ≤ e (c + 1)) : ∀ w c i, c + w = N → (c = 0 → i = 0) → (∀ c0, c0 + 1 = c → i = e c0) → tlc pt mk g K b w c = (oown X Y O e w c i).map (fun l => if b = true then (l.map F).reverse else l.map F) := by
  intro w
  induction w with
  | zero => intro c i _ _ _; rfl
  | succ w ih =>
    intro c i hc h0 h1
    have hie : i ≤ e c := by
      cases c with
      | zero => rw [h0 rfl]; exact Nat.zero_le _
      | succ c => rw [h1 c rfl]; exact hmon c (by omega)
    have hm2 : ∀ k, k < K → (tm_mc (mk (40 * g + k)) = nI c ↔ i ≤ k ∧ k < e c) := by
      intro k hk
      rw [hm c (by omega) k hk]
      cases c with
      | zero => rw [h0 rfl]; exact ⟨fun z => ⟨Nat.zero_le _, z.2⟩, fun z => ⟨fun c0 h => by omega, z.2⟩⟩
      | succ c =>
        have := h1 c rfl
        exact ⟨fun z => ⟨by rw [this]; exact z.1 c rfl, z.2⟩, fun z => ⟨fun c0 h => by rw [show c0 = c by omega, ← this]; exact z.1, z.2⟩⟩
    show tl pt mk g K b c K 0 :: tlc pt mk g K b w (c + 1) = (if b = true then ((oseg X Y O (e c - i) i).map F).reverse else (oseg X Y O (e c - i) i).map F) :: (oown X Y O e w (c + 1) (e c)).map _
    have hecK := heK c (by omega)
    rw [ih (c + 1) (e c) (by omega) (by omega) (fun c0 h => by rw [show c0 = c by omega]), oseg_map (F := F) (e c - i) i (fun j q1 q2 => hF j (by omega))]
    congr 1
    cases b with
    | false =>
      rw [tl_f hie hecK hm2 K 0 (by omega)]
      by_cases z : i ≤ 0
      · rw [if_pos z, show i = 0 by omega]; rfl
      · rw [if_neg z]; rfl
    | true => rw [tl_b hie hecK hm2 K 0 (by omega), if_pos hecK]; rfl
theorem tm_trn_congr {X Y : Nat → Int32} {pg np tn pg2 np2 tn2 : Nat → Nat} : ∀ n z, (∀ e, e < n → pg2 e = pg e ∧ np2 e = np e ∧ tn2 e = tn e) → tm_trn X Y pg2 np2 tn2 n z = tm_trn X Y pg np tn n z := by
  intro n
  induction n with
  | zero => intro z _; rfl
  | succ n ih =>
    intro z h
    show tm_trn X Y pg2 np2 tn2 n (tw_tp (tn2 n) (X (4 * pg2 n + np2 n)) (Y (4 * pg2 n + np2 n)) z) = tm_trn X Y pg np tn n (tw_tp (tn n) (X (4 * pg n + np n)) (Y (4 * pg n + np n)) z)
    obtain ⟨a, b, c⟩ := h n (Nat.lt_succ_self _)
    rw [a, b, c, ih _ (fun e he => h e (by omega))]
theorem tm_bk_last (tn : Nat → Nat) : ∀ w e b, tm_bk tn (w + 1) e b = (tm_bk tn w e b != decide (¬ tn (e + w) < 4)) := by
  intro w
  induction w with
  | zero => intro e b; rfl
  | succ w ih =>
    intro e b
    show tm_bk tn (w + 1) (e + 1) (b != decide (¬ tn e < 4)) = _
    rw [ih, show e + 1 + w = e + (w + 1) by omega]
    rfl
theorem tm_bk_congr {tn tn2 : Nat → Nat} : ∀ w e b, (∀ z, e ≤ z → z < e + w → tn2 z = tn z) → tm_bk tn2 w e b = tm_bk tn w e b := by
  intro w
  induction w with
  | zero => intro e b _; rfl
  | succ w ih =>
    intro e b h
    show tm_bk tn2 w (e + 1) (b != decide (¬ tn2 e < 4)) = tm_bk tn w (e + 1) (b != decide (¬ tn e < 4))
    rw [h e (Nat.le_refl _) (by omega), ih _ _ (fun z q1 q2 => h z (by omega) (by omega))]
/-- a contour through the whole pile -/
def stk (X Y : Nat → Int32) (pg np tn : Nat → Nat) (n : Nat) (q : oP) : oP := ((tm_trn X Y pg np tn n (q.1, q.2.1)).1, (tm_trn X Y pg np tn n (q.1, q.2.1)).2, q.2.2)
def stkc (X Y : Nat → Int32) (pg np tn : Nat → Nat) (n : Nat) (l : List oP) : List oP := if tm_bk tn n 0 false = true then (l.map (stk X Y pg np tn n)).reverse else l.map (stk X Y pg np tn n)
theorem stkc_len (X Y : Nat → Int32) (pg np tn : Nat → Nat) (n : Nat) (l : List oP) : (stkc X Y pg np tn n l).length = l.length := by
  unfold stkc
  split
  · rw [List.length_reverse, List.length_map]
  · rw [List.length_map]
theorem stkc_succ (X Y : Nat → Int32) (pg np tn : Nat → Nat) (n : Nat) (l : List oP) : stkc X Y pg np tn (n + 1) l = stkc X Y pg np tn n (tpc (tn n) (X (4 * pg n + np n)) (Y (4 * pg n + np n)) l) := by
  have hs : (stk X Y pg np tn n) ∘ (tpp (tn n) (X (4 * pg n + np n)) (Y (4 * pg n + np n))) = stk X Y pg np tn (n + 1) := rfl
  unfold stkc tpc
  rw [tm_bk_last, Nat.zero_add]
  by_cases h : tn n < 4
  · rw [if_pos h, List.map_map, hs]
    have e : (tm_bk tn n 0 false != decide (¬ tn n < 4)) = tm_bk tn n 0 false := by
      rw [decide_eq_false (by omega)]
      cases tm_bk tn n 0 false <;> rfl
    rw [e]
  · rw [if_neg h]
    have e : (tm_bk tn n 0 false != decide (¬ tn n < 4)) = !(tm_bk tn n 0 false) := by
      rw [decide_eq_true h]
      cases tm_bk tn n 0 false <;> rfl
    rw [e]
    cases tm_bk tn n 0 false with
    | true => rw [if_neg (by decide), if_pos rfl, List.map_reverse, List.reverse_reverse, List.map_map, hs]
    | false => rw [if_pos (by decide), if_neg (by decide), List.map_reverse, List.map_map, hs]
