/-! an outline gathered: what becomes of its points, contours, starts -/
/-- points, contours, rows -/
abbrev ou_ST := Nat × Nat × (Nat → Nat → Int32)
def tc_e (G : tc_G) (z : Nat) : Nat := (G.E z).toNatClampNeg
def tc_sum (w : Nat → Nat) : Nat → Nat
  | 0 => 0
  | m + 1 => tc_sum w m + w m
def tc_op (G : tc_G) : Nat := G.cp + G.pp
def tc_oc (G : tc_G) : Nat := G.ct + G.ps
/-- what holds of a glyph's own contours -/
def tc_own (G : tc_G) : Prop := G.ct ≤ 13 ∧ G.cp ≤ 40 ∧ (∀ z, z < G.ct → G.E z = nI (tc_e G z) ∧ tc_e G z ≤ G.cp) ∧ (G.ct = 0 → G.cp = 0) ∧ (∀ z, z + 1 = G.ct → tc_e G z = G.cp) ∧ (0 < G.ct → 3 ≤ tc_e G 0) ∧ ∀ z, z + 1 < G.ct → tc_e G z + 3 ≤ tc_e G (z + 1)
/-- and of its parts -/
def tc_prt (S : tc_S) (G : tc_G) : Prop := G.pc ≤ 4 ∧ (∀ j, j < G.pc → G.src j < S.n ∧ (S.T (G.src j)).dp < G.dp ∧ G.tu j < 8) ∧ G.pp = tc_sum (fun j => tc_op (S.T (G.src j))) G.pc ∧ G.ps = tc_sum (fun j => tc_oc (S.T (G.src j))) G.pc ∧ G.pp ≤ 120
def tc_GI (S : tc_S) : Prop := ∀ i, i < S.n → tc_own (S.T i) ∧ tc_prt S (S.T i)
/-- starts: what is there up to the last contour -/
def og_I (s : ou_ST) : Prop := ∃ st : Nat → Nat, st 0 = 0 ∧ st s.2.1 = s.1 ∧ (∀ z, z ≤ s.2.1 → s.2.2 3 z = nI (st z)) ∧ ∀ z, z < s.2.1 → st z + 3 ≤ st (z + 1)
theorem og_le {st : Nat → Nat} {C : Nat} (h : ∀ z, z < C → st z + 3 ≤ st (z + 1)) : ∀ m z, z + m ≤ C → st z + 3 * m ≤ st (z + m) := by
  intro m
  induction m with
  | zero => intro z _; exact Nat.le_refl _
  | succ m ih =>
    intro z hz
    have h1 := ih z (by omega)
    have h2 := h (z + m) (by omega)
    rw [show z + (m + 1) = z + m + 1 by omega]
    omega
theorem tw_ac1_3 (X Y O : Nat → Int32) (C : Nat) : ∀ m i p A, tw_ac1 X Y O C m i p A 3 = A 3 := by
  intro m
  induction m with
  | zero => intro i p A; rfl
  | succ m ih => intro i p A; rw [tw_ac1, ih]; rfl
theorem tw_tas_3 (t : Nat) (dx dy : Int32) : ∀ m k A, tw_tas t dx dy m k A 3 = A 3 := by
  intro m
  induction m with
  | zero => intro k A; rfl
  | succ m ih => intro k A; rw [tw_tas, ih]; rfl
theorem tw_rev_3 (S : Nat → Nat) : ∀ m c A, tw_rev S m c A 3 = A 3 := by
  intro m
  induction m with
  | zero => intro c A; rfl
  | succ m ih => intro c A; rw [tw_rev, ih, tw_rev1_3]
theorem tw_ac_I (X Y O : Nat → Int32) (e : Nat → Nat) : ∀ m c i p C A, (0 < m → i + 3 ≤ e c) → (∀ z, c ≤ z → z + 1 < c + m → e z + 3 ≤ e (z + 1)) → og_I (p, C, A) → og_I (tw_ac X Y O e m c i p C A) ∧ (tw_ac X Y O e m c i p C A).2.1 = C + m ∧ (m = 0 → (tw_ac X Y O e m c i p C A).1 = p) ∧ (0 < m → (tw_ac X Y O e m c i p C A).1 + i = p + e (c + m - 1)) := by
  intro m
  induction m with
  | zero => intro c i p C A _ _ h; exact ⟨h, rfl, fun _ => rfl, fun h => absurd h (Nat.lt_irrefl _)⟩
  | succ m ih =>
    intro c i p C A h0 h1 hI
    have hic := h0 (Nat.succ_pos _)
    obtain ⟨st, s0, s1, s2, s3⟩ := hI
    have hI2 : og_I (p + (e c - i), C + 1, va_up (tw_ac1 X Y O C (e c - i) i p A) 3 (upd (tw_ac1 X Y O C (e c - i) i p A 3) (C + 1) (nI (p + (e c - i))))) := by
      refine ⟨fun z => if z = C + 1 then p + (e c - i) else st z, ?_, if_pos rfl, fun z hz => ?_, fun z hz => ?_⟩
      · exact (if_neg (by omega)).trans s0
      · show va_up (tw_ac1 X Y O C (e c - i) i p A) 3 (upd (tw_ac1 X Y O C (e c - i) i p A 3) (C + 1) (nI (p + (e c - i)))) 3 z = _
        rw [va_up_self, tw_ac1_3]
        show _ = nI (if z = C + 1 then p + (e c - i) else st z)
        by_cases hzC : z = C + 1
        · rw [if_pos hzC, hzC]
          exact if_pos rfl
        · rw [if_neg hzC]
          refine (if_neg hzC).trans (s2 z ?_)
          have hz2 : z ≤ C + 1 := hz
          show z ≤ C
          omega
      · have hz2 : z < C + 1 := hz
        have s1' : st C = p := s1
        show (if z = C + 1 then p + (e c - i) else st z) + 3 ≤ (if z + 1 = C + 1 then p + (e c - i) else st (z + 1))
        rw [if_neg (by omega)]
        by_cases hzC : z = C
        · rw [if_pos (by omega), hzC, s1']
          omega
        · rw [if_neg (by omega)]
          exact s3 z (show z < C by omega)
    obtain ⟨a1, a2, a3, a4⟩ := ih (c + 1) (e c) (p + (e c - i)) (C + 1) _ (fun hm => h1 c (Nat.le_refl _) (by omega)) (fun z hz hz2 => h1 z (by omega) (by omega)) hI2
    rw [tw_ac]
    refine ⟨a1, by rw [a2]; omega, fun h => absurd h (Nat.succ_ne_zero m), fun _ => ?_⟩
    rcases Nat.eq_zero_or_pos m with hm | hm
    · have := a3 hm
      rw [this]
      subst hm
      show p + (e c - i) + i = p + e (c + (0 + 1) - 1)
      rw [show c + (0 + 1) - 1 = c by omega]
      omega
    · have := a4 hm
      rw [show c + (m + 1) - 1 = c + 1 + m - 1 by omega]
      omega
/-- a glyph's own contours -/
def tw_acG (S : tc_S) (g : Nat) (s : ou_ST) : ou_ST := tw_ac (tw_X (nI S.mm) S.u S.w (S.T g).X) (tw_X (nI S.mm) S.u S.w (S.T g).Y) (S.T g).O (tc_e (S.T g)) (S.T g).ct 0 0 s.1 s.2.1 s.2.2
theorem tw_acG_I {S : tc_S} {g : Nat} {s : ou_ST} (hG : tc_own (S.T g)) (h : og_I s) : og_I (tw_acG S g s) ∧ (tw_acG S g s).1 = s.1 + (S.T g).cp ∧ (tw_acG S g s).2.1 = s.2.1 + (S.T g).ct := by
  obtain ⟨g1, g2, g3, g4, g5, g6, g7⟩ := hG
  obtain ⟨a1, a2, a3, a4⟩ := tw_ac_I (tw_X (nI S.mm) S.u S.w (S.T g).X) (tw_X (nI S.mm) S.u S.w (S.T g).Y) (S.T g).O (tc_e (S.T g)) (S.T g).ct 0 0 s.1 s.2.1 s.2.2 (fun h => by have := g6 h; omega) (fun z _ hz => g7 z (by omega)) h
  refine ⟨a1, ?_, a2⟩
  show (tw_ac _ _ _ _ _ _ _ _ _ _).1 = _
  rcases Nat.eq_zero_or_pos (S.T g).ct with hm | hm
  · rw [a3 hm, g4 hm]; rfl
  · have h1 := a4 hm
    have h2 := g5 ((S.T g).ct - 1) (by omega)
    rw [show 0 + (S.T g).ct - 1 = (S.T g).ct - 1 by omega, h2] at h1
    omega
/-- part j has been gathered behind p points and c contours: it is turned and shifted -/
def tw_one (G : tc_G) (j p c : Nat) (s : ou_ST) : ou_ST :=
  (s.1, s.2.1, if G.tu j < 4 then tw_tas (G.tu j) (G.dx j) (G.dy j) (s.1 - p) p s.2.2 else tw_rev (fun z => (s.2.2 3 z).toNatClampNeg) (s.2.1 - c) c (tw_tas (G.tu j) (G.dx j) (G.dy j) (s.1 - p) p s.2.2))
theorem tw_one_I {G : tc_G} {j p c : Nat} {s : ou_ST} (h : og_I s) : og_I (tw_one G j p c s) := by
  obtain ⟨st, s0, s1, s2, s3⟩ := h
  refine ⟨st, s0, s1, fun z hz => ?_, s3⟩
  rw [← s2 z hz]
  unfold tw_one
  show (if G.tu j < 4 then _ else _ : Nat → Nat → Int32) 3 z = _
  split
  · rw [tw_tas_3]
  · rw [tw_rev_3, tw_tas_3]
def tw_parts (rc : Nat → ou_ST → ou_ST) (G : tc_G) : Nat → Nat → ou_ST → ou_ST
  | 0, _, s => s
  | m + 1, j, s => tw_parts rc G m (j + 1) (tw_one G j s.1 s.2.1 (rc (G.src j) s))
theorem tw_parts_I {rc : Nat → ou_ST → ou_ST} {G : tc_G} {w1 w2 : Nat → Nat} (hr : ∀ j, j < G.pc → ∀ s, og_I s → og_I (rc (G.src j) s) ∧ (rc (G.src j) s).1 = s.1 + w1 j ∧ (rc (G.src j) s).2.1 = s.2.1 + w2 j) : ∀ m j s, j + m = G.pc → og_I s → og_I (tw_parts rc G m j s) ∧ (tw_parts rc G m j s).1 + tc_sum w1 j = s.1 + tc_sum w1 G.pc ∧ (tw_parts rc G m j s).2.1 + tc_sum w2 j = s.2.1 + tc_sum w2 G.pc := by
  intro m
  induction m with
  | zero => intro j s hj h; rw [show j = G.pc from hj]; exact ⟨h, rfl, rfl⟩
  | succ m ih =>
    intro j s hj h
    obtain ⟨r1, r2, r3⟩ := hr j (by omega) s h
    obtain ⟨a1, a2, a3⟩ := ih (j + 1) (tw_one G j s.1 s.2.1 (rc (G.src j) s)) (by omega) (tw_one_I r1)
    have b2 : (tw_one G j s.1 s.2.1 (rc (G.src j) s)).1 = s.1 + w1 j := r2
    have b3 : (tw_one G j s.1 s.2.1 (rc (G.src j) s)).2.1 = s.2.1 + w2 j := r3
    rw [b2] at a2
    rw [b3] at a3
    have c2 : tc_sum w1 (j + 1) = tc_sum w1 j + w1 j := rfl
    have c3 : tc_sum w2 (j + 1) = tc_sum w2 j + w2 j := rfl
    rw [tw_parts]
    exact ⟨a1, by omega, by omega⟩
/-- glyph g with all its parts, k levels deep at most -/
def tw_gat (S : tc_S) : Nat → Nat → ou_ST → ou_ST
  | 0, g, s => tw_acG S g s
  | k + 1, g, s => tw_parts (tw_gat S k) (S.T g) (S.T g).pc 0 (tw_acG S g s)
theorem tc_pc0 {S : tc_S} {G : tc_G} (h : tc_prt S G) (h0 : G.dp = 0) : G.pc = 0 := by
  rcases Nat.eq_zero_or_pos G.pc with h9 | h9
  · exact h9
  · have := (h.2.1 0 h9).2.1
    omega
theorem tw_gat_I {S : tc_S} (hG : tc_GI S) : ∀ k g s, g < S.n → (S.T g).dp ≤ k → og_I s → og_I (tw_gat S k g s) ∧ (tw_gat S k g s).1 = s.1 + tc_op (S.T g) ∧ (tw_gat S k g s).2.1 = s.2.1 + tc_oc (S.T g) := by
  intro k
  induction k with
  | zero =>
    intro g s hg hd h
    obtain ⟨g1, g2⟩ := hG g hg
    obtain ⟨a1, a2, a3⟩ := tw_acG_I g1 h
    have hp := tc_pc0 g2 (by omega)
    have e1 := g2.2.2.1
    have e2 := g2.2.2.2.1
    rw [hp] at e1 e2
    refine ⟨a1, ?_, ?_⟩
    · rw [tw_gat, a2, tc_op, e1]; rfl
    · rw [tw_gat, a3, tc_oc, e2]; rfl
  | succ k ih =>
    intro g s hg hd h
    obtain ⟨g1, g2⟩ := hG g hg
    obtain ⟨a1, a2, a3⟩ := tw_acG_I g1 h
    obtain ⟨p1, p2, p3, p4, p5⟩ := g2
    obtain ⟨b1, b2, b3⟩ := tw_parts_I (rc := tw_gat S k) (G := S.T g) (w1 := fun j => tc_op (S.T ((S.T g).src j))) (w2 := fun j => tc_oc (S.T ((S.T g).src j))) (fun j hj s hs => ih ((S.T g).src j) s (p2 j hj).1 (by have := (p2 j hj).2.1; omega) hs) (S.T g).pc 0 (tw_acG S g s) (by omega) a1
    rw [tw_gat]
    have z1 : ∀ w : Nat → Nat, tc_sum w 0 = 0 := fun _ => rfl
    rw [z1, a2, ← p3] at b2
    rw [z1, a3, ← p4] at b3
    unfold tc_op tc_oc
    exact ⟨b1, by omega, by omega⟩
/-- starts that were there stay -/
def og_K (s t : ou_ST) : Prop := s.2.1 ≤ t.2.1 ∧ ∀ z, z ≤ s.2.1 → t.2.2 3 z = s.2.2 3 z
theorem og_K.tr {s t u : ou_ST} (h : og_K s t) (h2 : og_K t u) : og_K s u := ⟨Nat.le_trans h.1 h2.1, fun z hz => (h2.2 z (Nat.le_trans hz h.1)).trans (h.2 z hz)⟩
theorem tw_ac_K (X Y O : Nat → Int32) (e : Nat → Nat) : ∀ m c i p C A, og_K (p, C, A) (tw_ac X Y O e m c i p C A) := by
  intro m
  induction m with
  | zero => intro c i p C A; exact ⟨Nat.le_refl _, fun _ _ => rfl⟩
  | succ m ih =>
    intro c i p C A
    rw [tw_ac]
    refine og_K.tr ⟨Nat.le_succ C, fun z hz => ?_⟩ (ih (c + 1) (e c) (p + (e c - i)) (C + 1) _)
    have hz2 : z ≤ C := hz
    show va_up (tw_ac1 X Y O C (e c - i) i p A) 3 (upd (tw_ac1 X Y O C (e c - i) i p A 3) (C + 1) (nI (p + (e c - i)))) 3 z = _
    rw [va_up_self, tw_ac1_3]
    exact if_neg (by omega)
theorem tw_one_K {G : tc_G} {j p c : Nat} {s : ou_ST} : og_K s (tw_one G j p c s) := by
  refine ⟨Nat.le_refl _, fun z _ => ?_⟩
  unfold tw_one
  show (if G.tu j < 4 then _ else _ : Nat → Nat → Int32) 3 z = _
  split
  · rw [tw_tas_3]
  · rw [tw_rev_3, tw_tas_3]
theorem tw_parts_K {rc : Nat → ou_ST → ou_ST} {G : tc_G} (hr : ∀ g s, og_K s (rc g s)) : ∀ m j s, og_K s (tw_parts rc G m j s) := by
  intro m
  induction m with
  | zero => intro j s; exact ⟨Nat.le_refl _, fun _ _ => rfl⟩
  | succ m ih => intro j s; rw [tw_parts]; exact ((hr _ s).tr tw_one_K).tr (ih _ _)
theorem tw_gat_K {S : tc_S} : ∀ k g s, og_K s (tw_gat S k g s) := by
  intro k
  induction k with
  | zero => intro g s; exact tw_ac_K _ _ _ _ _ _ _ _ _ _
  | succ k ih => intro g s; rw [tw_gat]; exact og_K.tr (tw_ac_K _ _ _ _ _ _ _ _ _ _) (tw_parts_K (fun g s => ih g s) _ _ _)
