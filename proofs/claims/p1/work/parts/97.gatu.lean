/-! an outline gathered: no contour is longer than 40 points -/
def og_U (s : ou_ST) : Prop := ∀ z, z < s.2.1 → (s.2.2 3 (z + 1)).toNatClampNeg ≤ (s.2.2 3 z).toNatClampNeg + 40
theorem tw_ac_U (X Y O : Nat → Int32) (e : Nat → Nat) : ∀ m c i p C A, (∀ z, c ≤ z → z < c + m → e z ≤ 40) → (0 < m → i ≤ e c) → (∀ z, c ≤ z → z + 1 < c + m → e z ≤ e (z + 1)) → i ≤ 40 → p + (40 - i) ≤ 300 → A 3 C = nI p → og_U (p, C, A) → og_U (tw_ac X Y O e m c i p C A) := by
  intro m
  induction m with
  | zero => intro c i p C A _ _ _ _ _ _ h; exact h
  | succ m ih =>
    intro c i p C A h40 h0 h1 hi hp hA hU
    have hic := h0 (Nat.succ_pos _)
    have he := h40 c (Nat.le_refl _) (by omega)
    rw [tw_ac]
    have hrow : ∀ z, va_up (tw_ac1 X Y O C (e c - i) i p A) 3 (upd (tw_ac1 X Y O C (e c - i) i p A 3) (C + 1) (nI (p + (e c - i)))) 3 z = if z = C + 1 then nI (p + (e c - i)) else A 3 z := fun z => by
      rw [va_up_self, tw_ac1_3]; rfl
    refine ih (c + 1) (e c) (p + (e c - i)) (C + 1) _ (fun z hz hz2 => h40 z (by omega) (by omega)) (fun hm => h1 c (Nat.le_refl _) (by omega)) (fun z hz hz2 => h1 z (by omega) (by omega)) he (by omega) ?_ ?_
    · rw [hrow, if_pos rfl]
    · intro z hz
      have hz2 : z < C + 1 := hz
      show (va_up (tw_ac1 X Y O C (e c - i) i p A) 3 (upd (tw_ac1 X Y O C (e c - i) i p A 3) (C + 1) (nI (p + (e c - i)))) 3 (z + 1)).toNatClampNeg ≤ (va_up (tw_ac1 X Y O C (e c - i) i p A) 3 (upd (tw_ac1 X Y O C (e c - i) i p A 3) (C + 1) (nI (p + (e c - i)))) 3 z).toNatClampNeg + 40
      rw [hrow, hrow, if_neg (show ¬ z = C + 1 by omega)]
      by_cases hzC : z = C
      · rw [if_pos (by omega), hzC, hA, nI_clamp (by omega), nI_clamp (by omega)]
        omega
      · rw [if_neg (by omega)]
        exact hU z (show z < C by omega)
theorem tw_acG_U {S : tc_S} {g : Nat} {s : ou_ST} (hG : tc_own (S.T g)) (h : og_I s) (hp : s.1 ≤ 160) (hU : og_U s) : og_U (tw_acG S g s) := by
  obtain ⟨g1, g2, g3, g4, g5, g6, g7⟩ := hG
  obtain ⟨st, s0, s1, s2, s3⟩ := h
  refine tw_ac_U _ _ _ _ (S.T g).ct 0 0 s.1 s.2.1 s.2.2 (fun z _ hz => ?_) (fun _ => Nat.zero_le _) (fun z _ hz => ?_) (by omega) (by omega) ?_ hU
  · have := (g3 z (by omega)).2
    omega
  · have := g7 z (by omega)
    omega
  · rw [s2 _ (Nat.le_refl _), s1]
theorem tw_one_U {G : tc_G} {j p c : Nat} {s : ou_ST} (h : og_U s) : og_U (tw_one G j p c s) := by
  have e : ∀ z, (tw_one G j p c s).2.2 3 z = s.2.2 3 z := fun z => by
    unfold tw_one
    show (if G.tu j < 4 then _ else _ : Nat → Nat → Int32) 3 z = _
    split
    · rw [tw_tas_3]
    · rw [tw_rev_3, tw_tas_3]
  intro z hz
  rw [e, e]
  exact h z hz
theorem tw_parts_U {rc : Nat → ou_ST → ou_ST} {G : tc_G} {w1 w2 : Nat → Nat} (hr : ∀ j, j < G.pc → ∀ s, og_I s → og_I (rc (G.src j) s) ∧ (rc (G.src j) s).1 = s.1 + w1 j ∧ (rc (G.src j) s).2.1 = s.2.1 + w2 j) (hu : ∀ j, j < G.pc → ∀ s, og_I s → og_U s → s.1 + w1 j ≤ 160 → og_U (rc (G.src j) s)) : ∀ m j s, j + m = G.pc → og_I s → og_U s → s.1 + tc_sum w1 G.pc ≤ 160 + tc_sum w1 j → og_U (tw_parts rc G m j s) := by
  intro m
  induction m with
  | zero => intro j s _ _ h _; exact h
  | succ m ih =>
    intro j s hj h hU hb
    obtain ⟨r1, r2, r3⟩ := hr j (by omega) s h
    have c2 : tc_sum w1 (j + 1) = tc_sum w1 j + w1 j := rfl
    have hle : tc_sum w1 (j + 1) ≤ tc_sum w1 G.pc := tc_sum_le w1 (by omega)
    rw [tw_parts]
    refine ih (j + 1) _ (by omega) (tw_one_I r1) (tw_one_U (hu j (by omega) s h hU (by omega))) ?_
    show (rc (G.src j) s).1 + tc_sum w1 G.pc ≤ 160 + tc_sum w1 (j + 1)
    omega
theorem tw_gat_U {S : tc_S} (hG : tc_GI S) : ∀ k g s, g < S.n → (S.T g).dp ≤ k → og_I s → og_U s → s.1 + tc_op (S.T g) ≤ 160 → og_U (tw_gat S k g s) := by
  intro k
  induction k with
  | zero => intro g s hg _ h hU hp; exact tw_acG_U (hG g hg).1 h (by omega) hU
  | succ k ih =>
    intro g s hg hd h hU hp
    obtain ⟨g1, g2⟩ := hG g hg
    obtain ⟨a1, a2, a3⟩ := tw_acG_I g1 h
    obtain ⟨p1, p2, p3, p4, p5⟩ := g2
    rw [tw_gat]
    refine tw_parts_U (rc := tw_gat S k) (G := S.T g) (w1 := fun j => tc_op (S.T ((S.T g).src j))) (w2 := fun j => tc_oc (S.T ((S.T g).src j))) (fun j hj s hs => tw_gat_I hG k ((S.T g).src j) s (p2 j hj).1 (by have := (p2 j hj).2.1; omega) hs) (fun j hj s hs hu hb => ih ((S.T g).src j) s (p2 j hj).1 (by have := (p2 j hj).2.1; omega) hs hu hb) (S.T g).pc 0 (tw_acG S g s) (by omega) a1 (tw_acG_U g1 h (by omega) hU) ?_
    have z0 : tc_sum (fun j => tc_op (S.T ((S.T g).src j))) 0 = 0 := rfl
    rw [z0, a2, ← p3]
    unfold tc_op at hp
    omega
/-- what a glyph's outline is, once gathered -/
theorem tc_out_I {S : tc_S} (hG : tc_GI S) {i : Nat} (hi : i < S.n) (hd : (S.T i).dp ≤ 4) (h0 : S.oA 3 0 = nI 0) : og_I (tw_gat S 4 i (0, 0, S.oA)) ∧ og_U (tw_gat S 4 i (0, 0, S.oA)) ∧ (tw_gat S 4 i (0, 0, S.oA)).1 = tc_op (S.T i) ∧ (tw_gat S 4 i (0, 0, S.oA)).2.1 = tc_oc (S.T i) ∧ tc_op (S.T i) ≤ 160 ∧ 3 * tc_oc (S.T i) ≤ tc_op (S.T i) := by
  have hI : og_I (0, 0, S.oA) := ⟨fun _ => 0, rfl, rfl, fun z hz => by rw [Nat.le_zero.mp hz]; exact h0, fun z hz => absurd hz (Nat.not_lt_zero z)⟩
  have hz := hG i hi
  have z1 := hz.1.2.1
  have z2 := hz.2.2.2.2.2
  have h160 : tc_op (S.T i) ≤ 160 := by unfold tc_op; omega
  obtain ⟨a1, a2, a3⟩ := tw_gat_I hG 4 i (0, 0, S.oA) hi hd hI
  have b2 : (tw_gat S 4 i (0, 0, S.oA)).1 = tc_op (S.T i) := a2.trans (Nat.zero_add _)
  have b3 : (tw_gat S 4 i (0, 0, S.oA)).2.1 = tc_oc (S.T i) := a3.trans (Nat.zero_add _)
  refine ⟨a1, tw_gat_U hG 4 i (0, 0, S.oA) hi hd hI (fun z hz => absurd hz (Nat.not_lt_zero z)) (show 0 + tc_op (S.T i) ≤ 160 by omega), b2, b3, h160, ?_⟩
  obtain ⟨st, s0, s1, s2, s3⟩ := a1
  have h8 := og_le s3 (tw_gat S 4 i (0, 0, S.oA)).2.1 0 (by omega)
  have h7 : st (0 + (tw_gat S 4 i (0, 0, S.oA)).2.1) = (tw_gat S 4 i (0, 0, S.oA)).1 := by rw [Nat.zero_add]; exact s1
  rw [h7, s0, b2, b3] at h8
  omega
