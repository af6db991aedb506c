/-! outlines as lists: what the class gathers -/
def oownG (S : tc_S) (g : Nat) : oC := oown (tw_X (nI S.mm) S.u S.w (S.T g).X) (tw_X (nI S.mm) S.u S.w (S.T g).Y) (S.T g).O (tc_e (S.T g)) (S.T g).ct 0 0
def oparts (rc : Nat → oC) (G : tc_G) : Nat → Nat → oC
  | 0, _ => []
  | m + 1, j => (rc (G.src j)).map (tpc (G.tu j) (G.dx j) (G.dy j)) ++ oparts rc G m (j + 1)
def oL (S : tc_S) : Nat → Nat → oC
  | 0, g => oownG S g
  | k + 1, g => oownG S g ++ oparts (oL S k) (S.T g) (S.T g).pc 0
def oGood (L : oC) : Prop := ∀ l ∈ L, 3 ≤ l.length ∧ ∀ q ∈ l, vp_nar .boolean q.2.2 = q.2.2
theorem oGood_app {L1 L2 : oC} (h1 : oGood L1) (h2 : oGood L2) : oGood (L1 ++ L2) := fun l hl => by
  rcases List.mem_append.mp hl with h | h
  · exact h1 l h
  · exact h2 l h
theorem oGood_tpc {L : oC} (h : oGood L) (t : Nat) (dx dy : Int32) : oGood (L.map (tpc t dx dy)) := fun l hl => by
  obtain ⟨l0, h0, e⟩ := List.mem_map.mp hl
  obtain ⟨a, b⟩ := h l0 h0
  rw [← e]
  refine ⟨by rw [tpc_len]; exact a, fun q hq => ?_⟩
  have hq2 : q ∈ l0.map (tpp t dx dy) := by
    unfold tpc at hq
    by_cases c : t < 4
    · rw [if_pos c] at hq; exact hq
    · rw [if_neg c] at hq; exact List.mem_reverse.mp hq
  obtain ⟨q0, h1, e1⟩ := List.mem_map.mp hq2
  rw [← e1]
  exact b q0 h1
theorem rp_nar {A : Nat → Nat → Int32} : ∀ {L : oC} {p C : Nat}, oGood L → rp A p C L → ∀ z, p ≤ z → z < p + olen L → vp_nar .boolean (A 2 z) = A 2 z
  | [], p, C, _, _, z, h1, h2 => by have e : olen ([] : oC) = 0 := rfl; omega
  | l :: L, p, C, hG, h, z, h1, h2 => by
    have e : olen (l :: L) = l.length + olen L := rfl
    by_cases c : z < p + l.length
    · obtain ⟨i, hi⟩ : ∃ i, z = p + i := ⟨z - p, by omega⟩
      subst hi
      have hl : i < l.length := by omega
      have hq := List.getElem?_eq_getElem hl
      obtain ⟨_, _, a2, _⟩ := h.2.1 i _ hq
      rw [a2]
      exact (hG l (List.mem_cons_self ..)).2 _ (List.getElem_mem hl)
    · exact rp_nar (fun l2 h3 => hG l2 (List.mem_cons_of_mem _ h3)) h.2.2 z (by omega) (by omega)
theorem oseg_mem (X Y O : Nat → Int32) : ∀ m i q, q ∈ oseg X Y O m i → ∃ j, j < m ∧ q.2.2 = O (i + j)
  | 0, i, q, h => by cases h
  | m + 1, i, q, h => by
    rcases List.mem_cons.mp h with h | h
    · exact ⟨0, by omega, by rw [h]; rfl⟩
    · obtain ⟨j, h1, h2⟩ := oseg_mem X Y O m (i + 1) q h
      exact ⟨j + 1, by omega, by rw [h2, show i + 1 + j = i + (j + 1) by omega]⟩
theorem oown_good {X Y O : Nat → Int32} {e : Nat → Nat} (hO : ∀ i, i < 40 → vp_nar .boolean (O i) = O i) : ∀ m c i, (∀ z, c ≤ z → z < c + m → e z ≤ 40) → (0 < m → i + 3 ≤ e c) → (∀ z, c ≤ z → z + 1 < c + m → e z + 3 ≤ e (z + 1)) → oGood (oown X Y O e m c i) ∧ (oown X Y O e m c i).length = m ∧ (0 < m → olen (oown X Y O e m c i) + i = e (c + m - 1)) := by
  intro m
  induction m with
  | zero => intro c i _ _ _; exact ⟨(fun l hl => by cases hl), rfl, fun h => by omega⟩
  | succ m ih =>
    intro c i he hi hm
    have hic := hi (Nat.succ_pos _)
    have hec := he c (Nat.le_refl _) (by omega)
    obtain ⟨a, b, d⟩ := ih (c + 1) (e c) (fun z q1 q2 => he z (by omega) (by omega)) (fun h0 => hm c (Nat.le_refl _) (by omega)) (fun z q1 q2 => hm z (by omega) (by omega))
    have eq : oown X Y O e (m + 1) c i = oseg X Y O (e c - i) i :: oown X Y O e m (c + 1) (e c) := rfl
    rw [eq]
    refine ⟨fun l hl => ?_, ?_, fun _ => ?_⟩
    · rcases List.mem_cons.mp hl with h | h
      · rw [h, oseg_len]
        refine ⟨by omega, fun q hq => ?_⟩
        obtain ⟨j, h1, h2⟩ := oseg_mem _ _ _ _ _ _ hq
        rw [h2]
        exact hO _ (by omega)
      · exact a l h
    · rw [List.length_cons, b]
    · show (oseg X Y O (e c - i) i).length + olen _ + i = _
      rw [oseg_len]
      rcases Nat.eq_zero_or_pos m with hm0 | hm0
      · subst hm0
        rw [show c + (0 + 1) - 1 = c by omega]
        show e c - i + 0 + i = e c
        omega
      · have := d hm0
        rw [show c + (m + 1) - 1 = c + 1 + m - 1 by omega]
        omega
theorem oownG_i {S : tc_S} {g : Nat} (hG : tc_own (S.T g)) (hO : ∀ i, i < 40 → vp_nar .boolean ((S.T g).O i) = (S.T g).O i) : oGood (oownG S g) ∧ (oownG S g).length = (S.T g).ct ∧ olen (oownG S g) = (S.T g).cp := by
  obtain ⟨g1, g2, g3, g4, g5, g6, g7⟩ := hG
  obtain ⟨a, b, c⟩ := oown_good (X := tw_X (nI S.mm) S.u S.w (S.T g).X) (Y := tw_X (nI S.mm) S.u S.w (S.T g).Y) hO (e := tc_e (S.T g)) (S.T g).ct 0 0 (fun z _ hz => by have := (g3 z (by omega)).2; omega) (fun h => by have := g6 h; omega) (fun z _ hz => g7 z (by omega))
  refine ⟨a, b, ?_⟩
  rcases Nat.eq_zero_or_pos (S.T g).ct with hm | hm
  · rw [g4 hm]
    show olen (oown _ _ _ _ (S.T g).ct 0 0) = 0
    rw [hm]
    rfl
  · have h1 := c hm
    have h2 := g5 ((S.T g).ct - 1) (by omega)
    rw [show 0 + (S.T g).ct - 1 = (S.T g).ct - 1 by omega, h2] at h1
    exact h1
def oOK (S : tc_S) : Prop := ∀ g, g < S.n → ∀ i, i < 40 → vp_nar .boolean ((S.T g).O i) = (S.T g).O i
theorem oparts_i {rc : Nat → oC} {G : tc_G} {w1 w2 : Nat → Nat} (hr : ∀ j, j < G.pc → oGood (rc (G.src j)) ∧ olen (rc (G.src j)) = w1 j ∧ (rc (G.src j)).length = w2 j) : ∀ m j, j + m = G.pc → oGood (oparts rc G m j) ∧ olen (oparts rc G m j) + tc_sum w1 j = tc_sum w1 G.pc ∧ (oparts rc G m j).length + tc_sum w2 j = tc_sum w2 G.pc := by
  intro m
  induction m with
  | zero => intro j hj; rw [show j = G.pc from hj]; exact ⟨(fun l hl => by cases hl), Nat.zero_add _, Nat.zero_add _⟩
  | succ m ih =>
    intro j hj
    obtain ⟨a, b, c⟩ := ih (j + 1) (by omega)
    obtain ⟨r1, r2, r3⟩ := hr j (by omega)
    have c2 : tc_sum w1 (j + 1) = tc_sum w1 j + w1 j := rfl
    have c3 : tc_sum w2 (j + 1) = tc_sum w2 j + w2 j := rfl
    have eq : oparts rc G (m + 1) j = (rc (G.src j)).map (tpc (G.tu j) (G.dx j) (G.dy j)) ++ oparts rc G m (j + 1) := rfl
    rw [eq, olen_app, olen_map (tpc_len _ _ _), List.length_append, List.length_map]
    exact ⟨oGood_app (oGood_tpc r1 _ _ _) a, by omega, by omega⟩
theorem oL_i {S : tc_S} (hG : tc_GI S) (hO : oOK S) : ∀ k g, g < S.n → (S.T g).dp ≤ k → oGood (oL S k g) ∧ olen (oL S k g) = tc_op (S.T g) ∧ (oL S k g).length = tc_oc (S.T g) := by
  intro k
  induction k with
  | zero =>
    intro g hg hd
    obtain ⟨g1, g2⟩ := hG g hg
    obtain ⟨a1, a2, a3⟩ := oownG_i g1 (hO g hg)
    have hp := tc_pc0 g2 (by omega)
    have e1 := g2.2.2.1
    have e2 := g2.2.2.2.1
    rw [hp] at e1 e2
    refine ⟨a1, ?_, ?_⟩
    · show olen (oownG S g) = _
      rw [a3, tc_op, e1]; rfl
    · show (oownG S g).length = _
      rw [a2, tc_oc, e2]; rfl
  | succ k ih =>
    intro g hg hd
    obtain ⟨g1, g2⟩ := hG g hg
    obtain ⟨a1, a2, a3⟩ := oownG_i g1 (hO g hg)
    obtain ⟨p1, p2, p3, p4, p5⟩ := g2
    obtain ⟨b1, b2, b3⟩ := oparts_i (rc := oL S k) (G := S.T g) (w1 := fun j => tc_op (S.T ((S.T g).src j))) (w2 := fun j => tc_oc (S.T ((S.T g).src j))) (fun j hj => ih ((S.T g).src j) (p2 j hj).1 (by have := (p2 j hj).2.1; omega)) (S.T g).pc 0 (by omega)
    have z1 : ∀ w : Nat → Nat, tc_sum w 0 = 0 := fun _ => rfl
    rw [z1, ← p3] at b2
    rw [z1, ← p4] at b3
    have eq : oL S (k + 1) g = oownG S g ++ oparts (oL S k) (S.T g) (S.T g).pc 0 := rfl
    rw [eq, olen_app, List.length_append, a3, a2]
    refine ⟨oGood_app a1 b1, ?_, ?_⟩
    · unfold tc_op; omega
    · unfold tc_oc; omega
theorem map_tpc {t : Nat} {dx dy : Int32} (L : oC) : (t < 4 → L.map (tpc t dx dy) = L.map (List.map (tpp t dx dy))) ∧ (¬ t < 4 → L.map (tpc t dx dy) = (L.map (List.map (tpp t dx dy))).map List.reverse) := by
  constructor
  · intro h
    exact List.map_congr_left (fun l _ => if_pos h)
  · intro h
    rw [List.map_map]
    exact List.map_congr_left (fun l _ => if_neg h)
theorem tw_one_l {G : tc_G} {j p C : Nat} {s : ou_ST} {L : oC} (h1 : s.1 = p + olen L) (h2 : s.2.1 = C + L.length) (hp : p + olen L ≤ 160) (hg : oGood L) (h : rp s.2.2 p C L) : rp (tw_one G j p C s).2.2 p C (L.map (tpc (G.tu j) (G.dx j) (G.dy j))) ∧ kp p C s.2.2 (tw_one G j p C s).2.2 := by
  obtain ⟨t0, t1, t2, t3, t4⟩ := tw_tas_i (G.tu j) (G.dx j) (G.dy j) (olen L) p s.2.2
  have eL : s.1 - p = olen L := by omega
  have eC : s.2.1 - C = L.length := by omega
  unfold tw_one
  rw [eL, eC]
  show rp (if G.tu j < 4 then _ else _) p C _ ∧ kp p C s.2.2 (if G.tu j < 4 then _ else _)
  have hm := rp_map (t := G.tu j) (dx := G.dx j) (dy := G.dy j) t3 t4 t2 (fun z q1 q2 => t0 z q1 q2) h
  have hk : kp p C s.2.2 (tw_tas (G.tu j) (G.dx j) (G.dy j) (olen L) p s.2.2) := ⟨fun z hz => ⟨(t1 z (Or.inl hz)).1, (t1 z (Or.inl hz)).2, by rw [t2], by rw [t4]⟩, fun z _ => by rw [t3]⟩
  have hnar := rp_nar hg h
  generalize tw_tas (G.tu j) (G.dx j) (G.dy j) (olen L) p s.2.2 = B at t2 t3 hm hk ⊢
  by_cases c : G.tu j < 4
  · rw [if_pos c, (map_tpc L).1 c]
    exact ⟨hm, hk⟩
  · rw [if_neg c, (map_tpc L).2 c]
    have hlm : olen (L.map (List.map (tpp (G.tu j) (G.dx j) (G.dy j)))) = olen L := olen_map (fun l => List.length_map _) L
    have hr := rp_rev (S := fun z => (s.2.2 3 z).toNatClampNeg) (L := L.map (List.map (tpp (G.tu j) (G.dx j) (G.dy j)))) (p := p) (C := C) (A := B) (by rw [hlm]; exact hp) (fun l hl => by
      obtain ⟨l0, h0, e⟩ := List.mem_map.mp hl
      rw [← e, List.length_map]
      have := (hg l0 h0).1
      omega) (fun z _ _ => by rw [t3]) (fun z q1 q2 => by rw [t2]; rw [hlm] at q2; exact hnar z q1 q2) hm
    rw [List.length_map] at hr
    exact ⟨hr.1, hk.tr hr.2.1 (Nat.le_refl _) (Nat.le_refl _)⟩
theorem tw_parts_l {rc : Nat → ou_ST → ou_ST} {rl : Nat → oC} {G : tc_G} {N : Nat} (hN : N ≤ 160) (hr : ∀ j, j < G.pc → ∀ p C (A : Nat → Nat → Int32), A 3 C = nI p → p + olen (rl (G.src j)) ≤ 160 → (rc (G.src j) (p, C, A)).1 = p + olen (rl (G.src j)) ∧ (rc (G.src j) (p, C, A)).2.1 = C + (rl (G.src j)).length ∧ rp (rc (G.src j) (p, C, A)).2.2 p C (rl (G.src j)) ∧ kp p C A (rc (G.src j) (p, C, A)).2.2) (hg : ∀ j, j < G.pc → oGood (rl (G.src j))) : ∀ m j p C (A : Nat → Nat → Int32), j + m = G.pc → A 3 C = nI p → p + olen (oparts rl G m j) ≤ N → (tw_parts rc G m j (p, C, A)).1 = p + olen (oparts rl G m j) ∧ (tw_parts rc G m j (p, C, A)).2.1 = C + (oparts rl G m j).length ∧ rp (tw_parts rc G m j (p, C, A)).2.2 p C (oparts rl G m j) ∧ kp p C A (tw_parts rc G m j (p, C, A)).2.2 := by
  intro m
  induction m with
  | zero => intro j p C A _ h _; exact ⟨rfl, rfl, h, fun z _ => ⟨rfl, rfl, rfl, rfl⟩, fun _ _ => rfl⟩
  | succ m ih =>
    intro j p C A hj h hb
    have eq : oparts rl G (m + 1) j = (rl (G.src j)).map (tpc (G.tu j) (G.dx j) (G.dy j)) ++ oparts rl G m (j + 1) := rfl
    have eol : olen ((rl (G.src j)).map (tpc (G.tu j) (G.dx j) (G.dy j))) = olen (rl (G.src j)) := olen_map (tpc_len _ _ _) _
    rw [eq, olen_app, eol] at hb
    obtain ⟨r1, r2, r3, r4⟩ := hr j (by omega) p C A h (by omega)
    rw [eq, olen_app, eol, List.length_append, List.length_map]
    rw [show tw_parts rc G (m + 1) j (p, C, A) = tw_parts rc G m (j + 1) (tw_one G j p C (rc (G.src j) (p, C, A))) from rfl]
    generalize rc (G.src j) (p, C, A) = s at r1 r2 r3 r4 ⊢
    obtain ⟨o1, o2⟩ := tw_one_l (G := G) (j := j) r1 r2 (by omega) (hg j (by omega)) r3
    have f1 : (tw_one G j p C s).1 = p + olen (rl (G.src j)) := r1
    have f2 : (tw_one G j p C s).2.1 = C + (rl (G.src j)).length := r2
    have hs : tw_one G j p C s = (p + olen (rl (G.src j)), C + (rl (G.src j)).length, (tw_one G j p C s).2.2) := by rw [← f1, ← f2]
    rw [hs]
    generalize (tw_one G j p C s).2.2 = B at o1 o2 ⊢
    have o3 := rp_end o1
    rw [List.length_map, eol] at o3
    obtain ⟨q1, q2, q3, q4⟩ := ih (j + 1) (p + olen (rl (G.src j))) (C + (rl (G.src j)).length) B (by omega) o3 (by omega)
    refine ⟨by rw [q1]; omega, by rw [q2]; omega, rp_app (rp_kp o1 q4 (by rw [eol]; exact Nat.le_refl _) (by rw [List.length_map]; exact Nat.le_refl _)) ?_, (r4.tr o2 (Nat.le_refl _) (Nat.le_refl _)).tr q4 (by omega) (by omega)⟩
    rw [eol, List.length_map]
    exact q3
/-- what the class gathers, behind p points and C contours -/
theorem tw_gat_l {S : tc_S} (hG : tc_GI S) (hO : oOK S) : ∀ k g p C (A : Nat → Nat → Int32), g < S.n → (S.T g).dp ≤ k → A 3 C = nI p → p + olen (oL S k g) ≤ 160 → (tw_gat S k g (p, C, A)).1 = p + olen (oL S k g) ∧ (tw_gat S k g (p, C, A)).2.1 = C + (oL S k g).length ∧ rp (tw_gat S k g (p, C, A)).2.2 p C (oL S k g) ∧ kp p C A (tw_gat S k g (p, C, A)).2.2 := by
  have hown : ∀ g p C (A : Nat → Nat → Int32), g < S.n → A 3 C = nI p → (tw_acG S g (p, C, A)).1 = p + olen (oownG S g) ∧ (tw_acG S g (p, C, A)).2.1 = C + (oownG S g).length ∧ rp (tw_acG S g (p, C, A)).2.2 p C (oownG S g) ∧ kp p C A (tw_acG S g (p, C, A)).2.2 := by
    intro g p C A hg h
    obtain ⟨g1, _⟩ := hG g hg
    obtain ⟨_, a2, _⟩ := oownG_i g1 (hO g hg)
    obtain ⟨f1, f2, f3, f4, f5, f6, f7⟩ := g1
    rw [a2]
    exact tw_ac_l (hO g hg) (S.T g).ct 0 0 p C A (fun z _ hz => by have := (f3 z (by omega)).2; omega) (fun _ => Nat.zero_le _) (fun z _ hz => by have := f7 z (by omega); omega) h
  intro k
  induction k with
  | zero => intro g p C A hg _ h _; exact hown g p C A hg h
  | succ k ih =>
    intro g p C A hg hd h hb
    have eq : oL S (k + 1) g = oownG S g ++ oparts (oL S k) (S.T g) (S.T g).pc 0 := rfl
    rw [eq, olen_app] at hb
    obtain ⟨a1, a2, a3, a4⟩ := hown g p C A hg h
    obtain ⟨_, g2⟩ := hG g hg
    obtain ⟨p1, p2, _, _, _⟩ := g2
    rw [eq, olen_app, List.length_append]
    rw [show tw_gat S (k + 1) g (p, C, A) = tw_parts (tw_gat S k) (S.T g) (S.T g).pc 0 (tw_acG S g (p, C, A)) from rfl]
    have hs : tw_acG S g (p, C, A) = (p + olen (oownG S g), C + (oownG S g).length, (tw_acG S g (p, C, A)).2.2) := by rw [← a1, ← a2]
    rw [hs]
    generalize (tw_acG S g (p, C, A)).2.2 = B at a3 a4 ⊢
    obtain ⟨q1, q2, q3, q4⟩ := tw_parts_l (rc := tw_gat S k) (rl := oL S k) (G := S.T g) (N := 160) (Nat.le_refl _) (fun j hj p C A h3 hp => ih ((S.T g).src j) p C A (p2 j hj).1 (by have := (p2 j hj).2.1; omega) h3 hp) (fun j hj => (oL_i hG hO k _ (p2 j hj).1 (by have := (p2 j hj).2.1; omega)).1) (S.T g).pc 0 (p + olen (oownG S g)) (C + (oownG S g).length) B (by omega) (rp_end a3) (by omega)
    exact ⟨by rw [q1]; omega, by rw [q2]; omega, rp_app (rp_kp a3 q4 (Nat.le_refl _) (Nat.le_refl _)) q3, a4.tr q4 (by omega) (by omega)⟩
