/-! both states: close, component, glyph -/
/-- close -/
theorem q_close {S : tc_S} {J : Nat → Int32} {A : Nat → Nat → Int32} {R : Nat → Int64} (h : RR S J A R) {i : Nat} (hi : i < S.n) : (tc_close i S).1 = bI (tm_close J A (nI i)).1 ∧ RR (tc_close i S).2 (tm_J0 J) (tm_close J A (nI i)).2 R := by
  have hn := h.2.1.1
  have hG : tm_isG J (nI i) = true := (tm_isG_nI h.2.1.1 h.2.1.2.1 _).mpr ⟨i, hi, rfl⟩
  obtain ⟨h1, ⟨g1, g2, g3, g4⟩, h3⟩ := id h
  obtain ⟨r1, r2, r3, r4, r5⟩ := g3 i hi
  obtain ⟨p1, p2, p3, p4, p5⟩ := r1
  obtain ⟨n5, n6, n7, n9, n10, n11, n12⟩ := r2
  obtain ⟨o1, o2, o3⟩ := r5
  have h3c := own_3 o1
  unfold tc_close tm_close
  rw [if_neg (c := bI (tm_isG (tm_J0 J) (nI i)) = 0) (by rw [tm_isG_J0, hG]; decide), nI_clamp (by omega), n9, n5, n6, n7, n11]
  have hd : nI (S.T i).pt - nI (S.T i).cp = nI ((S.T i).pt - (S.T i).cp) := nI_subI p2
  rw [hd]
  by_cases c : (S.T i).lk = false ∧ (S.T i).cp + 3 ≤ (S.T i).pt
  rotate_left
  · rw [if_neg c]
    by_cases c1 : (S.T i).lk = false
    · rw [if_pos (by rw [c1]; rfl), if_neg (by rw [show kI 3 = nI 3 from rfl, nI_leI (by omega) (by omega)]; intro z; exact c ⟨c1, by omega⟩)]
      exact ⟨rfl, h⟩
    · rw [if_neg (by rw [bI_iff]; exact c1)]
      exact ⟨rfl, h⟩
  rw [if_pos c, if_pos (by rw [c.1]; rfl), if_pos (by rw [show kI 3 = nI 3 from rfl, nI_leI (by omega) (by omega)]; omega)]
  refine ⟨rfl, h1, ⟨g1, g2, fun g hg => ?_, fun g q1 q2 => ?_⟩, h3⟩
  · obtain ⟨s1, s2, s3, s4, s5⟩ := g3 g hg
    obtain ⟨S2, hS2⟩ : ∃ S2, S2 = (tc_S_mk S.mm S.u S.w S.n (va_up S.T i (tc_G_mk (S.T i).X (S.T i).Y (S.T i).W (S.T i).O (upd (S.T i).E (S.T i).ct (nI (S.T i).pt)) (S.T i).pt ((S.T i).ct + 1) (S.T i).dp (S.T i).lk ((S.T i).pt) (S.T i).pc (S.T i).pp (S.T i).ps (S.T i).src (S.T i).dx (S.T i).dy (S.T i).tu)) S.oc S.op S.oA S.pz S.px S.py S.hn S.hy S.cs S.ca S.ce S.kp S.kl S.kr S.kc S.kL S.kR S.kO S.row S.rs S.ts S.rn S.pu S.tx S.R) := ⟨_, rfl⟩
    have hfree : ∀ {G : tc_G}, rGi S G → rGi S2 G := fun {G} hG => rGi_free (i := i) (S := S) (S2 := S2) (G2 := tc_G_mk (S.T i).X (S.T i).Y (S.T i).W (S.T i).O (upd (S.T i).E (S.T i).ct (nI (S.T i).pt)) (S.T i).pt ((S.T i).ct + 1) (S.T i).dp (S.T i).lk ((S.T i).pt) (S.T i).pc (S.T i).pp (S.T i).ps (S.T i).src (S.T i).dx (S.T i).dy (S.T i).tu) (by rw [hS2]; exact Nat.le_refl _) (by rw [hS2]; rfl) c.1 hG
    rw [← hS2]
    show rGp S2.mm g (S2.T g) (A 3) (A 4) ∧ rGn g (S2.T g) (A 5) (upd (A 6) (nI i).toNatClampNeg (nI (S.T i).pt)) (upd (A 7) (nI i).toNatClampNeg (nI (S.T i).ct + kI 1)) (A 9) (A 10) (upd (A 11) (nI i).toNatClampNeg (nI (tc_op (S.T i)) + nI ((S.T i).pt - (S.T i).cp))) (A 12) ∧ rGc g (S2.T g) (A 13) (A 14) (A 15) (A 16) ∧ rGw S2.mm g (S2.T g) (A 8) ∧ rGi S2 (S2.T g)
    rw [nI_clamp (by omega)]
    by_cases e : g = i
    · subst e
      have hTg : S2.T g = tc_G_mk (S.T g).X (S.T g).Y (S.T g).W (S.T g).O (upd (S.T g).E (S.T g).ct (nI (S.T g).pt)) (S.T g).pt ((S.T g).ct + 1) (S.T g).dp (S.T g).lk ((S.T g).pt) (S.T g).pc (S.T g).pp (S.T g).ps (S.T g).src (S.T g).dx (S.T g).dy (S.T g).tu := by rw [hS2]; exact va_up_self _ _ _
      have hmm : S2.mm = S.mm := by rw [hS2]; rfl
      rw [hTg, hmm]
      have hi2 := hfree ⟨o1, o2, o3⟩
      have he : ∀ z, tc_e (tc_G_mk (S.T g).X (S.T g).Y (S.T g).W (S.T g).O (upd (S.T g).E (S.T g).ct (nI (S.T g).pt)) (S.T g).pt ((S.T g).ct + 1) (S.T g).dp (S.T g).lk ((S.T g).pt) (S.T g).pc (S.T g).pp (S.T g).ps (S.T g).src (S.T g).dx (S.T g).dy (S.T g).tu) z = if z = (S.T g).ct then (S.T g).pt else tc_e (S.T g) z := by
        intro z
        show (upd (S.T g).E (S.T g).ct (nI (S.T g).pt) z).toNatClampNeg = _
        unfold upd
        by_cases ez : z = (S.T g).ct
        · rw [if_pos ez, if_pos ez, nI_clamp (by omega)]
        · rw [if_neg ez, if_neg ez]; rfl
      obtain ⟨w1, w2, w3, w4, w5, w6, w7⟩ := o1
      refine ⟨⟨p1, Nat.le_refl _, p3, fun z hz => ?_, p5⟩, ⟨n5, if_pos rfl, ?_, n9, n10, ?_, n12⟩, r3, r4, ⟨?_, hi2.2.1, hi2.2.2.1, hi2.2.2.2⟩⟩
      · obtain ⟨cc, o, q1, q2, q3, q4, q5, q6⟩ := p4 z hz
        have hz2 : z < (S.T g).pt := hz
        refine ⟨cc, o, q1, ?_, q3, q4, fun z2 hz3 => ?_, fun z2 hz3 hz4 => ?_⟩
        · show cc ≤ (S.T g).ct + 1
          omega
        · rw [he, if_neg (by omega)]; exact q5 z2 hz3
        · have hz5 : z2 < (S.T g).ct + 1 := hz4
          rw [he]
          by_cases ez : z2 = (S.T g).ct
          · rw [if_pos ez]; exact hz2
          · rw [if_neg ez]; exact q6 z2 hz3 (by omega)
      · show upd (A 7) g (nI (S.T g).ct + kI 1) g = nI ((S.T g).ct + 1)
        unfold upd
        rw [if_pos rfl]
        exact (nI_succ _).symm
      · show upd (A 11) g (nI (tc_op (S.T g)) + nI ((S.T g).pt - (S.T g).cp)) g = nI ((S.T g).pt + (S.T g).pp)
        unfold upd tc_op
        rw [if_pos rfl, nI_add]
        congr 1
        omega
      · refine ⟨?_, ?_, fun z hz => ?_, ?_, fun z hz => ?_, fun _ => ?_, fun z hz => ?_⟩
        · show (S.T g).ct + 1 ≤ 13
          omega
        · show (S.T g).pt ≤ 40
          omega
        · have hz2 : z < (S.T g).ct + 1 := hz
          rw [he]
          show upd (S.T g).E (S.T g).ct (nI (S.T g).pt) z = nI (if z = (S.T g).ct then (S.T g).pt else tc_e (S.T g) z) ∧ (if z = (S.T g).ct then (S.T g).pt else tc_e (S.T g) z) ≤ (S.T g).pt
          unfold upd
          by_cases ez : z = (S.T g).ct
          · rw [if_pos ez, if_pos ez]; exact ⟨rfl, Nat.le_refl _⟩
          · rw [if_neg ez, if_neg ez]
            obtain ⟨v1, v2⟩ := w3 z (by omega)
            exact ⟨v1, by omega⟩
        · intro z
          have : (S.T g).ct + 1 = 0 := z
          omega
        · have hz2 : z + 1 = (S.T g).ct + 1 := hz
          rw [he, if_pos (by omega)]
          rfl
        · rw [he]
          by_cases ez : 0 = (S.T g).ct
          · rw [if_pos ez]; omega
          · rw [if_neg ez]; exact w6 (by omega)
        · have hz2 : z + 1 < (S.T g).ct + 1 := hz
          rw [he, he, if_neg (by omega)]
          by_cases ez : z + 1 = (S.T g).ct
          · rw [if_pos ez, w5 z ez]; exact c.2
          · rw [if_neg ez]; exact w7 z (by omega)
    · have hTg : S2.T g = S.T g := by rw [hS2]; exact va_up_ne _ _ e
      have hmm : S2.mm = S.mm := by rw [hS2]; rfl
      rw [hTg, hmm]
      obtain ⟨m5, m6, m7, m9, m10, m11, m12⟩ := s2
      exact ⟨s1, ⟨m5, (if_neg e).trans m6, (if_neg e).trans m7, m9, m10, (if_neg e).trans m11, m12⟩, s3, s4, hfree s5⟩
  · obtain ⟨v1, v2, v3, v4, v5, v6, v7⟩ := g4 g q1 q2
    have q1' : S.n ≤ g := q1
    have hne : g ≠ (nI i).toNatClampNeg := by rw [nI_clamp (by omega)]; omega
    exact ⟨v1, (if_neg hne).trans v2, (if_neg hne).trans v3, v4, v5, (if_neg hne).trans v6, v7⟩
theorem q_close_n {S : tc_S} {J : Nat → Int32} {A : Nat → Nat → Int32} {R : Nat → Int64} (h : RR S J A R) {g : Int32} (hg : ∀ i, i < S.n → g ≠ nI i) : tm_close J A g = (false, A) := by
  have hG : tm_isG J g = false := (tm_isG_no h.2.1.1 h.2.1.2.1 _).mpr hg
  unfold tm_close
  rw [if_pos (c := bI (tm_isG (tm_J0 J) g) = 0) (by rw [tm_isG_J0, hG]; rfl)]
/-- the points of all parts -/
theorem cpt_i {S : tc_S} {J : Nat → Int32} {A : Nat → Nat → Int32} {R : Nat → Int64} (h : RR S J A R) {i : Nat} (hi : i < S.n) : ∀ m k x, k + m = (S.T i).pc → tm_cpt A i m k (nI x) = nI (x + (tc_sum (fun j => tc_op (S.T ((S.T i).src j))) (S.T i).pc - tc_sum (fun j => tc_op (S.T ((S.T i).src j))) k)) ∧ tc_sum (fun j => tc_op (S.T ((S.T i).src j))) k ≤ tc_sum (fun j => tc_op (S.T ((S.T i).src j))) (S.T i).pc := by
  have hn := h.2.1.1
  obtain ⟨h1, ⟨g1, g2, g3, g4⟩, h3⟩ := h
  obtain ⟨r1, r2, r3, r4, r5⟩ := g3 i hi
  intro m
  induction m with
  | zero =>
    intro k x hk
    rw [show (S.T i).pc = k by omega, Nat.sub_self]
    exact ⟨rfl, Nat.le_refl _⟩
  | succ m ih =>
    intro k x hk
    obtain ⟨c1, _⟩ := r3 k (by omega)
    obtain ⟨d1, d2, d3⟩ := r5.2.1.2.1 k (by omega)
    obtain ⟨_, s2, _⟩ := g3 _ d1
    have e : A 11 ((S.T i).src k) = nI (tc_op (S.T ((S.T i).src k))) := s2.2.2.2.2.2.1
    show tm_cpt A i m (k + 1) (nI x + A 11 (A 13 (4 * i + k)).toNatClampNeg) = _ ∧ _
    rw [c1, nI_clamp (by omega), e, nI_add]
    obtain ⟨a, b⟩ := ih (k + 1) (x + tc_op (S.T ((S.T i).src k))) (by omega)
    have hs : tc_sum (fun j => tc_op (S.T ((S.T i).src j))) (k + 1) = tc_sum (fun j => tc_op (S.T ((S.T i).src j))) k + tc_op (S.T ((S.T i).src k)) := rfl
    rw [hs] at a b
    exact ⟨by rw [a]; congr 1; omega, by omega⟩
theorem cpt_eq {S : tc_S} {J : Nat → Int32} {A : Nat → Nat → Int32} {R : Nat → Int64} (h : RR S J A R) {i : Nat} (hi : i < S.n) : tm_cpt A i (S.T i).pc 0 (kI 0) = nI (S.T i).pp := by
  have := (cpt_i h hi (S.T i).pc 0 0 (by omega)).1
  have e := (h.2.1.2.2.1 i hi).2.2.2.2.2.1.2.2.1
  have z : tc_sum (fun j => tc_op (S.T ((S.T i).src j))) 0 = 0 := rfl
  rw [z, ← e] at this
  rw [show kI 0 = nI 0 from rfl, this]
  congr 1
  omega
/-- room for a part: asked alike -/
theorem room_eq {S : tc_S} {J : Nat → Int32} {A : Nat → Nat → Int32} {R : Nat → Int64} (h : RR S J A R) {i j : Nat} (hi : i < S.n) (hj : j < S.n) : tc_roomB (S.T i) (S.T j) = true ↔ (A 9 i = 0 ∧ ¬ (S.T i).pc = 4 ∧ ¬ kI 3 < A 10 j ∧ ¬ kI 120 < tm_cpt A i (S.T i).pc 0 (kI 0) + A 11 j) := by
  rw [cpt_eq h hi]
  obtain ⟨h1, ⟨g1, g2, g3, g4⟩, h3⟩ := h
  obtain ⟨_, n, _, _, o⟩ := g3 i hi
  obtain ⟨_, n2, _, _, o2⟩ := g3 j hj
  have e9 : A 9 i = bI (S.T i).lk := n.2.2.2.1
  have e10 : A 10 j = nI (S.T j).dp := n2.2.2.2.2.1
  have e11 : A 11 j = nI (tc_op (S.T j)) := n2.2.2.2.2.2.1
  have b1 := o.2.1.1
  have b2 := o.2.1.2.2.2.2
  have b3 := o2.2.2.1
  have b4 := o2.2.1.2.2.2.2
  have b5 := o2.1.2.1
  rw [e9, e10, e11]
  unfold tc_roomB tc_op
  rw [Bool.and_eq_true, Bool.and_eq_true, Bool.and_eq_true, decide_eq_true_eq, decide_eq_true_eq, decide_eq_true_eq, decide_eq_true_eq, nI_add, nI_add, show kI 4 = nI 4 from rfl, show kI 120 = nI 120 from rfl, show kI 3 = nI 3 from rfl, nI_ltI (by omega) (by omega), nI_ltI (by omega) (by omega), nI_ltI (by omega) (by omega), nI_leI (by omega) (by omega), nI_ltI (by omega) (by omega)]
  constructor
  · rintro ⟨a, b, c, d⟩
    exact ⟨a, by omega, by omega, by omega⟩
  · rintro ⟨a, b, c, d⟩
    exact ⟨a, by omega, by omega, by omega⟩
/-- component -/
theorem q_comp {S : tc_S} {J : Nat → Int32} {A : Nat → Nat → Int32} {R : Nat → Int64} (h : RR S J A R) {i j t : Nat} (hi : i < S.n) (hj : j < S.n) (hij : i ≠ j) (ht : t < 8) {dx dy : Int32} (hdx : iB 4000 dx) (hdy : iB 4000 dy) (hroom : tc_roomB (S.T i) (S.T j) = true) : RR (tc_comp i j dx dy t S) (upd J 0 (kI 0)) (tm_compA A i j (S.T i).pc dx dy (nI t)) R := by
  have hr := (room_eq h hi hj).mp hroom
  rw [cpt_eq h hi] at hr
  obtain ⟨k9, k4, k10, k11⟩ := hr
  obtain ⟨h1, ⟨g1, g2, g3, g4⟩, h3⟩ := h
  obtain ⟨r1, n, r3, r4, o⟩ := g3 i hi
  obtain ⟨_, n2, _, _, o2⟩ := g3 j hj
  obtain ⟨e5, e6, e7, e9, e10, e11, e12⟩ := id n
  obtain ⟨f5, f6, f7, f9, f10, f11, f12⟩ := id n2
  obtain ⟨b1, b2, b3, b4, b5⟩ := id o.2.1
  have b6 := o2.2.2.1
  have b7 := o2.2.1.2.2.2.2
  have b8 := o2.1.2.1
  have b9 := o.2.2.1
  have b10 := o.1.2.1
  have hlk : (S.T i).lk = false := by rw [e9, bI_iff] at k9; exact k9
  rw [f10, show kI 3 = nI 3 from rfl, nI_ltI (by omega) (by omega)] at k10
  rw [f11, nI_add, show kI 120 = nI 120 from rfl, nI_ltI (by omega) (by unfold tc_op; omega)] at k11
  -- what the users of any glyph see
  have hfree : ∀ {G : tc_G}, rGi S G → rGi (tc_comp i j dx dy t S) G := by
    intro G hG
    refine rGi_congr (S := S) (S2 := tc_comp i j dx dy t S) (Nat.le_refl _) (fun k hk => ?_) hG
    have hlk2 := hG.2.2.2 k hk
    have e : G.src k ≠ i := fun z => by rw [z, hlk] at hlk2; cases hlk2
    show tc_op (va_up (va_up S.T i _) j _ (G.src k)) = _ ∧ tc_oc (va_up (va_up S.T i _) j _ (G.src k)) = _ ∧ (va_up (va_up S.T i _) j _ (G.src k)).dp = _ ∧ (_ → (va_up (va_up S.T i _) j _ (G.src k)).lk = true)
    by_cases e2 : G.src k = j
    · rw [e2, va_up_self]; exact ⟨rfl, rfl, rfl, fun _ => rfl⟩
    · rw [va_up_ne _ _ e2, va_up_ne _ _ e]; exact ⟨rfl, rfl, rfl, id⟩
  have hA : ∀ k, k ≠ 9 → k ≠ 10 → k ≠ 11 → k ≠ 12 → k ≠ 13 → k ≠ 14 → k ≠ 15 → k ≠ 16 → tm_compA A i j (S.T i).pc dx dy (nI t) k = A k := fun k q1 q2 q3 q4 q5 q6 q7 q8 => by
    unfold tm_compA
    rw [va_up_ne _ _ q1, va_up_ne _ _ q2, va_up_ne _ _ q3, va_up_ne _ _ q4, va_up_ne _ _ q8, va_up_ne _ _ q7, va_up_ne _ _ q6, va_up_ne _ _ q5]
  have A9 : tm_compA A i j (S.T i).pc dx dy (nI t) 9 = upd (A 9) j (kI 1) := rfl
  have A10 : tm_compA A i j (S.T i).pc dx dy (nI t) 10 = upd (A 10) i (if A 10 j + kI 1 ≤ A 10 i then A 10 i else A 10 j + kI 1) := rfl
  have A11 : tm_compA A i j (S.T i).pc dx dy (nI t) 11 = upd (A 11) i (A 11 i + A 11 j) := rfl
  have A12 : tm_compA A i j (S.T i).pc dx dy (nI t) 12 = upd (A 12) i (nI (S.T i).pc + kI 1) := rfl
  have A13 : tm_compA A i j (S.T i).pc dx dy (nI t) 13 = upd (A 13) (4 * i + (S.T i).pc) (nI j) := rfl
  have A14 : tm_compA A i j (S.T i).pc dx dy (nI t) 14 = upd (A 14) (4 * i + (S.T i).pc) dx := rfl
  have A15 : tm_compA A i j (S.T i).pc dx dy (nI t) 15 = upd (A 15) (4 * i + (S.T i).pc) dy := rfl
  have A16 : tm_compA A i j (S.T i).pc dx dy (nI t) 16 = upd (A 16) (4 * i + (S.T i).pc) (nI t) := rfl
  have un : ∀ (g : Nat → Int32) k v z, z ≠ k → upd g k v z = g z := fun g k v z hz => if_neg hz
  have us : ∀ (g : Nat → Int32) k v, upd g k v k = v := fun g k v => if_pos rfl
  generalize tm_compA A i j (S.T i).pc dx dy (nI t) = B at hA A9 A10 A11 A12 A13 A14 A15 A16 ⊢
  refine ⟨h1, ⟨g1, g2, fun g hg => ?_, fun g q1 q2 => ?_⟩, ?_⟩
  · obtain ⟨s1, s2, s3, s4, s5⟩ := g3 g hg
    obtain ⟨m5, m6, m7, m9, m10, m11, m12⟩ := s2
    show rGp S.mm g (va_up (va_up S.T i (tc_compG (S.T i) (S.T j) j dx dy t)) j (tc_lkG (S.T j)) g) (B 3) (B 4) ∧ rGn g (va_up (va_up S.T i (tc_compG (S.T i) (S.T j) j dx dy t)) j (tc_lkG (S.T j)) g) (B 5) (B 6) (B 7) (B 9) (B 10) (B 11) (B 12) ∧ rGc g (va_up (va_up S.T i (tc_compG (S.T i) (S.T j) j dx dy t)) j (tc_lkG (S.T j)) g) (B 13) (B 14) (B 15) (B 16) ∧ rGw S.mm g (va_up (va_up S.T i (tc_compG (S.T i) (S.T j) j dx dy t)) j (tc_lkG (S.T j)) g) (B 8) ∧ rGi (tc_comp i j dx dy t S) (va_up (va_up S.T i (tc_compG (S.T i) (S.T j) j dx dy t)) j (tc_lkG (S.T j)) g)
    rw [hA 3 (by decide) (by decide) (by decide) (by decide) (by decide) (by decide) (by decide) (by decide), hA 4 (by decide) (by decide) (by decide) (by decide) (by decide) (by decide) (by decide) (by decide), hA 5 (by decide) (by decide) (by decide) (by decide) (by decide) (by decide) (by decide) (by decide), hA 6 (by decide) (by decide) (by decide) (by decide) (by decide) (by decide) (by decide) (by decide), hA 7 (by decide) (by decide) (by decide) (by decide) (by decide) (by decide) (by decide) (by decide), hA 8 (by decide) (by decide) (by decide) (by decide) (by decide) (by decide) (by decide) (by decide), A9, A10, A11, A12, A13, A14, A15, A16]
    by_cases ej : g = j
    · subst ej
      rw [va_up_self]
      refine ⟨s1, ⟨m5, m6, m7, us _ _ _, ?_, ?_, ?_⟩, fun k hk => ?_, s4, hfree s5⟩
      · rw [un _ _ _ _ (Ne.symm hij)]; exact m10
      · rw [un _ _ _ _ (Ne.symm hij)]; exact m11
      · rw [un _ _ _ _ (Ne.symm hij)]; exact m12
      · have hk2 : k < (S.T g).pc := hk
        have := s5.2.1.1
        rw [un _ _ _ _ (by omega), un _ _ _ _ (by omega), un _ _ _ _ (by omega), un _ _ _ _ (by omega)]
        exact s3 k hk
    · rw [va_up_ne _ _ ej]
      by_cases ei : g = i
      · subst ei
        rw [va_up_self]
        have hi2 := hfree o
        refine ⟨r1, ⟨e5, e6, e7, ?_, ?_, ?_, ?_⟩, fun k hk => ?_, r4, ⟨o.1, ⟨?_, fun k hk => ?_, ?_, ?_, ?_⟩, ?_, fun k hk => ?_⟩⟩
        · rw [un _ _ _ _ ej]; exact e9
        · rw [us, e10, f10]
          show (if nI (S.T j).dp + kI 1 ≤ nI (S.T g).dp then nI (S.T g).dp else nI (S.T j).dp + kI 1) = nI (max (S.T g).dp ((S.T j).dp + 1))
          rw [show nI (S.T j).dp + kI 1 = nI ((S.T j).dp + 1) from (nI_succ _).symm]
          by_cases z : (S.T j).dp + 1 ≤ (S.T g).dp
          · rw [if_pos (nI_le z (by omega)), Nat.max_eq_left z]
          · rw [if_neg (nI_ge (by omega) (by omega)), Nat.max_eq_right (by omega)]
        · rw [us, e11, f11, nI_add]
          show nI (tc_op (S.T g) + tc_op (S.T j)) = nI ((S.T g).cp + ((S.T g).pp + tc_op (S.T j)))
          rw [show tc_op (S.T g) = (S.T g).cp + (S.T g).pp from rfl, Nat.add_assoc]
        · rw [us]
          exact (nI_succ _).symm
        · have hk2 : k < (S.T g).pc + 1 := hk
          show upd (A 13) (4 * g + (S.T g).pc) (nI j) (4 * g + k) = nI (va_up (S.T g).src (S.T g).pc j k) ∧ upd (A 14) (4 * g + (S.T g).pc) dx (4 * g + k) = upd (S.T g).dx (S.T g).pc dx k ∧ upd (A 15) (4 * g + (S.T g).pc) dy (4 * g + k) = upd (S.T g).dy (S.T g).pc dy k ∧ upd (A 16) (4 * g + (S.T g).pc) (nI t) (4 * g + k) = nI (va_up (S.T g).tu (S.T g).pc t k) ∧ iB 4000 (upd (S.T g).dx (S.T g).pc dx k) ∧ iB 4000 (upd (S.T g).dy (S.T g).pc dy k)
          by_cases ek : k = (S.T g).pc
          · subst ek
            rw [us, us, us, us, us, us, va_up_self, va_up_self]
            exact ⟨rfl, rfl, rfl, rfl, hdx, hdy⟩
          · rw [un (A 13) _ _ _ (by omega), un (A 14) _ _ _ (by omega), un (A 15) _ _ _ (by omega), un (A 16) _ _ _ (by omega), un (S.T g).dx _ _ _ ek, un (S.T g).dy _ _ _ ek, va_up_ne _ _ ek, va_up_ne _ _ ek]
            exact r3 k (by omega)
        · show (S.T g).pc + 1 ≤ 4
          omega
        · have hk2 : k < (S.T g).pc + 1 := hk
          show va_up (S.T g).src (S.T g).pc j k < S.n ∧ ((tc_comp g j dx dy t S).T (va_up (S.T g).src (S.T g).pc j k)).dp < max (S.T g).dp ((S.T j).dp + 1) ∧ va_up (S.T g).tu (S.T g).pc t k < 8
          by_cases ek : k = (S.T g).pc
          · subst ek
            rw [va_up_self, va_up_self]
            have : ((tc_comp g j dx dy t S).T j).dp = (S.T j).dp := by
              show (va_up (va_up S.T g _) j (tc_lkG (S.T j)) j).dp = _
              rw [va_up_self]; rfl
            rw [this]
            exact ⟨hj, by omega, ht⟩
          · rw [va_up_ne _ _ ek, va_up_ne _ _ ek]
            obtain ⟨q1, q2, q3⟩ := hi2.2.1.2.1 k (by omega)
            exact ⟨q1, by omega, q3⟩
        · show (S.T g).pp + tc_op (S.T j) = tc_sum (fun k => tc_op ((tc_comp g j dx dy t S).T (va_up (S.T g).src (S.T g).pc j k))) (S.T g).pc + tc_op ((tc_comp g j dx dy t S).T (va_up (S.T g).src (S.T g).pc j (S.T g).pc))
          have hs := hi2.2.1.2.2.1
          rw [hs, va_up_self]
          have : tc_op ((tc_comp g j dx dy t S).T j) = tc_op (S.T j) := by
            show tc_op (va_up (va_up S.T g _) j (tc_lkG (S.T j)) j) = _
            rw [va_up_self]; rfl
          rw [this]
          congr 1
          exact sum_congr _ (fun k hk => by rw [va_up_ne _ _ (by omega)])
        · show (S.T g).ps + tc_oc (S.T j) = tc_sum (fun k => tc_oc ((tc_comp g j dx dy t S).T (va_up (S.T g).src (S.T g).pc j k))) (S.T g).pc + tc_oc ((tc_comp g j dx dy t S).T (va_up (S.T g).src (S.T g).pc j (S.T g).pc))
          have hs := hi2.2.1.2.2.2.1
          rw [hs, va_up_self]
          have : tc_oc ((tc_comp g j dx dy t S).T j) = tc_oc (S.T j) := by
            show tc_oc (va_up (va_up S.T g _) j (tc_lkG (S.T j)) j) = _
            rw [va_up_self]; rfl
          rw [this]
          congr 1
          exact sum_congr _ (fun k hk => by rw [va_up_ne _ _ (by omega)])
        · show (S.T g).pp + tc_op (S.T j) ≤ 120
          omega
        · show max (S.T g).dp ((S.T j).dp + 1) ≤ 4
          omega
        · have hk2 : k < (S.T g).pc + 1 := hk
          show ((tc_comp g j dx dy t S).T (va_up (S.T g).src (S.T g).pc j k)).lk = true
          by_cases ek : k = (S.T g).pc
          · subst ek
            rw [va_up_self]
            show (va_up (va_up S.T g _) j (tc_lkG (S.T j)) j).lk = true
            rw [va_up_self]; rfl
          · rw [va_up_ne _ _ ek]
            exact hi2.2.2.2 k (by omega)
      · rw [va_up_ne _ _ ei]
        refine ⟨s1, ⟨m5, m6, m7, ?_, ?_, ?_, ?_⟩, fun k hk => ?_, s4, hfree s5⟩
        · rw [un _ _ _ _ ej]; exact m9
        · rw [un _ _ _ _ ei]; exact m10
        · rw [un _ _ _ _ ei]; exact m11
        · rw [un _ _ _ _ ei]; exact m12
        · have := s5.2.1.1
          rw [un _ _ _ _ (by omega), un _ _ _ _ (by omega), un _ _ _ _ (by omega), un _ _ _ _ (by omega)]
          exact s3 k hk
  · obtain ⟨v5, v6, v7, v9, v10, v11, v12, v8⟩ := g4 g q1 q2
    have q1' : S.n ≤ g := q1
    rw [hA 5 (by decide) (by decide) (by decide) (by decide) (by decide) (by decide) (by decide) (by decide), hA 6 (by decide) (by decide) (by decide) (by decide) (by decide) (by decide) (by decide) (by decide), hA 7 (by decide) (by decide) (by decide) (by decide) (by decide) (by decide) (by decide) (by decide), hA 8 (by decide) (by decide) (by decide) (by decide) (by decide) (by decide) (by decide) (by decide), A9, A10, A11, A12, un _ _ _ _ (by omega), un _ _ _ _ (by omega), un _ _ _ _ (by omega), un _ _ _ _ (by omega)]
    exact ⟨v5, v6, v7, v9, v10, v11, v12, v8⟩
  · rw [hA 29 (by decide) (by decide) (by decide) (by decide) (by decide) (by decide) (by decide) (by decide), hA 31 (by decide) (by decide) (by decide) (by decide) (by decide) (by decide) (by decide) (by decide), hA 35 (by decide) (by decide) (by decide) (by decide) (by decide) (by decide) (by decide) (by decide), hA 36 (by decide) (by decide) (by decide) (by decide) (by decide) (by decide) (by decide) (by decide), hA 37 (by decide) (by decide) (by decide) (by decide) (by decide) (by decide) (by decide) (by decide), hA 38 (by decide) (by decide) (by decide) (by decide) (by decide) (by decide) (by decide) (by decide), hA 39 (by decide) (by decide) (by decide) (by decide) (by decide) (by decide) (by decide) (by decide), hA 40 (by decide) (by decide) (by decide) (by decide) (by decide) (by decide) (by decide) (by decide), hA 42 (by decide) (by decide) (by decide) (by decide) (by decide) (by decide) (by decide) (by decide), hA 43 (by decide) (by decide) (by decide) (by decide) (by decide) (by decide) (by decide) (by decide), hA 44 (by decide) (by decide) (by decide) (by decide) (by decide) (by decide) (by decide) (by decide), hA 46 (by decide) (by decide) (by decide) (by decide) (by decide) (by decide) (by decide) (by decide), hA 49 (by decide) (by decide) (by decide) (by decide) (by decide) (by decide) (by decide) (by decide), hA 51 (by decide) (by decide) (by decide) (by decide) (by decide) (by decide) (by decide) (by decide)]
    exact h3
theorem rT_n {n m ts : Nat} {tx : Nat → Int32} {j : Int32} {a : Nat → Int32} (h : rT n ts tx j a) (hm : n ≤ m) : rT m ts tx j a := ⟨h.1, h.2.1, fun i hi => ⟨(h.2.2 i hi).1, by obtain ⟨g, h1, h2⟩ := (h.2.2 i hi).2; exact ⟨g, by omega, h2⟩⟩⟩
theorem q_glyph {S : tc_S} {J : Nat → Int32} {A : Nat → Nat → Int32} {R : Nat → Int64} (h : RR S J A R) : (S.n = 40 ∧ tm_glyph J = (kI 0, upd J 0 (kI 1))) ∨ (S.n < 40 ∧ (tm_glyph J).1 = nI S.n ∧ (tm_glyph J).2 0 = kI 0 ∧ RR (tc_glyph S) (tm_glyph J).2 A R) := by
  obtain ⟨h1, ⟨g1, g2, g3, g4⟩, h3, h4, h5, ⟨p1, p2, p3, p4⟩, ⟨r1, r2, r3⟩, h8, h9, h10⟩ := h
  unfold tm_glyph
  by_cases c : S.n = 40
  · rw [if_pos (by rw [g2, c]; rfl)]
    exact Or.inl ⟨c, rfl⟩
  · rw [if_neg (by rw [g2]; intro z; have := (nI_eq (b := 40) (by omega) (by omega)).mp z; omega)]
    refine Or.inr ⟨by omega, ?_, rfl, h1, ⟨?_, ?_, fun g hg => ?_, fun g q1 q2 => ?_⟩, h3, h4, h5, ⟨p1, p2, fun k hk => ?_, p4⟩, ⟨r1, r2, fun j hj => ?_⟩, rT_n h8 (Nat.le_succ _), rT_n h9 (Nat.le_succ _), h10⟩
    · rw [g2]; exact Int32.add_sub_cancel _ _
    · show S.n + 1 ≤ 40
      omega
    · show J 2 + kI 1 = nI (S.n + 1)
      rw [g2]; exact (nI_succ _).symm
    · have hg2 : g < S.n + 1 := hg
      have hfree : ∀ {G : tc_G}, rGi S G → rGi (tc_glyph S) G := fun {G} hG => rGi_congr (S := S) (S2 := tc_glyph S) (Nat.le_succ _) (fun k hk => by
        have := (hG.2.1.2.1 k hk).1
        show tc_op (va_up S.T S.n tc_G0 (G.src k)) = _ ∧ tc_oc (va_up S.T S.n tc_G0 (G.src k)) = _ ∧ (va_up S.T S.n tc_G0 (G.src k)).dp = _ ∧ (_ → (va_up S.T S.n tc_G0 (G.src k)).lk = true)
        rw [va_up_ne _ _ (by omega)]
        exact ⟨rfl, rfl, rfl, id⟩) hG
      show rGp S.mm g (va_up S.T S.n tc_G0 g) (A 3) (A 4) ∧ rGn g (va_up S.T S.n tc_G0 g) (A 5) (A 6) (A 7) (A 9) (A 10) (A 11) (A 12) ∧ rGc g (va_up S.T S.n tc_G0 g) (A 13) (A 14) (A 15) (A 16) ∧ rGw S.mm g (va_up S.T S.n tc_G0 g) (A 8) ∧ rGi (tc_glyph S) (va_up S.T S.n tc_G0 g)
      by_cases e : g = S.n
      · subst e
        rw [va_up_self]
        obtain ⟨v5, v6, v7, v9, v10, v11, v12, v8⟩ := g4 S.n (Nat.le_refl _) (by omega)
        refine ⟨⟨Nat.zero_le _, Nat.le_refl _, fun z hz => absurd hz (Nat.not_lt_zero _), fun z hz => absurd hz (Nat.not_lt_zero _), fun z _ => vp_nar_b false⟩, ⟨v5, v6, v7, v9, v10, v11, v12⟩, fun k hk => absurd hk (Nat.not_lt_zero _), fun k hk => ⟨v8 k (by have := h1.1; rcases this with y | y | y <;> omega), ?_, ?_⟩, ⟨⟨Nat.zero_le _, Nat.zero_le _, fun z hz => absurd hz (Nat.not_lt_zero _), fun _ => rfl, fun z hz => absurd hz (Nat.succ_ne_zero _), fun hz => absurd hz (Nat.lt_irrefl _), fun z hz => absurd hz (Nat.not_lt_zero _)⟩, ⟨Nat.zero_le _, fun j hj => absurd hj (Nat.not_lt_zero _), rfl, rfl, Nat.zero_le _⟩, Nat.zero_le _, fun k hk => absurd hk (Nat.not_lt_zero _)⟩⟩
        · show 0 ≤ (0 : Int32).toInt
          decide
        · show (0 : Int32).toInt ≤ 4000
          decide
      · rw [va_up_ne _ _ e]
        obtain ⟨s1, s2, s3, s4, s5⟩ := g3 g (by omega)
        exact ⟨s1, s2, s3, s4, hfree s5⟩
    · have q1' : S.n + 1 ≤ g := q1
      exact g4 g (by omega) q2
    · obtain ⟨⟨x, y, hx, hy, e⟩, b⟩ := p3 k hk
      exact ⟨⟨x, y, Nat.lt_succ_of_lt hx, Nat.lt_succ_of_lt hy, e⟩, b⟩
    · obtain ⟨a1, a2, a3, a4, a5, a6, o, ho, e⟩ := r3 j hj
      exact ⟨a1, a2, a3, a4, a5, a6, o, Nat.lt_succ_of_lt ho, e⟩
