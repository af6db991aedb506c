/-! both states: glyph, point, place, close, component, advance -/
theorem sum_congr {f g : Nat → Nat} : ∀ n, (∀ j, j < n → f j = g j) → tc_sum f n = tc_sum g n
  | 0, _ => rfl
  | n + 1, h => by
    show tc_sum f n + f n = tc_sum g n + g n
    rw [sum_congr n (fun j hj => h j (by omega)), h n (by omega)]
theorem rGi_congr {S S2 : tc_S} {G : tc_G} (hn : S.n ≤ S2.n) (h : ∀ j, j < G.pc → tc_op (S2.T (G.src j)) = tc_op (S.T (G.src j)) ∧ tc_oc (S2.T (G.src j)) = tc_oc (S.T (G.src j)) ∧ (S2.T (G.src j)).dp = (S.T (G.src j)).dp ∧ ((S.T (G.src j)).lk = true → (S2.T (G.src j)).lk = true)) (hi : rGi S G) : rGi S2 G := by
  obtain ⟨a, ⟨b1, b2, b3, b4, b5⟩, c, d⟩ := hi
  refine ⟨a, ⟨b1, fun j hj => ?_, ?_, ?_, b5⟩, c, fun k hk => (h k hk).2.2.2 (d k hk)⟩
  · obtain ⟨q1, q2, q3⟩ := b2 j hj
    exact ⟨by omega, by rw [(h j hj).2.2.1]; exact q2, q3⟩
  · rw [b3]; exact sum_congr _ (fun j hj => (h j hj).1.symm)
  · rw [b4]; exact sum_congr _ (fun j hj => (h j hj).2.1.symm)
/-- a change of glyph i that its users don't see -/
theorem rGi_up {S S2 : tc_S} {i : Nat} {G2 : tc_G} (hn : S2.n = S.n) (hT : S2.T = va_up S.T i G2) (h1 : tc_op G2 = tc_op (S.T i)) (h2 : tc_oc G2 = tc_oc (S.T i)) (h3 : G2.dp = (S.T i).dp) (h4 : (S.T i).lk = true → G2.lk = true) {G : tc_G} (hi : rGi S G) : rGi S2 G := by
  refine rGi_congr (by omega) (fun j _ => ?_) hi
  rw [hT]
  by_cases e : G.src j = i
  · rw [e, va_up_self]; exact ⟨h1, h2, h3, h4⟩
  · rw [va_up_ne _ _ e]; exact ⟨rfl, rfl, rfl, id⟩
/-- a change of glyph i that nobody uses yet -/
theorem rGi_free {S S2 : tc_S} {i : Nat} {G2 : tc_G} (hn : S.n ≤ S2.n) (hT : S2.T = va_up S.T i G2) (hlk : (S.T i).lk = false) {G : tc_G} (hi : rGi S G) : rGi S2 G := by
  refine rGi_congr hn (fun j hj => ?_) hi
  have e : G.src j ≠ i := fun z => by
    have := hi.2.2.2 j hj
    rw [z, hlk] at this
    cases this
  rw [hT, va_up_ne _ _ e]
  exact ⟨rfl, rfl, rfl, id⟩
theorem own_3 {G : tc_G} (h : tc_own G) : 3 * G.ct ≤ G.cp := by
  obtain ⟨a, b, c, d, e, f, g⟩ := h
  rcases Nat.eq_zero_or_pos G.ct with z | z
  · omega
  · have key : ∀ k, k < G.ct → 3 * (k + 1) ≤ tc_e G k := by
      intro k
      induction k with
      | zero => intro _; exact f z
      | succ k ih => intro hk; have := ih (by omega); have := g k hk; omega
    have := key (G.ct - 1) (by omega)
    rw [e (G.ct - 1) (by omega)] at this
    omega
theorem rGl_G {S : tc_S} {J : Nat → Int32} {A : Nat → Nat → Int32} {R : Nat → Int64} (h : RR S J A R) : tc_GI S := fun i hi => ⟨(h.2.1.2.2.1 i hi).2.2.2.2.1, (h.2.1.2.2.1 i hi).2.2.2.2.2.1⟩
theorem rGl_O {S : tc_S} {J : Nat → Int32} {A : Nat → Nat → Int32} {R : Nat → Int64} (h : RR S J A R) : oOK S := fun g hg i hi => (h.2.1.2.2.1 g hg).1.2.2.2.2 i hi
/-- advance -/
theorem q_adv {S : tc_S} {J : Nat → Int32} {A : Nat → Nat → Int32} {R : Nat → Int64} (h : RR S J A R) {i : Nat} (hi : i < S.n) (m w : Int32) : (tc_adv i m w S).1 = bI (tm_adv J A (nI i) m w).1 ∧ RR (tc_adv i m w S).2 (tm_J0 J) (tm_adv J A (nI i) m w).2 R := by
  have hn := h.2.1.1
  have hmm := h.1.1
  have hG : tm_isG J (nI i) = true := (tm_isG_nI h.2.1.1 h.2.1.2.1 _).mpr ⟨i, hi, rfl⟩
  have hj1 : tm_J0 J 1 = nI S.mm := h.1.2.1
  have e4 : (kI 4000).toInt = 4000 := by decide
  have hM : (nI S.mm).toInt = S.mm := nI_toInt (by rcases hmm with z | z | z <;> omega)
  have hm1 : (nI S.mm - kI 1).toInt = S.mm - 1 := by rw [i3_sub (by rw [hM, k1_i]; rcases hmm with z | z | z <;> omega) (by rw [hM, k1_i]; rcases hmm with z | z | z <;> omega), hM, k1_i]
  have hin : tw_in m (kI 0) (nI S.mm - kI 1) = true ↔ 0 ≤ m.toInt ∧ m.toInt ≤ S.mm - 1 := by
    unfold tw_in
    rw [Bool.and_eq_true, decide_eq_true_eq, decide_eq_true_eq, le3, le3, kt0, hm1]
  obtain ⟨h1, ⟨g1, g2, g3, g4⟩, h3⟩ := id h
  unfold tc_adv tm_adv
  rw [if_neg (c := bI (tm_isG (tm_J0 J) (nI i)) = 0) (by rw [tm_isG_J0, hG]; decide), hj1]
  by_cases c : tw_in m (kI 0) (nI S.mm - kI 1) = true ∧ tw_in w (kI 0) (kI 4000) = true
  · rw [if_pos c]
    rw [hin, in_le, kt0, e4] at c
    rw [if_neg (c := m < 0) (by rw [lt3, i3_0]; omega), if_neg (c := nI S.mm ≤ m) (by rw [le3, hM]; omega), if_neg (c := w < 0) (by rw [lt3, i3_0]; omega), if_pos (c := w ≤ kI 4000) (by rw [le3, e4]; omega)]
    obtain ⟨k, hk⟩ : ∃ k : Nat, m.toInt = k := ⟨m.toInt.toNat, by omega⟩
    have hmk : m = nI k := nI_tie (by rcases hmm with z | z | z <;> omega) hk
    have i1 : m.toNatClampNeg = k := clampI hk
    have i2 : (kI 4 * nI i + m).toNatClampNeg = 4 * i + k := by rw [hmk, show kI 4 = nI 4 from rfl, nI_mul, nI_add, nI_clamp (by rcases hmm with z | z | z <;> omega)]
    rw [i1]
    refine ⟨rfl, h1, ⟨g1, g2, fun g hg => ?_, fun g q1 q2 => ?_⟩, h3⟩
    · obtain ⟨r1, r2, r3, r4, r5⟩ := g3 g hg
      have r5' : rGi (tc_S_mk S.mm S.u S.w S.n (va_up S.T i (tc_G_mk (S.T i).X (S.T i).Y (upd (S.T i).W k w) (S.T i).O (S.T i).E (S.T i).pt (S.T i).ct (S.T i).dp (S.T i).lk (S.T i).cp (S.T i).pc (S.T i).pp (S.T i).ps (S.T i).src (S.T i).dx (S.T i).dy (S.T i).tu)) S.oc S.op S.oA S.pz S.px S.py S.hn S.hy S.cs S.ca S.ce S.kp S.kl S.kr S.kc S.kL S.kR S.kO S.row S.rs S.ts S.rn S.pu S.tx S.R) (S.T g) := rGi_up (i := i) (S := S) (S2 := tc_S_mk S.mm S.u S.w S.n (va_up S.T i (tc_G_mk (S.T i).X (S.T i).Y (upd (S.T i).W k w) (S.T i).O (S.T i).E (S.T i).pt (S.T i).ct (S.T i).dp (S.T i).lk (S.T i).cp (S.T i).pc (S.T i).pp (S.T i).ps (S.T i).src (S.T i).dx (S.T i).dy (S.T i).tu)) S.oc S.op S.oA S.pz S.px S.py S.hn S.hy S.cs S.ca S.ce S.kp S.kl S.kr S.kc S.kL S.kR S.kO S.row S.rs S.ts S.rn S.pu S.tx S.R) rfl rfl rfl rfl rfl id r5
      show rGp S.mm g (va_up S.T i _ g) (A 3) (A 4) ∧ rGn g (va_up S.T i _ g) (A 5) (A 6) (A 7) (A 9) (A 10) (A 11) (A 12) ∧ rGc g (va_up S.T i _ g) (A 13) (A 14) (A 15) (A 16) ∧ rGw S.mm g (va_up S.T i _ g) (upd (A 8) (kI 4 * nI i + m).toNatClampNeg w) ∧ rGi _ (va_up S.T i _ g)
      rw [i2]
      by_cases e : g = i
      · subst e
        rw [va_up_self]
        refine ⟨r1, r2, r3, fun z hz => ?_, r5'⟩
        show upd (A 8) (4 * g + k) w (4 * g + z) = upd (S.T g).W k w z ∧ 0 ≤ (upd (S.T g).W k w z).toInt ∧ (upd (S.T g).W k w z).toInt ≤ 4000
        unfold upd
        by_cases e2 : z = k
        · rw [if_pos (by omega), if_pos e2]; exact ⟨rfl, c.2⟩
        · rw [if_neg (by omega), if_neg e2]; exact r4 z hz
      · rw [va_up_ne _ _ e]
        refine ⟨r1, r2, r3, fun z hz => ?_, r5'⟩
        obtain ⟨s1, s2⟩ := r4 z hz
        rw [← s1]
        refine ⟨?_, by rw [s1]; exact s2⟩
        unfold upd
        rw [if_neg (by rcases hmm with y | y | y <;> omega)]
    · obtain ⟨r1, r2, r3, r4, r5, r6, r7, r8⟩ := g4 g q1 q2
      refine ⟨r1, r2, r3, r4, r5, r6, r7, fun z hz => ?_⟩
      have q1' : S.n ≤ g := q1
      show upd (A 8) (kI 4 * nI i + m).toNatClampNeg w (4 * g + z) = 0
      rw [i2]
      unfold upd
      rw [if_neg (by rcases hmm with y | y | y <;> omega)]
      exact r8 z hz
  · rw [if_neg c]
    have hf : ∀ X : Bool × (Nat → Nat → Int32), (if m < 0 then (false, A) else if nI S.mm ≤ m then (false, A) else if w < 0 then (false, A) else if w ≤ kI 4000 then X else (false, A)) = (false, A) := by
      intro X
      by_cases d1 : m < 0
      · rw [if_pos d1]
      rw [if_neg d1]
      by_cases d2 : nI S.mm ≤ m
      · rw [if_pos d2]
      rw [if_neg d2]
      by_cases d3 : w < 0
      · rw [if_pos d3]
      rw [if_neg d3]
      by_cases d4 : w ≤ kI 4000
      · exfalso
        rw [lt3, i3_0] at d1 d3
        rw [le3, hM] at d2
        rw [le3, e4] at d4
        exact c ⟨hin.mpr (by omega), by rw [in_le, kt0, e4]; omega⟩
      · rw [if_neg d4]
    rw [hf]
    exact ⟨rfl, h⟩
theorem q_adv_n {S : tc_S} {J : Nat → Int32} {A : Nat → Nat → Int32} {R : Nat → Int64} (h : RR S J A R) {g : Int32} (hg : ∀ i, i < S.n → g ≠ nI i) (m w : Int32) : tm_adv J A g m w = (false, A) := by
  have hG : tm_isG J g = false := (tm_isG_no h.2.1.1 h.2.1.2.1 _).mpr hg
  unfold tm_adv
  rw [if_pos (c := bI (tm_isG (tm_J0 J) g) = 0) (by rw [tm_isG_J0, hG]; rfl)]
/-- place -/
theorem q_place {S : tc_S} {J : Nat → Int32} {A : Nat → Nat → Int32} {R : Nat → Int64} (h : RR S J A R) {i p m : Nat} (hi : i < S.n) (hp : p < (S.T i).pt) (hm : m < S.mm) {x y : Int32} (hx : tm_isP x = true) (hy : tm_isP y = true) : RR (tc_place i p m x y S) (upd J 0 (kI 0)) (va_up A 3 (upd (A 3) (160 * i + 4 * p + m) (tm_pk x y))) R := by
  have hmm := h.1.1
  have hm4 : S.mm ≤ 4 := by rcases hmm with z | z | z <;> omega
  obtain ⟨h1, ⟨g1, g2, g3, g4⟩, h3⟩ := h
  refine ⟨h1, ⟨g1, g2, fun g hg => ?_, g4⟩, h3⟩
  obtain ⟨r1, r2, r3, r4, r5⟩ := g3 g hg
  have r5' : rGi (tc_place i p m x y S) (S.T g) := rGi_up (i := i) (S := S) (S2 := tc_place i p m x y S) (G2 := tc_placeG (p * S.mm + m) x y (S.T i)) rfl rfl rfl rfl rfl id r5
  have hpt40 := (g3 i hi).1.1
  show rGp S.mm g (va_up S.T i (tc_placeG (p * S.mm + m) x y (S.T i)) g) (upd (A 3) (160 * i + 4 * p + m) (tm_pk x y)) (A 4) ∧ rGn g (va_up S.T i (tc_placeG (p * S.mm + m) x y (S.T i)) g) (A 5) (A 6) (A 7) (A 9) (A 10) (A 11) (A 12) ∧ rGc g (va_up S.T i (tc_placeG (p * S.mm + m) x y (S.T i)) g) (A 13) (A 14) (A 15) (A 16) ∧ rGw S.mm g (va_up S.T i (tc_placeG (p * S.mm + m) x y (S.T i)) g) (A 8) ∧ rGi (tc_place i p m x y S) (va_up S.T i (tc_placeG (p * S.mm + m) x y (S.T i)) g)
  by_cases e : g = i
  · subst e
    rw [va_up_self]
    refine ⟨⟨r1.1, r1.2.1, fun z hz k hk => ?_, r1.2.2.2⟩, r2, r3, r4, r5'⟩
    show upd (A 3) (160 * g + 4 * p + m) (tm_pk x y) (160 * g + 4 * z + k) = tm_pk (upd (S.T g).X (p * S.mm + m) x (z * S.mm + k)) (upd (S.T g).Y (p * S.mm + m) y (z * S.mm + k)) ∧ tm_isP (upd (S.T g).X (p * S.mm + m) x (z * S.mm + k)) = true ∧ tm_isP (upd (S.T g).Y (p * S.mm + m) y (z * S.mm + k)) = true
    have hinj := al_inj (al := S.mm) (j := z) (k := k) (j2 := p) (k2 := m) hk hm
    unfold upd
    by_cases e2 : z = p ∧ k = m
    · rw [e2.1, e2.2, if_pos rfl, if_pos rfl, if_pos rfl]; exact ⟨rfl, hx, hy⟩
    · have e3 : ¬ z * S.mm + k = p * S.mm + m := fun q => e2 (hinj.mp (by rw [Nat.mul_comm S.mm z, Nat.mul_comm S.mm p]; exact q))
      rw [if_neg (by omega), if_neg e3, if_neg e3]
      exact r1.2.2.1 z hz k hk
  · rw [va_up_ne _ _ e]
    refine ⟨⟨r1.1, r1.2.1, fun z hz k hk => ?_, r1.2.2.2⟩, r2, r3, r4, r5'⟩
    obtain ⟨s1, s2⟩ := r1.2.2.1 z hz k hk
    rw [← s1]
    have := r1.1
    refine ⟨?_, s2⟩
    unfold upd
    rw [if_neg (by omega)]
theorem tw_fill_i (b0 : Nat) (x : Int32) : ∀ m k (g : Nat → Int32) z, tw_fill b0 x m k g z = if b0 + k ≤ z ∧ z < b0 + k + m then x else g z := by
  intro m
  induction m with
  | zero => intro k g z; rw [if_neg (by omega)]; rfl
  | succ m ih =>
    intro k g z
    show tw_fill b0 x m (k + 1) (upd g (b0 + k) x) z = _
    rw [ih]
    unfold upd
    by_cases c : z = b0 + k
    · rw [if_neg (by omega), if_pos c, if_pos (by omega)]
    · rw [if_neg c]
      by_cases c2 : b0 + k ≤ z ∧ z < b0 + k + (m + 1)
      · rw [if_pos (by omega), if_pos c2]
      · rw [if_neg (by omega), if_neg c2]
/-- point -/
theorem q_point {S : tc_S} {J : Nat → Int32} {A : Nat → Nat → Int32} {R : Nat → Int64} (h : RR S J A R) {i : Nat} (hi : i < S.n) (hpt : (S.T i).pt < 40) {x y : Int32} (hx : tm_isP x = true) (hy : tm_isP y = true) (b : Bool) : (tc_point i x y (bI b) S).1 = nI (S.T i).pt + kI 1 - kI 1 ∧ RR (tc_point i x y (bI b) S).2 (upd J 0 (kI 0)) (tm_pointA A i (S.T i).pt x y (bI b)) R := by
  have hmm := h.1.1
  have hm4 : S.mm ≤ 4 := by rcases hmm with z | z | z <;> omega
  have hm1 : 1 ≤ S.mm := by rcases hmm with z | z | z <;> omega
  obtain ⟨h1, ⟨g1, g2, g3, g4⟩, h3⟩ := h
  refine ⟨(Int32.add_sub_cancel _ _).symm, h1, ⟨g1, g2, fun g hg => ?_, fun g q1 q2 => ?_⟩, h3⟩
  · obtain ⟨r1, r2, r3, r4, r5⟩ := g3 g hg
    have r5' : rGi (tc_point i x y (bI b) S).2 (S.T g) := rGi_up (i := i) (S := S) (S2 := (tc_point i x y (bI b) S).2) (G2 := tc_pointG S.mm x y (bI b) (S.T i)) rfl rfl rfl rfl rfl id r5
    show rGp S.mm g (va_up S.T i (tc_pointG S.mm x y (bI b) (S.T i)) g) (tw_fill (4 * (40 * i + (S.T i).pt)) (tm_pk x y) 4 0 (A 3)) (upd (A 4) (40 * i + (S.T i).pt) (vp_nar .byte (kI 2 * A 7 i + (if bI b = 0 then kI 0 else kI 1)).toInt8.toInt32)) ∧ rGn g (va_up S.T i (tc_pointG S.mm x y (bI b) (S.T i)) g) (upd (A 5) i (nI (S.T i).pt + kI 1)) (A 6) (A 7) (A 9) (A 10) (A 11) (A 12) ∧ rGc g (va_up S.T i (tc_pointG S.mm x y (bI b) (S.T i)) g) (A 13) (A 14) (A 15) (A 16) ∧ rGw S.mm g (va_up S.T i (tc_pointG S.mm x y (bI b) (S.T i)) g) (A 8) ∧ rGi (tc_point i x y (bI b) S).2 (va_up S.T i (tc_pointG S.mm x y (bI b) (S.T i)) g)
    by_cases e : g = i
    · subst e
      rw [va_up_self]
      obtain ⟨p1, p2, p3, p4, p5⟩ := r1
      obtain ⟨n5, n6, n7, n9⟩ := r2
      have hown := r5.1
      have h3c := own_3 hown
      have hct := hown.1
      have hmark : vp_nar .byte (kI 2 * A 7 g + (if bI b = 0 then kI 0 else kI 1)).toInt8.toInt32 = nI (2 * (S.T g).ct + (if b = true then 1 else 0)) := by
        rw [n7]
        cases b with
        | true =>
          rw [if_neg (by decide), show kI 2 = nI 2 from rfl, show kI 1 = nI 1 from rfl, nI_mul, nI_add, vp_nar_by (by omega)]; rfl
        | false =>
          rw [if_pos (show bI false = 0 by decide), show kI 2 = nI 2 from rfl, show kI 0 = nI 0 from rfl, nI_mul, nI_add, vp_nar_by (by omega)]; rfl
      refine ⟨⟨?_, ?_, fun z hz k hk => ?_, fun z hz => ?_, fun z hz => ?_⟩, ⟨?_, n6, n7, n9⟩, r3, r4, r5'⟩
      · show (S.T g).pt + 1 ≤ 40
        omega
      · show (S.T g).cp ≤ (S.T g).pt + 1
        omega
      · have hz2 : z < (S.T g).pt + 1 := hz
        show tw_fill (4 * (40 * g + (S.T g).pt)) (tm_pk x y) 4 0 (A 3) (160 * g + 4 * z + k) = tm_pk (tw_fill ((S.T g).pt * S.mm) x S.mm 0 (S.T g).X (z * S.mm + k)) (tw_fill ((S.T g).pt * S.mm) y S.mm 0 (S.T g).Y (z * S.mm + k)) ∧ tm_isP (tw_fill ((S.T g).pt * S.mm) x S.mm 0 (S.T g).X (z * S.mm + k)) = true ∧ tm_isP (tw_fill ((S.T g).pt * S.mm) y S.mm 0 (S.T g).Y (z * S.mm + k)) = true
        rw [tw_fill_i, tw_fill_i, tw_fill_i]
        by_cases e2 : z = (S.T g).pt
        · rw [if_pos (by omega), if_pos (by rw [e2]; omega), if_pos (by rw [e2]; omega)]; exact ⟨rfl, hx, hy⟩
        · have hle : (z + 1) * S.mm ≤ (S.T g).pt * S.mm := Nat.mul_le_mul_right _ (by omega)
          rw [Nat.add_mul, Nat.one_mul] at hle
          rw [if_neg (by omega), if_neg (by omega), if_neg (by omega)]
          exact p3 z (by omega) k hk
      · have hz2 : z < (S.T g).pt + 1 := hz
        show ∃ c o, o < 2 ∧ c ≤ (S.T g).ct ∧ upd (A 4) (40 * g + (S.T g).pt) (vp_nar .byte (kI 2 * A 7 g + (if bI b = 0 then kI 0 else kI 1)).toInt8.toInt32) (40 * g + z) = nI (2 * c + o) ∧ upd (S.T g).O (S.T g).pt (vp_nar .boolean (bI b)) z = nI o ∧ (∀ z2, z2 < c → tc_e (S.T g) z2 ≤ z) ∧ ∀ z2, c ≤ z2 → z2 < (S.T g).ct → z < tc_e (S.T g) z2
        rw [hmark, vp_nar_b]
        unfold upd
        by_cases e2 : z = (S.T g).pt
        · rw [if_pos (by omega), if_pos e2]
          refine ⟨(S.T g).ct, if b = true then 1 else 0, by split <;> omega, Nat.le_refl _, rfl, by cases b <;> rfl, fun z2 q => ?_, fun z2 q1 q2 => by omega⟩
          have := (hown.2.2.1 z2 q).2
          omega
        · rw [if_neg (by omega), if_neg e2]
          exact p4 z (by omega)
      · show vp_nar .boolean (upd (S.T g).O (S.T g).pt (vp_nar .boolean (bI b)) z) = upd (S.T g).O (S.T g).pt (vp_nar .boolean (bI b)) z
        rw [vp_nar_b]
        unfold upd
        by_cases e2 : z = (S.T g).pt
        · rw [if_pos e2, vp_nar_b]
        · rw [if_neg e2]; exact p5 z hz
      · show upd (A 5) g (nI (S.T g).pt + kI 1) g = nI ((S.T g).pt + 1)
        unfold upd
        rw [if_pos rfl]
        exact (nI_succ _).symm
    · rw [va_up_ne _ _ e]
      obtain ⟨p1, p2, p3, p4, p5⟩ := r1
      obtain ⟨n5, n6⟩ := r2
      refine ⟨⟨p1, p2, fun z hz k hk => ?_, fun z hz => ?_, p5⟩, ⟨?_, n6⟩, r3, r4, r5'⟩
      · rw [tw_fill_i, if_neg (by omega)]
        exact p3 z hz k hk
      · have := p4 z hz
        unfold upd
        rw [if_neg (by omega)]
        exact this
      · unfold upd
        rw [if_neg e]
        exact n5
  · obtain ⟨r1, r2⟩ := g4 g q1 q2
    have q1' : S.n ≤ g := q1
    refine ⟨?_, r2⟩
    show upd (A 5) i (nI (S.T i).pt + kI 1) g = nI 0
    unfold upd
    rw [if_neg (by omega)]
    exact r1
