/-! outlines as lists: the class's side -/
abbrev oP := Int32 × Int32 × Int32
abbrev oC := List (List oP)
def oseg (X Y O : Nat → Int32) : Nat → Nat → List oP
  | 0, _ => []
  | m + 1, i => (X i, Y i, O i) :: oseg X Y O m (i + 1)
def oown (X Y O : Nat → Int32) (e : Nat → Nat) : Nat → Nat → Nat → oC
  | 0, _, _ => []
  | m + 1, c, i => oseg X Y O (e c - i) i :: oown X Y O e m (c + 1) (e c)
def olen : oC → Nat
  | [] => 0
  | l :: L => l.length + olen L
theorem olen_app : ∀ L1 L2 : oC, olen (L1 ++ L2) = olen L1 + olen L2
  | [], L2 => (Nat.zero_add _).symm
  | l :: L1, L2 => by
    show l.length + olen (L1 ++ L2) = l.length + olen L1 + olen L2
    rw [olen_app L1 L2, Nat.add_assoc]
theorem oseg_len (X Y O : Nat → Int32) : ∀ m i, (oseg X Y O m i).length = m
  | 0, _ => rfl
  | m + 1, i => congrArg (· + 1) (oseg_len X Y O m (i + 1))
theorem oseg_get (X Y O : Nat → Int32) : ∀ m i j q, (oseg X Y O m i)[j]? = some q → j < m ∧ q = (X (i + j), Y (i + j), O (i + j))
  | 0, _, j, q, h => by cases h
  | m + 1, i, 0, q, h => ⟨Nat.succ_pos _, (Option.some.inj h).symm⟩
  | m + 1, i, j + 1, q, h => by
    obtain ⟨a, b⟩ := oseg_get X Y O m (i + 1) j q h
    exact ⟨by omega, by rw [b, show i + 1 + j = i + (j + 1) by omega]⟩
/-- the rows A hold the contours from point p and contour C on -/
def rp (A : Nat → Nat → Int32) : Nat → Nat → oC → Prop
  | p, C, [] => A 3 C = nI p
  | p, C, l :: L => A 3 C = nI p ∧ (∀ i q, l[i]? = some q → A 0 (p + i) = q.1 ∧ A 1 (p + i) = q.2.1 ∧ A 2 (p + i) = q.2.2 ∧ A 4 (p + i) = nI C) ∧ rp A (p + l.length) (C + 1) L
theorem rp_3 {A : Nat → Nat → Int32} : ∀ {L : oC} {p C : Nat}, rp A p C L → A 3 C = nI p
  | [], _, _, h => h
  | _ :: _, _, _, h => h.1
theorem get_lt {α : Type} {l : List α} {i : Nat} {q : α} (h : l[i]? = some q) : i < l.length := by
  rcases Nat.lt_or_ge i l.length with z | z
  · exact z
  · rw [List.getElem?_eq_none z] at h; cases h
theorem rp_congr {A B : Nat → Nat → Int32} : ∀ {L : oC} {p C : Nat}, (∀ z, p ≤ z → z < p + olen L → B 0 z = A 0 z ∧ B 1 z = A 1 z ∧ B 2 z = A 2 z ∧ B 4 z = A 4 z) → (∀ z, C ≤ z → z ≤ C + L.length → B 3 z = A 3 z) → rp A p C L → rp B p C L
  | [], p, C, _, h3, h => (h3 C (Nat.le_refl _) (Nat.le_add_right _ _)).trans h
  | l :: L, p, C, h0, h3, h => by
    have e : olen (l :: L) = l.length + olen L := rfl
    refine ⟨(h3 C (Nat.le_refl _) (Nat.le_add_right _ _)).trans h.1, fun i q hi => ?_, rp_congr (fun z q1 q2 => h0 z (by omega) (by omega)) (fun z q1 q2 => h3 z (by omega) (by simp only [List.length_cons]; omega)) h.2.2⟩
    have := get_lt hi
    obtain ⟨a, b, c, d⟩ := h0 (p + i) (by omega) (by omega)
    rw [a, b, c, d]
    exact h.2.1 i q hi
theorem rp_app {A : Nat → Nat → Int32} : ∀ {L1 L2 : oC} {p C : Nat}, rp A p C L1 → rp A (p + olen L1) (C + L1.length) L2 → rp A p C (L1 ++ L2)
  | [], L2, p, C, _, h2 => h2
  | l :: L1, L2, p, C, h1, h2 => by
    refine ⟨h1.1, h1.2.1, rp_app h1.2.2 ?_⟩
    rw [show p + l.length + olen L1 = p + olen (l :: L1) from Nat.add_assoc _ _ _, show C + 1 + L1.length = C + (l :: L1).length by simp only [List.length_cons]; omega]
    exact h2
theorem rp_end {A : Nat → Nat → Int32} : ∀ {L : oC} {p C : Nat}, rp A p C L → A 3 (C + L.length) = nI (p + olen L)
  | [], p, C, h => h
  | l :: L, p, C, h => by
    have := rp_end h.2.2
    rw [show C + (l :: L).length = C + 1 + L.length by simp only [List.length_cons]; omega, this]
    exact congrArg nI (Nat.add_assoc _ _ _)
/-- below point p and contour C nothing has changed -/
def kp (p C : Nat) (A B : Nat → Nat → Int32) : Prop := (∀ z, z < p → B 0 z = A 0 z ∧ B 1 z = A 1 z ∧ B 2 z = A 2 z ∧ B 4 z = A 4 z) ∧ ∀ z, z ≤ C → B 3 z = A 3 z
theorem kp.tr {p C p2 C2 : Nat} {A B D : Nat → Nat → Int32} (h : kp p C A B) (h2 : kp p2 C2 B D) (hp : p ≤ p2) (hC : C ≤ C2) : kp p C A D := by
  refine ⟨fun z hz => ?_, fun z hz => (h2.2 z (by omega)).trans (h.2 z hz)⟩
  obtain ⟨a, b, c, d⟩ := h.1 z hz
  obtain ⟨a2, b2, c2, d2⟩ := h2.1 z (by omega)
  exact ⟨a2.trans a, b2.trans b, c2.trans c, d2.trans d⟩
theorem rp_kp {A B : Nat → Nat → Int32} {L : oC} {p C p2 C2 : Nat} (h : rp A p C L) (hk : kp p2 C2 A B) (hp : p + olen L ≤ p2) (hC : C + L.length ≤ C2) : rp B p C L :=
  rp_congr (fun z _ q2 => hk.1 z (by omega)) (fun z _ q2 => hk.2 z (by omega)) h
theorem va0 {A : Nat → Nat → Int32} {k j : Nat} {g : Nat → Int32} (h : j ≠ k) : va_up A k g j = A j := va_up_ne A g h
theorem tw_ac1_i (X Y O : Nat → Int32) (C : Nat) : ∀ m i p (A : Nat → Nat → Int32), (∀ j, j < m → tw_ac1 X Y O C m i p A 0 (p + j) = X (i + j) ∧ tw_ac1 X Y O C m i p A 1 (p + j) = Y (i + j) ∧ tw_ac1 X Y O C m i p A 2 (p + j) = vp_nar .boolean (O (i + j)) ∧ tw_ac1 X Y O C m i p A 4 (p + j) = nI C) ∧ (∀ z, z < p ∨ p + m ≤ z → tw_ac1 X Y O C m i p A 0 z = A 0 z ∧ tw_ac1 X Y O C m i p A 1 z = A 1 z ∧ tw_ac1 X Y O C m i p A 2 z = A 2 z ∧ tw_ac1 X Y O C m i p A 4 z = A 4 z) := by
  intro m
  induction m with
  | zero => intro i p A; exact ⟨fun j h => absurd h (Nat.not_lt_zero _), fun z _ => ⟨rfl, rfl, rfl, rfl⟩⟩
  | succ m ih =>
    intro i p A
    obtain ⟨a, b⟩ := ih (i + 1) (p + 1) (ou_pt X Y O C i p A)
    have o0 : ou_pt X Y O C i p A 0 = upd (A 0) p (X i) := by
      unfold ou_pt
      rw [va_up_ne _ _ (by decide), va_up_ne _ _ (by decide), va_up_ne _ _ (by decide), va_up_self]
    have o1 : ou_pt X Y O C i p A 1 = upd (A 1) p (Y i) := by
      unfold ou_pt
      rw [va_up_ne _ _ (by decide), va_up_ne _ _ (by decide), va_up_self]
    have o2 : ou_pt X Y O C i p A 2 = upd (A 2) p (vp_nar .boolean (O i)) := by
      unfold ou_pt
      rw [va_up_ne _ _ (by decide), va_up_self]
    have o4 : ou_pt X Y O C i p A 4 = upd (A 4) p (nI C) := by
      unfold ou_pt
      rw [va_up_self]
    have us : ∀ (g : Nat → Int32) v, upd g p v p = v := fun g v => if_pos rfl
    have un : ∀ (g : Nat → Int32) v z, z ≠ p → upd g p v z = g z := fun g v z h => if_neg h
    constructor
    · intro j hj
      rw [tw_ac1]
      cases j with
      | zero =>
        obtain ⟨b0, b1, b2, b4⟩ := b p (Or.inl (Nat.lt_succ_self _))
        simp only [Nat.add_zero]
        rw [b0, b1, b2, b4, o0, o1, o2, o4, us, us, us, us]
        exact ⟨rfl, rfl, rfl, rfl⟩
      | succ j =>
        have := a j (by omega)
        rw [show p + 1 + j = p + (j + 1) by omega, show i + 1 + j = i + (j + 1) by omega] at this
        exact this
    · intro z hz
      rw [tw_ac1]
      obtain ⟨b0, b1, b2, b4⟩ := b z (by omega)
      rw [b0, b1, b2, b4, o0, o1, o2, o4, un _ _ _ (by omega), un _ _ _ (by omega), un _ _ _ (by omega), un _ _ _ (by omega)]
      exact ⟨rfl, rfl, rfl, rfl⟩
theorem tw_ac_l {X Y O : Nat → Int32} {e : Nat → Nat} (hO : ∀ i, i < 40 → vp_nar .boolean (O i) = O i) : ∀ m c i p C (A : Nat → Nat → Int32), (∀ z, c ≤ z → z < c + m → e z ≤ 40) → (0 < m → i ≤ e c) → (∀ z, c ≤ z → z + 1 < c + m → e z ≤ e (z + 1)) → A 3 C = nI p → (tw_ac X Y O e m c i p C A).1 = p + olen (oown X Y O e m c i) ∧ (tw_ac X Y O e m c i p C A).2.1 = C + m ∧ rp (tw_ac X Y O e m c i p C A).2.2 p C (oown X Y O e m c i) ∧ kp p C A (tw_ac X Y O e m c i p C A).2.2 := by
  intro m
  induction m with
  | zero => intro c i p C A _ _ _ h; exact ⟨rfl, rfl, h, fun z _ => ⟨rfl, rfl, rfl, rfl⟩, fun _ _ => rfl⟩
  | succ m ih =>
    intro c i p C A he hi hm h
    obtain ⟨n, hn⟩ : ∃ n, e c - i = n := ⟨_, rfl⟩
    have hec := he c (Nat.le_refl _) (by omega)
    have hic := hi (Nat.succ_pos _)
    obtain ⟨a, b⟩ := tw_ac1_i X Y O C n i p A
    have a3 := tw_ac1_3 X Y O C n i p A
    rw [tw_ac, hn]
    show (tw_ac X Y O e m (c + 1) (e c) (p + n) (C + 1) _).1 = p + olen (oseg X Y O (e c - i) i :: oown X Y O e m (c + 1) (e c)) ∧ _ ∧ rp _ p C (oseg X Y O (e c - i) i :: oown X Y O e m (c + 1) (e c)) ∧ _
    rw [hn]
    generalize tw_ac1 X Y O C n i p A = B at a b a3 ⊢
    have n3 : ∀ k, k ≠ 3 → va_up B 3 (upd (B 3) (C + 1) (nI (p + n))) k = B k := fun k hk => va_up_ne _ _ hk
    have s3 : va_up B 3 (upd (B 3) (C + 1) (nI (p + n))) 3 = upd (B 3) (C + 1) (nI (p + n)) := va_up_self _ _ _
    obtain ⟨c1, c2, c3, c4⟩ := ih (c + 1) (e c) (p + n) (C + 1) (va_up B 3 (upd (B 3) (C + 1) (nI (p + n)))) (fun z q1 q2 => he z (by omega) (by omega)) (fun h0 => hm c (Nat.le_refl _) (by omega)) (fun z q1 q2 => hm z (by omega) (by omega)) (by rw [s3]; exact if_pos rfl)
    have hk : kp p C A (va_up B 3 (upd (B 3) (C + 1) (nI (p + n)))) := by
      refine ⟨fun z hz => ?_, fun z hz => ?_⟩
      · rw [n3 0 (by decide), n3 1 (by decide), n3 2 (by decide), n3 4 (by decide)]
        exact b z (Or.inl hz)
      · rw [s3, a3]
        exact if_neg (by omega)
    refine ⟨?_, ?_, ⟨?_, ?_, ?_⟩, hk.tr c4 (by omega) (by omega)⟩
    · rw [c1]
      show p + n + _ = p + ((oseg X Y O n i).length + _)
      rw [oseg_len, Nat.add_assoc]
    · rw [c2]; omega
    · rw [c4.2 C (by omega), s3, a3]
      exact (if_neg (by omega)).trans h
    · intro j q hq
      obtain ⟨j1, j2⟩ := oseg_get X Y O n i j q hq
      obtain ⟨d0, d1, d2, d4⟩ := c4.1 (p + j) (by omega)
      obtain ⟨f0, f1, f2, f4⟩ := a j j1
      rw [d0, d1, d2, d4, n3 0 (by decide), n3 1 (by decide), n3 2 (by decide), n3 4 (by decide), f0, f1, f2, f4, j2, hO _ (by omega)]
      exact ⟨rfl, rfl, rfl, rfl⟩
    · rw [oseg_len]
      exact c3
/-- a part's turn -/
def tpp (t : Nat) (dx dy : Int32) (q : oP) : oP := ((tw_tp t dx dy (q.1, q.2.1)).1, (tw_tp t dx dy (q.1, q.2.1)).2, q.2.2)
def tpc (t : Nat) (dx dy : Int32) (l : List oP) : List oP := if t < 4 then l.map (tpp t dx dy) else (l.map (tpp t dx dy)).reverse
theorem tw_tas_i (t : Nat) (dx dy : Int32) : ∀ m k (A : Nat → Nat → Int32), (∀ z, k ≤ z → z < k + m → (tw_tas t dx dy m k A 0 z, tw_tas t dx dy m k A 1 z) = tw_tp t dx dy (A 0 z, A 1 z)) ∧ (∀ z, z < k ∨ k + m ≤ z → tw_tas t dx dy m k A 0 z = A 0 z ∧ tw_tas t dx dy m k A 1 z = A 1 z) ∧ tw_tas t dx dy m k A 2 = A 2 ∧ tw_tas t dx dy m k A 3 = A 3 ∧ tw_tas t dx dy m k A 4 = A 4 := by
  intro m
  induction m with
  | zero => intro k A; exact ⟨fun z h1 h2 => by omega, fun z _ => ⟨rfl, rfl⟩, rfl, rfl, rfl⟩
  | succ m ih =>
    intro k A
    rw [tw_tas]
    generalize hB : va_up (va_up A 0 (upd (A 0) k ((tw_rot (t % 4) (if t < 4 then A 0 k else -(A 0 k)) (A 1 k)).1 + dx))) 1 (upd (A 1) k ((tw_rot (t % 4) (if t < 4 then A 0 k else -(A 0 k)) (A 1 k)).2 + dy)) = B
    have e0 : B 0 = upd (A 0) k (tw_tp t dx dy (A 0 k, A 1 k)).1 := by rw [← hB, va_up_ne _ _ (by decide), va_up_self]; rfl
    have e1 : B 1 = upd (A 1) k (tw_tp t dx dy (A 0 k, A 1 k)).2 := by rw [← hB, va_up_self]; rfl
    have e2 : ∀ j, j ≠ 0 → j ≠ 1 → B j = A j := fun j h0 h1 => by rw [← hB, va_up_ne _ _ h1, va_up_ne _ _ h0]
    have un : ∀ (g : Nat → Int32) v z, z ≠ k → upd g k v z = g z := fun g v z h => if_neg h
    have us : ∀ (g : Nat → Int32) v, upd g k v k = v := fun g v => if_pos rfl
    obtain ⟨a, b, c2, c3, c4⟩ := ih (k + 1) B
    refine ⟨fun z h1 h2 => ?_, fun z hz => ?_, ?_, ?_, ?_⟩
    · by_cases hz : z = k
      · subst hz
        obtain ⟨b0, b1⟩ := b z (Or.inl (Nat.lt_succ_self _))
        rw [b0, b1, e0, e1, us, us]
      · rw [a z (by omega) (by omega), e0, e1, un _ _ _ hz, un _ _ _ hz]
    · obtain ⟨b0, b1⟩ := b z (by omega)
      rw [b0, b1, e0, e1, un _ _ _ (by omega), un _ _ _ (by omega)]
      exact ⟨rfl, rfl⟩
    · rw [c2, e2 2 (by decide) (by decide)]
    · rw [c3, e2 3 (by decide) (by decide)]
    · rw [c4, e2 4 (by decide) (by decide)]
theorem olen_map {f : List oP → List oP} (hf : ∀ l, (f l).length = l.length) : ∀ L : oC, olen (L.map f) = olen L
  | [] => rfl
  | l :: L => by
    show (f l).length + olen (L.map f) = l.length + olen L
    rw [hf, olen_map hf L]
theorem tpc_len (t : Nat) (dx dy : Int32) (l : List oP) : (tpc t dx dy l).length = l.length := by
  unfold tpc
  split
  · rw [List.length_map]
  · rw [List.length_reverse, List.length_map]
theorem rp_map {t : Nat} {dx dy : Int32} {A B : Nat → Nat → Int32} (h3 : B 3 = A 3) (h4 : B 4 = A 4) (h2 : B 2 = A 2) : ∀ {L : oC} {p C : Nat}, (∀ z, p ≤ z → z < p + olen L → (B 0 z, B 1 z) = tw_tp t dx dy (A 0 z, A 1 z)) → rp A p C L → rp B p C (L.map (List.map (tpp t dx dy)))
  | [], p, C, _, h => by show B 3 C = nI p; rw [h3]; exact h
  | l :: L, p, C, h0, h => by
    have e : olen (l :: L) = l.length + olen L := rfl
    refine ⟨by rw [h3]; exact h.1, fun i q hi => ?_, ?_⟩
    · rw [List.getElem?_map] at hi
      cases hli : l[i]? with
      | none => rw [hli] at hi; cases hi
      | some r =>
        rw [hli] at hi
        have hr := Option.some.inj hi
        have := get_lt hli
        obtain ⟨a0, a1, a2, a4⟩ := h.2.1 i r hli
        have ht := h0 (p + i) (by omega) (by omega)
        rw [a0, a1] at ht
        have t0 : B 0 (p + i) = (tw_tp t dx dy (r.1, r.2.1)).1 := congrArg Prod.fst ht
        have t1 : B 1 (p + i) = (tw_tp t dx dy (r.1, r.2.1)).2 := congrArg Prod.snd ht
        rw [t0, t1, h2, a2, h4, a4, ← hr]
        exact ⟨rfl, rfl, rfl, rfl⟩
    · rw [List.length_map]
      exact rp_map h3 h4 h2 (fun z q1 q2 => h0 z (by omega) (by omega)) h.2.2
theorem ou_sw_i (A : Nat → Nat → Int32) (i j : Nat) : ou_sw A i j 0 = upd (upd (A 0) i (A 0 j)) j (A 0 i) ∧ ou_sw A i j 1 = upd (upd (A 1) i (A 1 j)) j (A 1 i) ∧ ou_sw A i j 2 = upd (upd (A 2) i (vp_nar .boolean (A 2 j))) j (vp_nar .boolean (A 2 i)) ∧ ou_sw A i j 3 = A 3 ∧ ou_sw A i j 4 = A 4 := ⟨rfl, rfl, rfl, rfl, rfl⟩
theorem tw_rev1_i : ∀ m i j (A : Nat → Nat → Int32), j ≤ i + m → (∀ z, i ≤ z → z ≤ j → vp_nar .boolean (A 2 z) = A 2 z) → (∀ k, k < 3 → ∀ z, tw_rev1 m i j A k z = if i ≤ z ∧ z ≤ j then A k (i + j - z) else A k z) ∧ tw_rev1 m i j A 3 = A 3 ∧ tw_rev1 m i j A 4 = A 4 := by
  intro m
  induction m with
  | zero =>
    intro i j A h _
    refine ⟨fun k _ z => ?_, rfl, rfl⟩
    show A k z = _
    by_cases c : i ≤ z ∧ z ≤ j
    · rw [if_pos c, show i + j - z = z by omega]
    · rw [if_neg c]
  | succ m ih =>
    intro i j A h hN
    by_cases c : i < j
    · rw [show tw_rev1 (m + 1) i j A = tw_rev1 m (i + 1) (j - 1) (ou_sw A i j) from if_pos c]
      obtain ⟨s0, s1, s2, s3, s4⟩ := ou_sw_i A i j
      have hk : ∀ k, k < 3 → ou_sw A i j k = upd (upd (A k) i (A k j)) j (A k i) := by
        intro k hk
        rcases (show k = 0 ∨ k = 1 ∨ k = 2 by omega) with rfl | rfl | rfl
        · exact s0
        · exact s1
        · rw [s2, hN i (by omega) (by omega), hN j (by omega) (by omega)]
      have hu : ∀ k, k < 3 → ∀ z, ou_sw A i j k z = if z = j then A k i else if z = i then A k j else A k z := fun k hk3 z => by rw [hk k hk3]; rfl
      obtain ⟨a, b3, b4⟩ := ih (i + 1) (j - 1) (ou_sw A i j) (by omega) (fun z q1 q2 => by rw [hu 2 (by decide), if_neg (by omega), if_neg (by omega)]; exact hN z (by omega) (by omega))
      refine ⟨fun k hk3 z => ?_, by rw [b3, s3], by rw [b4, s4]⟩
      rw [a k hk3]
      by_cases c2 : i + 1 ≤ z ∧ z ≤ j - 1
      · rw [if_pos c2, if_pos (by omega), hu k hk3, if_neg (by omega), if_neg (by omega), show i + 1 + (j - 1) - z = i + j - z by omega]
      · rw [if_neg c2, hu k hk3]
        by_cases c3 : z = j
        · rw [if_pos c3, if_pos (by omega), c3, show i + j - j = i by omega]
        · rw [if_neg c3]
          by_cases c4 : z = i
          · rw [if_pos c4, if_pos (by omega), c4, show i + j - i = j by omega]
          · rw [if_neg c4, if_neg (by omega)]
    · rw [show tw_rev1 (m + 1) i j A = A from if_neg c]
      refine ⟨fun k _ z => ?_, rfl, rfl⟩
      by_cases c2 : i ≤ z ∧ z ≤ j
      · rw [if_pos c2, show i + j - z = z by omega]
      · rw [if_neg c2]
theorem rp_rev {S : Nat → Nat} : ∀ {L : oC} {p C : Nat} {A : Nat → Nat → Int32}, p + olen L ≤ 160 → (∀ l ∈ L, 0 < l.length) → (∀ z, C ≤ z → z ≤ C + L.length → (A 3 z).toNatClampNeg = S z) → (∀ z, p ≤ z → z < p + olen L → vp_nar .boolean (A 2 z) = A 2 z) → rp A p C L → rp (tw_rev S L.length C A) p C (L.map List.reverse) ∧ kp p C A (tw_rev S L.length C A) ∧ tw_rev S L.length C A 3 = A 3
  | [], p, C, A, _, _, _, _, h => ⟨h, ⟨fun z _ => ⟨rfl, rfl, rfl, rfl⟩, fun _ _ => rfl⟩, rfl⟩
  | l :: L, p, C, A, hp, hl, hS, hN, h => by
    have e : olen (l :: L) = l.length + olen L := rfl
    have el : (l :: L).length = L.length + 1 := List.length_cons
    have hl0 := hl l (List.mem_cons_self ..)
    have sC : S C = p := by rw [← hS C (Nat.le_refl _) (by omega), h.1, nI_clamp (by omega)]
    have sC1 : S (C + 1) = p + l.length := by rw [← hS (C + 1) (by omega) (by omega), rp_3 h.2.2, nI_clamp (by omega)]
    rw [el]
    rw [show tw_rev S (L.length + 1) C A = tw_rev S L.length (C + 1) (tw_rev1 160 (S C) (S (C + 1) - 1) A) from rfl, sC, sC1]
    obtain ⟨a, b3, b4⟩ := tw_rev1_i 160 p (p + l.length - 1) A (by omega) (fun z q1 q2 => hN z q1 (by omega))
    generalize tw_rev1 160 p (p + l.length - 1) A = B at a b3 b4 ⊢
    have hin : ∀ k, k < 3 → ∀ z, p ≤ z → z < p + l.length → B k z = A k (p + (p + l.length - 1) - z) := fun k hk z q1 q2 => by rw [a k hk, if_pos (by omega)]
    have hout : ∀ k, k < 3 → ∀ z, z < p ∨ p + l.length ≤ z → B k z = A k z := fun k hk z q => by rw [a k hk, if_neg (by omega)]
    have hL : rp B (p + l.length) (C + 1) L := rp_congr (fun z q1 q2 => ⟨hout 0 (by decide) z (by omega), hout 1 (by decide) z (by omega), hout 2 (by decide) z (by omega), by rw [b4]⟩) (fun z _ _ => by rw [b3]) h.2.2
    obtain ⟨r1, r2, r3⟩ := rp_rev (S := S) (L := L) (p := p + l.length) (C := C + 1) (A := B) (by omega) (fun l2 h2 => hl l2 (List.mem_cons_of_mem _ h2)) (fun z q1 q2 => by rw [b3]; exact hS z (by omega) (by omega)) (fun z q1 q2 => by rw [hout 2 (by decide) z (by omega)]; exact hN z (by omega) (by omega)) hL
    refine ⟨⟨?_, ?_, ?_⟩, ⟨fun z hz => ?_, fun z hz => ?_⟩, by rw [r3, b3]⟩
    · rw [r3, b3]; exact h.1
    · intro i q hi
      have hi2 := get_lt hi
      rw [List.length_reverse] at hi2
      rw [List.getElem?_reverse hi2] at hi
      obtain ⟨f0, f1, f2, f4⟩ := h.2.1 _ q hi
      obtain ⟨g0, g1, g2, g4⟩ := r2.1 (p + i) (by omega)
      have hz : p + (p + l.length - 1) - (p + i) = p + (l.length - 1 - i) := by omega
      obtain ⟨_, _, _, k4⟩ := h.2.1 i (l[i]) (List.getElem?_eq_getElem hi2)
      rw [g0, g1, g2, g4, hin 0 (by decide) _ (by omega) (by omega), hin 1 (by decide) _ (by omega) (by omega), hin 2 (by decide) _ (by omega) (by omega), hz, f0, f1, f2, b4, k4]
      exact ⟨rfl, rfl, rfl, rfl⟩
    · rw [List.length_reverse]
      exact r1
    · obtain ⟨g0, g1, g2, g4⟩ := r2.1 z (by omega)
      rw [g0, g1, g2, g4, hout 0 (by decide) z (Or.inl hz), hout 1 (by decide) z (Or.inl hz), hout 2 (by decide) z (Or.inl hz), b4]
      exact ⟨rfl, rfl, rfl, rfl⟩
    · rw [r3, b3]
