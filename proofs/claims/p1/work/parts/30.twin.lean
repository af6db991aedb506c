/-! the reference's object: its world, and rows over it -/
def tm_tab : List (Nat × Nat) := [(9, 0), (9, 0), (9, 0), (0, 6400), (3, 1600), (0, 40), (0, 40), (0, 40), (0, 160), (1, 40), (0, 40), (0, 40), (0, 40), (0, 160), (0, 160), (0, 160), (0, 160), (9, 0), (9, 0), (0, 160), (0, 160), (1, 160), (0, 160), (9, 0), (9, 0), (0, 6), (0, 6), (9, 0), (9, 0), (0, 8), (9, 0), (0, 4096), (9, 0), (9, 0), (9, 0), (3, 40), (3, 40), (4, 256), (1, 256), (0, 40), (0, 40), (9, 0), (0, 40), (0, 40), (0, 40), (2, 40), (0, 40), (9, 0), (9, 0), (0, 60), (9, 0), (0, 60), (9, 0), (9, 0), (9, 0)]
def tm_kd (k : Nat) : Nat × Nat := tm_tab.getD k (9, 0)
def tm_F (ad : Nat → Nat) (J : Nat → Int32) : List Value := [.int (J 0), .int (J 1), .int (J 2), .ref (ad 3), .ref (ad 4), .ref (ad 5), .ref (ad 6), .ref (ad 7), .ref (ad 8), .ref (ad 9), .ref (ad 10), .ref (ad 11), .ref (ad 12), .ref (ad 13), .ref (ad 14), .ref (ad 15), .ref (ad 16), .int (J 17), .int (J 18), .ref (ad 19), .ref (ad 20), .ref (ad 21), .ref (ad 22), .int (J 23), .int (J 24), .ref (ad 25), .ref (ad 26), .int (J 27), .int (J 28), .ref (ad 29), .int (J 30), .ref (ad 31), .int (J 32), .int (J 33), .int (J 34), .ref (ad 35), .ref (ad 36), .ref (ad 37), .ref (ad 38), .ref (ad 39), .ref (ad 40), .int (J 41), .ref (ad 42), .ref (ad 43), .ref (ad 44), .ref (ad 45), .ref (ad 46), .int (J 47), .int (J 48), .ref (ad 49), .int (J 50), .ref (ad 51), .int (J 52), .int (J 53), .int (J 54)]
def tm_ar (q : Nat → ClassId) (k : Nat) (g : Nat → Int32) (R : Nat → Int64) : va_E := if (tm_kd k).1 = 2 then tj q (tm_kd k).2 R else .inl (q (tm_kd k).1, (tm_kd k).2, .inl g)
def tm_own (ad : Nat → Nat) (m z : Nat) : Prop := z = m ∨ ∃ k, (tm_kd k).1 ≠ 9 ∧ z = ad k
/-- the object at m with its arrays at ad: the ints J, the arrays A, the longs R -/
def tm_ok (q : Nat → ClassId) (ad : Nat → Nat) (m : Nat) (J : Nat → Int32) (A : Nat → Nat → Int32) (R : Nat → Int64) (L : List Nat) (f : tf_F) : Prop :=
  m ∈ L ∧ f m = to 11 (tm_F ad J) ∧ (∀ k, (tm_kd k).1 ≠ 9 → ad k ∈ L ∧ f (ad k) = tm_ar q k (A k) R) ∧ ∀ i j, (tm_kd i).1 ≠ 9 → (tm_kd j).1 ≠ 9 → ad i = ad j → i = j
/-- the world of a walk: the object, and all else as in W0 -/
def tm_at (q : Nat → ClassId) (ad : Nat → Nat) (m : Nat) (W0 : tf_F) (L : List Nat) (J : Nat → Int32) (A : Nat → Nat → Int32) (R : Nat → Int64) (f : tf_F) : Prop :=
  tm_ok q ad m J A R L f ∧ ∀ z, ¬ tm_own ad m z → f z = W0 z
section
variable {q : Nat → ClassId} {ad : Nat → Nat} {m : Nat} {W0 : tf_F} {L : List Nat} {J : Nat → Int32} {A : Nat → Nat → Int32} {R : Nat → Int64} {f : tf_F}
theorem tm_inl (k : Nat) (g : Nat → Int32) (R : Nat → Int64) : ∃ z, tm_ar q k g R = .inl z := by
  unfold tm_ar
  split
  · exact ⟨_, rfl⟩
  · exact ⟨_, rfl⟩
theorem tm_ne (h : tm_ok q ad m J A R L f) {k : Nat} (hk : (tm_kd k).1 ≠ 9) : ad k ≠ m := by
  intro e
  obtain ⟨h1, h2, h3, h4⟩ := h
  have := (h3 k hk).2
  rw [e, h2] at this
  obtain ⟨z, hz⟩ := tm_inl (q := q) k (A k) R
  rw [hz] at this
  cases this
theorem tm_put_ok (h : tm_at q ad m W0 L J A R f) {J2 : Nat → Int32} : tm_at q ad m W0 L J2 A R (va_up f m (to 11 (tm_F ad J2))) := by
  obtain ⟨h0, hw⟩ := h
  obtain ⟨h1, h2, h3, h4⟩ := id h0
  refine ⟨⟨h1, va_up_self _ _ _, fun k hk => ⟨(h3 k hk).1, tf_u (tm_ne h0 hk) (h3 k hk).2⟩, h4⟩, fun z hz => tf_u (fun e => hz (Or.inl e)) (hw z hz)⟩
theorem tm_ast_ok (h : tm_at q ad m W0 L J A R f) {k : Nat} (hk : (tm_kd k).1 ≠ 9) (h2 : (tm_kd k).1 ≠ 2) {g : Nat → Int32} : tm_at q ad m W0 L J (va_up A k g) R (va_up f (ad k) (tm_ar q k g R)) := by
  obtain ⟨h0, hw⟩ := h
  obtain ⟨h1, hm, h3, h4⟩ := id h0
  refine ⟨⟨h1, tf_u (fun e => tm_ne h0 hk e.symm) hm, fun j hj => ⟨(h3 j hj).1, ?_⟩, h4⟩, fun z hz => tf_u (fun e => hz (Or.inr ⟨k, hk, e⟩)) (hw z hz)⟩
  by_cases e : j = k
  · subst e
    rw [va_up_self, va_up_self]
  · rw [va_up_ne A g e]
    exact tf_u (fun e2 => e (h4 j k hj hk e2)) (h3 j hj).2
theorem tm_only2 : ∀ j, (tm_kd j).1 = 2 → j = 45 := by
  intro j h
  by_cases hj : j < 55
  · revert h
    revert j
    decide +kernel
  · have : tm_kd j = (9, 0) := by
      unfold tm_kd
      have h9 : tm_tab[j]? = none := List.getElem?_eq_none (by show 55 ≤ j; omega)
      rw [List.getD_eq_getElem?_getD, h9]
      rfl
    rw [this] at h
    cases h
theorem tm_last_ok (h : tm_at q ad m W0 L J A R f) {R2 : Nat → Int64} : tm_at q ad m W0 L J A R2 (va_up f (ad 45) (tm_ar q 45 (A 45) R2)) := by
  obtain ⟨h0, hw⟩ := h
  obtain ⟨h1, hm, h3, h4⟩ := id h0
  have hk : (tm_kd 45).1 ≠ 9 := by decide
  refine ⟨⟨h1, tf_u (fun e => tm_ne h0 hk e.symm) hm, fun j hj => ⟨(h3 j hj).1, ?_⟩, h4⟩, fun z hz => tf_u (fun e => hz (Or.inr ⟨45, hk, e⟩)) (hw z hz)⟩
  by_cases e : j = 45
  · subst e
    exact va_up_self _ _ _
  · refine tf_u (fun e2 => e (h4 j 45 hj hk e2)) ?_
    rw [(h3 j hj).2]
    have : ¬ (tm_kd j).1 = 2 := fun z => e (tm_only2 j z)
    unfold tm_ar
    rw [if_neg this, if_neg this]
theorem tm_arI (h : tm_at q ad m W0 L J A R f) {k t n : Nat} (hk : tm_kd k = (t, n)) (ht : t ≠ 9) (h2 : t ≠ 2) : ad k ∈ L ∧ f (ad k) = .inl (q t, n, .inl (A k)) := by
  have hk1 : (tm_kd k).1 ≠ 9 := by rw [hk]; exact ht
  have := h.1.2.2.1 k hk1
  refine ⟨this.1, this.2.trans ?_⟩
  unfold tm_ar
  rw [hk, if_neg h2]
theorem tm_arJ (h : tm_at q ad m W0 L J A R f) : ad 45 ∈ L ∧ f (ad 45) = tj q 40 R := by
  have := h.1.2.2.1 45 (by decide)
  exact ⟨this.1, this.2.trans rfl⟩
variable {l : Launch} {D : va_G} {EX : State → (Nat → Prop) → Prop} {QB : tf_B} {d : Nat} {i : tf_I} {pc : Nat} {lv : tf_V} {st : List Value} {kc ks : Nat}
theorem tm_get {ix k : Nat} {v : Value} (nxt : Nat) (hd : decode i.2.1 pc = .ok (.getfield ix, 3)) (hn : pc + 3 = nxt) (hF : tf_fl (tf_H D q) i.1.cls ix 11 k) (hT : tm_at q ad m W0 L J A R f) (hv : (tm_F ad J)[k]? = some v) (kk : tf_W l (tf_H D q) EX QB d i nxt lv (v :: st) L f kc ks) : tf_W l (tf_H D q) EX QB d i pc lv (.ref m :: st) L f kc ks :=
  tf_get nxt hd hn hF hT.1.1 hT.1.2.1 hv kk
theorem tm_put {ix k : Nat} {v : Int32} {ty : FieldType} (nxt : Nat) (hd : decode i.2.1 pc = .ok (.putfield ix, 3)) (hn : pc + 3 = nxt) (hF : tf_fw (tf_H D q) i.1.cls ix 11 k ty) (hT : tm_at q ad m W0 L J A R f) (hk : k < 55) (hs : (tm_F ad J).set k (.int v) = tm_F ad (upd J k v)) (hna : narrow ty (.int v) = .int v) (hfi : fits ty (.int v) = true) (kk : ∀ f2 : tf_F, tm_at q ad m W0 L (upd J k v) A R f2 → tf_W l (tf_H D q) EX QB d i nxt lv st L f2 kc ks) : tf_W l (tf_H D q) EX QB d i pc lv (.int v :: .ref m :: st) L f kc ks := by
  refine tf_put nxt hd hn hF hT.1.1 hT.1.2.1 hk hna hfi ?_
  rw [hs]
  exact kk _ (tm_put_ok hT)
theorem tm_iald {n : Nat} {x : Int32} (k nxt : Nat) (hd : decode i.2.1 pc = .ok (.iaload, 1)) (hn : pc + 1 = nxt) (hT : tm_at q ad m W0 L J A R f) (hk : tm_kd k = (0, n)) (hin : vp_in x n) (kk : tf_W l (tf_H D q) EX QB d i nxt lv (.int (A k x.toNatClampNeg) :: st) L f kc ks) : tf_W l (tf_H D q) EX QB d i pc lv (.int x :: .ref (ad k) :: st) L f kc ks :=
  tf_iald nxt 0 hd hn rfl (tm_arI hT hk (by decide) (by decide)).1 (tm_arI hT hk (by decide) (by decide)).2 hin kk
theorem tm_zald {n : Nat} {x : Int32} (k nxt : Nat) (hd : decode i.2.1 pc = .ok (.baload, 1)) (hn : pc + 1 = nxt) (hT : tm_at q ad m W0 L J A R f) (hk : tm_kd k = (1, n)) (hin : vp_in x n) (kk : tf_W l (tf_H D q) EX QB d i nxt lv (.int (A k x.toNatClampNeg) :: st) L f kc ks) : tf_W l (tf_H D q) EX QB d i pc lv (.int x :: .ref (ad k) :: st) L f kc ks :=
  tf_zald nxt 1 hd hn rfl (tm_arI hT hk (by decide) (by decide)).1 (tm_arI hT hk (by decide) (by decide)).2 hin kk
theorem tm_bald {n : Nat} {x : Int32} (k nxt : Nat) (hd : decode i.2.1 pc = .ok (.baload, 1)) (hn : pc + 1 = nxt) (hT : tm_at q ad m W0 L J A R f) (hk : tm_kd k = (3, n)) (hin : vp_in x n) (kk : tf_W l (tf_H D q) EX QB d i nxt lv (.int (A k x.toNatClampNeg) :: st) L f kc ks) : tf_W l (tf_H D q) EX QB d i pc lv (.int x :: .ref (ad k) :: st) L f kc ks :=
  tf_bald nxt 3 hd hn rfl (tm_arI hT hk (by decide) (by decide)).1 (tm_arI hT hk (by decide) (by decide)).2 hin kk
theorem tm_sald {n : Nat} {x : Int32} (k nxt : Nat) (hd : decode i.2.1 pc = .ok (.saload, 1)) (hn : pc + 1 = nxt) (hT : tm_at q ad m W0 L J A R f) (hk : tm_kd k = (4, n)) (hin : vp_in x n) (kk : tf_W l (tf_H D q) EX QB d i nxt lv (.int (A k x.toNatClampNeg) :: st) L f kc ks) : tf_W l (tf_H D q) EX QB d i pc lv (.int x :: .ref (ad k) :: st) L f kc ks :=
  tf_sald nxt 4 hd hn rfl (tm_arI hT hk (by decide) (by decide)).1 (tm_arI hT hk (by decide) (by decide)).2 hin kk
theorem tm_lald {x : Int32} (nxt : Nat) (hd : decode i.2.1 pc = .ok (.laload, 1)) (hn : pc + 1 = nxt) (hT : tm_at q ad m W0 L J A R f) (hin : vp_in x 40) (kk : tf_W l (tf_H D q) EX QB d i nxt lv (.long (R x.toNatClampNeg) :: st) L f kc ks) : tf_W l (tf_H D q) EX QB d i pc lv (.int x :: .ref (ad 45) :: st) L f kc ks :=
  tf_lald nxt 2 hd hn rfl (tm_arJ hT).1 (tm_arJ hT).2 hin kk
theorem tm_lastr {x : Int32} {v : Int64} (nxt : Nat) (hd : decode i.2.1 pc = .ok (.lastore, 1)) (hn : pc + 1 = nxt) (hT : tm_at q ad m W0 L J A R f) (hin : vp_in x 40) (kk : ∀ f2 : tf_F, tm_at q ad m W0 L J A (vp_updL R x.toNatClampNeg v) f2 → tf_W l (tf_H D q) EX QB d i nxt lv st L f2 kc ks) : tf_W l (tf_H D q) EX QB d i pc lv (.long v :: .int x :: .ref (ad 45) :: st) L f kc ks :=
  tf_last nxt 2 hd hn rfl (tm_arJ hT).1 (tm_arJ hT).2 hin (kk _ (tm_last_ok hT))
theorem tm_iast {n : Nat} {x v : Int32} (k nxt : Nat) (hd : decode i.2.1 pc = .ok (.iastore, 1)) (hn : pc + 1 = nxt) (hT : tm_at q ad m W0 L J A R f) (hk : tm_kd k = (0, n)) (hin : vp_in x n) (kk : ∀ f2 : tf_F, tm_at q ad m W0 L J (va_up A k (upd (A k) x.toNatClampNeg v)) R f2 → tf_W l (tf_H D q) EX QB d i nxt lv st L f2 kc ks) : tf_W l (tf_H D q) EX QB d i pc lv (.int v :: .int x :: .ref (ad k) :: st) L f kc ks := by
  refine tf_iast nxt 0 hd hn rfl (tm_arI hT hk (by decide) (by decide)).1 (tm_arI hT hk (by decide) (by decide)).2 hin ?_
  have h9 := tm_ast_ok hT (k := k) (by rw [hk]; exact (by decide : (0 : Nat) ≠ 9)) (by rw [hk]; exact (by decide : (0 : Nat) ≠ 2)) (g := upd (A k) x.toNatClampNeg v)
  have e9 : tm_ar q k (upd (A k) x.toNatClampNeg v) R = .inl (q 0, n, .inl (upd (A k) x.toNatClampNeg v)) := by
    unfold tm_ar
    rw [hk, if_neg (show ¬ (0 : Nat) = 2 by decide)]
  rw [e9] at h9
  exact kk _ h9
theorem tm_zast {n : Nat} {x v : Int32} (k nxt : Nat) (hd : decode i.2.1 pc = .ok (.bastore, 1)) (hn : pc + 1 = nxt) (hT : tm_at q ad m W0 L J A R f) (hk : tm_kd k = (1, n)) (hin : vp_in x n) (kk : ∀ f2 : tf_F, tm_at q ad m W0 L J (va_up A k (upd (A k) x.toNatClampNeg (vp_nar .boolean v))) R f2 → tf_W l (tf_H D q) EX QB d i nxt lv st L f2 kc ks) : tf_W l (tf_H D q) EX QB d i pc lv (.int v :: .int x :: .ref (ad k) :: st) L f kc ks := by
  refine tf_zast nxt 1 hd hn rfl (tm_arI hT hk (by decide) (by decide)).1 (tm_arI hT hk (by decide) (by decide)).2 hin ?_
  have h9 := tm_ast_ok hT (k := k) (by rw [hk]; exact (by decide : (1 : Nat) ≠ 9)) (by rw [hk]; exact (by decide : (1 : Nat) ≠ 2)) (g := upd (A k) x.toNatClampNeg (vp_nar .boolean v))
  have e9 : tm_ar q k (upd (A k) x.toNatClampNeg (vp_nar .boolean v)) R = .inl (q 1, n, .inl (upd (A k) x.toNatClampNeg (vp_nar .boolean v))) := by
    unfold tm_ar
    rw [hk, if_neg (show ¬ (1 : Nat) = 2 by decide)]
  rw [e9] at h9
  exact kk _ h9
theorem tm_bast {n : Nat} {x v : Int32} (k nxt : Nat) (hd : decode i.2.1 pc = .ok (.bastore, 1)) (hn : pc + 1 = nxt) (hT : tm_at q ad m W0 L J A R f) (hk : tm_kd k = (3, n)) (hin : vp_in x n) (kk : ∀ f2 : tf_F, tm_at q ad m W0 L J (va_up A k (upd (A k) x.toNatClampNeg (vp_nar .byte v))) R f2 → tf_W l (tf_H D q) EX QB d i nxt lv st L f2 kc ks) : tf_W l (tf_H D q) EX QB d i pc lv (.int v :: .int x :: .ref (ad k) :: st) L f kc ks := by
  refine tf_bast nxt 3 hd hn rfl (tm_arI hT hk (by decide) (by decide)).1 (tm_arI hT hk (by decide) (by decide)).2 hin ?_
  have h9 := tm_ast_ok hT (k := k) (by rw [hk]; exact (by decide : (3 : Nat) ≠ 9)) (by rw [hk]; exact (by decide : (3 : Nat) ≠ 2)) (g := upd (A k) x.toNatClampNeg (vp_nar .byte v))
  have e9 : tm_ar q k (upd (A k) x.toNatClampNeg (vp_nar .byte v)) R = .inl (q 3, n, .inl (upd (A k) x.toNatClampNeg (vp_nar .byte v))) := by
    unfold tm_ar
    rw [hk, if_neg (show ¬ (3 : Nat) = 2 by decide)]
  rw [e9] at h9
  exact kk _ h9
theorem tm_sast {n : Nat} {x v : Int32} (k nxt : Nat) (hd : decode i.2.1 pc = .ok (.sastore, 1)) (hn : pc + 1 = nxt) (hT : tm_at q ad m W0 L J A R f) (hk : tm_kd k = (4, n)) (hin : vp_in x n) (kk : ∀ f2 : tf_F, tm_at q ad m W0 L J (va_up A k (upd (A k) x.toNatClampNeg (vp_nar .short v))) R f2 → tf_W l (tf_H D q) EX QB d i nxt lv st L f2 kc ks) : tf_W l (tf_H D q) EX QB d i pc lv (.int v :: .int x :: .ref (ad k) :: st) L f kc ks := by
  refine tf_sast nxt 4 hd hn rfl (tm_arI hT hk (by decide) (by decide)).1 (tm_arI hT hk (by decide) (by decide)).2 hin ?_
  have h9 := tm_ast_ok hT (k := k) (by rw [hk]; exact (by decide : (4 : Nat) ≠ 9)) (by rw [hk]; exact (by decide : (4 : Nat) ≠ 2)) (g := upd (A k) x.toNatClampNeg (vp_nar .short v))
  have e9 : tm_ar q k (upd (A k) x.toNatClampNeg (vp_nar .short v)) R = .inl (q 4, n, .inl (upd (A k) x.toNatClampNeg (vp_nar .short v))) := by
    unfold tm_ar
    rw [hk, if_neg (show ¬ (4 : Nat) = 2 by decide)]
  rw [e9] at h9
  exact kk _ h9
end
