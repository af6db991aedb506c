/-! the outline's world: the object at a, its arrays at ad 0 (xs), 1 (ys), 2 (on), 3 (starts), 4 (contourOf) -/
def ou_t (k : Nat) : Nat := if k = 2 then 1 else 0
def ou_n (k : Nat) : Nat := if k = 3 then 54 else 160
def ou_ar (q : Nat → ClassId) (k : Nat) (g : Nat → Int32) : va_E := .inl (q (ou_t k), ou_n k, .inl g)
def ou_F (ad : Nat → Nat) (c p : Int32) : List Value := [.ref (ad 0), .ref (ad 1), .ref (ad 2), .ref (ad 3), .int c, .ref (ad 4), .int p]
def ou_own (ad : Nat → Nat) (a z : Nat) : Prop := z = a ∨ ∃ k, k < 5 ∧ z = ad k
def ou_ok (q : Nat → ClassId) (ad : Nat → Nat) (a : Nat) (c p : Int32) (A : Nat → Nat → Int32) (L : List Nat) (f : tf_F) : Prop :=
  a ∈ L ∧ f a = to 6 (ou_F ad c p) ∧ (∀ k, k < 5 → ad k ∈ L ∧ f (ad k) = ou_ar q k (A k)) ∧ ∀ i j, i < 5 → j < 5 → ad i = ad j → i = j
def ou_at (q : Nat → ClassId) (ad : Nat → Nat) (a : Nat) (W0 : tf_F) (L : List Nat) (c p : Int32) (A : Nat → Nat → Int32) (f : tf_F) : Prop :=
  ou_ok q ad a c p A L f ∧ ∀ z, ¬ ou_own ad a z → f z = W0 z
section
variable {q : Nat → ClassId} {ad : Nat → Nat} {a : Nat} {W0 : tf_F} {L : List Nat} {c p : Int32} {A : Nat → Nat → Int32} {f : tf_F}
theorem ou_ne (h : ou_ok q ad a c p A L f) {k : Nat} (hk : k < 5) : ad k ≠ a := tf_n2 (h.2.2.1 k hk).2 h.2.1
theorem ou_put_ok (h : ou_at q ad a W0 L c p A f) {c2 p2 : Int32} : ou_at q ad a W0 L c2 p2 A (va_up f a (to 6 (ou_F ad c2 p2))) := by
  obtain ⟨h0, hw⟩ := h
  obtain ⟨h1, h2, h3, h4⟩ := id h0
  exact ⟨⟨h1, va_up_self _ _ _, fun k hk => ⟨(h3 k hk).1, tf_u (ou_ne h0 hk) (h3 k hk).2⟩, h4⟩, fun z hz => tf_u (fun e => hz (Or.inl e)) (hw z hz)⟩
theorem ou_ast_ok (h : ou_at q ad a W0 L c p A f) {k : Nat} (hk : k < 5) {g : Nat → Int32} : ou_at q ad a W0 L c p (va_up A k g) (va_up f (ad k) (ou_ar q k g)) := by
  obtain ⟨h0, hw⟩ := h
  obtain ⟨h1, hm, h3, h4⟩ := id h0
  refine ⟨⟨h1, tf_u (fun e => ou_ne h0 hk e.symm) hm, fun j hj => ⟨(h3 j hj).1, ?_⟩, h4⟩, fun z hz => tf_u (fun e => hz (Or.inr ⟨k, hk, e⟩)) (hw z hz)⟩
  by_cases e : j = k
  · subst e
    rw [va_up_self, va_up_self]
  · rw [va_up_ne _ _ (fun z => e (h4 _ _ hj hk z)), va_up_ne _ _ e]
    exact (h3 j hj).2
variable {l : Launch} {D : va_G} {EX : State → (Nat → Prop) → Prop} {QB : tf_B} {d : Nat} {i : tf_I} {pc : Nat} {lv : tf_V} {st : List Value} {kc ks : Nat}
theorem ou_get {ix k : Nat} {v : Value} (nxt : Nat) (hd : decode i.2.1 pc = .ok (.getfield ix, 3)) (hn : pc + 3 = nxt) (hF : tf_fl (tf_H D q) i.1.cls ix 6 k) (hT : ou_at q ad a W0 L c p A f) (hv : (ou_F ad c p)[k]? = some v) (kk : tf_W l (tf_H D q) EX QB d i nxt lv (v :: st) L f kc ks) : tf_W l (tf_H D q) EX QB d i pc lv (.ref a :: st) L f kc ks :=
  tf_get nxt hd hn hF hT.1.1 hT.1.2.1 hv kk
theorem ou_put {ix k : Nat} {v c2 p2 : Int32} {ty : FieldType} (nxt : Nat) (hd : decode i.2.1 pc = .ok (.putfield ix, 3)) (hn : pc + 3 = nxt) (hF : tf_fw (tf_H D q) i.1.cls ix 6 k ty) (hT : ou_at q ad a W0 L c p A f) (hk : k < 7) (hs : (ou_F ad c p).set k (.int v) = ou_F ad c2 p2) (hna : narrow ty (.int v) = .int v) (hfi : fits ty (.int v) = true) (kk : ∀ f2 : tf_F, ou_at q ad a W0 L c2 p2 A f2 → tf_W l (tf_H D q) EX QB d i nxt lv st L f2 kc ks) : tf_W l (tf_H D q) EX QB d i pc lv (.int v :: .ref a :: st) L f kc ks := by
  refine tf_put nxt hd hn hF hT.1.1 hT.1.2.1 hk hna hfi ?_
  rw [hs]
  exact kk _ (ou_put_ok hT)
theorem ou_iald {x : Int32} (k nxt : Nat) (hd : decode i.2.1 pc = .ok (.iaload, 1)) (hn : pc + 1 = nxt) (hT : ou_at q ad a W0 L c p A f) (hk : k < 5) (h2 : ou_t k = 0) (hin : vp_in x (ou_n k)) (kk : tf_W l (tf_H D q) EX QB d i nxt lv (.int (A k x.toNatClampNeg) :: st) L f kc ks) : tf_W l (tf_H D q) EX QB d i pc lv (.int x :: .ref (ad k) :: st) L f kc ks := by
  have h9 := (hT.1.2.2.1 k hk).2
  rw [ou_ar, h2] at h9
  exact tf_iald nxt 0 hd hn rfl (hT.1.2.2.1 k hk).1 h9 hin kk
theorem ou_zald {x : Int32} (nxt : Nat) (hd : decode i.2.1 pc = .ok (.baload, 1)) (hn : pc + 1 = nxt) (hT : ou_at q ad a W0 L c p A f) (hin : vp_in x 160) (kk : tf_W l (tf_H D q) EX QB d i nxt lv (.int (A 2 x.toNatClampNeg) :: st) L f kc ks) : tf_W l (tf_H D q) EX QB d i pc lv (.int x :: .ref (ad 2) :: st) L f kc ks :=
  tf_zald nxt 1 hd hn rfl (hT.1.2.2.1 2 (by decide)).1 (hT.1.2.2.1 2 (by decide)).2 hin kk
theorem ou_iast {x v : Int32} (k nxt : Nat) (hd : decode i.2.1 pc = .ok (.iastore, 1)) (hn : pc + 1 = nxt) (hT : ou_at q ad a W0 L c p A f) (hk : k < 5) (h2 : ou_t k = 0) (hin : vp_in x (ou_n k)) (kk : ∀ f2 : tf_F, ou_at q ad a W0 L c p (va_up A k (upd (A k) x.toNatClampNeg v)) f2 → tf_W l (tf_H D q) EX QB d i nxt lv st L f2 kc ks) : tf_W l (tf_H D q) EX QB d i pc lv (.int v :: .int x :: .ref (ad k) :: st) L f kc ks := by
  have h9 := (hT.1.2.2.1 k hk).2
  have h8 := ou_ast_ok hT hk (g := upd (A k) x.toNatClampNeg v)
  rw [ou_ar, h2] at h9 h8
  exact tf_iast nxt 0 hd hn rfl (hT.1.2.2.1 k hk).1 h9 hin (kk _ h8)
theorem ou_zast {x v : Int32} (nxt : Nat) (hd : decode i.2.1 pc = .ok (.bastore, 1)) (hn : pc + 1 = nxt) (hT : ou_at q ad a W0 L c p A f) (hin : vp_in x 160) (kk : ∀ f2 : tf_F, ou_at q ad a W0 L c p (va_up A 2 (upd (A 2) x.toNatClampNeg (vp_nar .boolean v))) f2 → tf_W l (tf_H D q) EX QB d i nxt lv st L f2 kc ks) : tf_W l (tf_H D q) EX QB d i pc lv (.int v :: .int x :: .ref (ad 2) :: st) L f kc ks :=
  tf_zast nxt 1 hd hn rfl (hT.1.2.2.1 2 (by decide)).1 (hT.1.2.2.1 2 (by decide)).2 hin (kk _ (ou_ast_ok hT (k := 2) (by decide)))
end
