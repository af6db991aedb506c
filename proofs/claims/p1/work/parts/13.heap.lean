section
variable {l : Launch} {G : tf_G} {EX : State → (Nat → Prop) → Prop} {QB : tf_B} {d : Nat} {i : tf_I} {pc : Nat} {lv lv2 : tf_V} {st st2 : List Value} {L : List Nat} {f : tf_F} {kc ks : Nat}
theorem tf_pl {a : Nat} (h : a ∈ L) : ∃ k : Nat, (va_pl L f)[k]? = some (a, f a) := va_pl_get (X := []) h
theorem tf_set {A : Nat → Prop} {a k : Nat} {e : va_E} (hD : va_D A (va_pl L f)) (h : a ∈ L) (hk : (va_pl L f)[k]? = some (a, f a)) : (va_pl L f).set k (a, e) = va_pl L (va_up f a e) := va_pl_set (X := []) hD h hk
/-- the link of a field: the class by its place in the list of classes, the field by its slot -/
def tf_fl (G : tf_G) (own : String) (ix ci k : Nat) : Prop := ∃ (C : String) (T : u_T) (N : Nat), G.2.1[ci]? = some (C, T, N) ∧ k < N ∧ (∀ w ∈ u_ws C T N, w ∈ G.2.2.2.1) ∧ (T k).1 = C ∧
  (Cond.fieldLink own ix C (T k).2.1 (T k).2.2.1 ∈ G.2.2.2.1 ∨ ∃ host, Cond.fieldLinkNest own ix C (T k).2.1 (T k).2.2.1 host ∈ G.2.2.2.2)
def tf_fw (G : tf_G) (own : String) (ix ci k : Nat) (ty : FieldType) : Prop := ∃ (C : String) (T : u_T) (N : Nat), G.2.1[ci]? = some (C, T, N) ∧ k < N ∧ (∀ w ∈ u_ws C T N, w ∈ G.2.2.2.1) ∧ (T k).1 = C ∧
  (Cond.fieldLink own ix C (T k).2.1 (T k).2.2.1 ∈ G.2.2.2.1 ∨ ∃ host, Cond.fieldLinkNest own ix C (T k).2.1 (T k).2.2.1 host ∈ G.2.2.2.2) ∧
  (∃ ty0 : Nat → FieldType, ∀ k, k < N → parseFieldDescriptor (T k).2.2.1 = some (ty0 k)) ∧ (∀ a, a < N → ∀ b, b < N → a ≠ b → (T a).2.1 ≠ (T b).2.1) ∧ parseFieldDescriptor (T k).2.2.1 = some ty ∧ (T k).2.2.2 = false
/-- .. a final one, in its own class's constructor -/
def tf_ff (G : tf_G) (own : String) (ix ci k : Nat) (ty : FieldType) : Prop := ∃ (T : u_T) (N : Nat), G.2.1[ci]? = some (own, T, N) ∧ k < N ∧ (∀ w ∈ u_ws own T N, w ∈ G.2.2.2.1) ∧ (T k).1 = own ∧
  Cond.fieldLink own ix own (T k).2.1 (T k).2.2.1 ∈ G.2.2.2.1 ∧
  (∃ ty0 : Nat → FieldType, ∀ k, k < N → parseFieldDescriptor (T k).2.2.1 = some (ty0 k)) ∧ (∀ a, a < N → ∀ b, b < N → a ≠ b → (T a).2.1 ≠ (T b).2.1) ∧ parseFieldDescriptor (T k).2.2.1 = some ty ∧ (T k).2.2.2 = true
def tf_nl (G : tf_G) (own : String) (ix ci N : Nat) (fs : List Value) : Prop := ∃ (C : String) (T : u_T) (ty : Nat → FieldType), G.2.1[ci]? = some (C, T, N) ∧ (∀ w ∈ u_ws C T N, w ∈ G.2.2.2.1) ∧ (∀ k, k < N → parseFieldDescriptor (T k).2.2.1 = some (ty k)) ∧
  Cond.classLink own ix C ∈ G.2.2.2.1 ∧ Cond.instantiable C N ∈ G.2.2.2.1 ∧ Cond.initialized C ∈ G.2.2.2.1 ∧ ∀ j, j < N → defaultValue (ty j) = vp_V fs j
theorem tf_get {ix ci k a : Nat} {fs : List Value} {v : Value} (nxt : Nat) (hd : decode i.2.1 pc = .ok (.getfield ix, 3)) (hn : pc + 3 = nxt) (hF : tf_fl G i.1.cls ix ci k) (ha : a ∈ L) (hf : f a = .inr (ci, fs)) (hv : fs[k]? = some v) (kk : tf_W l G EX QB d i nxt lv (v :: st) L f kc ks) : tf_W l G EX QB d i pc lv (.ref a :: st) L f kc ks := by
  subst hn
  intro p e R s m args below meth c H locs cells slots ls A mc ms hM hE hR hl hP
  obtain ⟨hx, hb, hml, hown, hts, hret, hlk, hnw, hnm, hK, hnd⟩ := id hM
  obtain ⟨hPP, hD, hS, hA⟩ := id hP
  obtain ⟨C, T, N, hc, hk, hin, hT, hlk2⟩ := hF
  obtain ⟨q0, hq0⟩ := tf_pl (f := f) ha
  rw [hf] at hq0
  have hsame : ∀ x, s.fieldFound? (T k).1 (T k).2.1 (T k).2.2.1 = some x → s.fieldFound? C (T k).2.1 (T k).2.2.1 = some x := fun x h => by rw [hT] at h; exact h
  rcases hlk2 with h | ⟨host, h⟩
  · exact va_get hx hb hts hin hown hK hPP q0 hq0 hc k hk (hts _ h) hsame hv hd (kk p e R s m args below meth c H locs cells slots ls A mc ms hM hE hR hl hP)
  · exact va_getN hx hb hts hin hown hK hPP q0 hq0 hc k hk (va_Nw.use rfl (hnw _ h)) hsame hv hd (kk p e R s m args below meth c H locs cells slots ls A mc ms hM hE hR hl hP)
theorem tf_put {ix ci k a : Nat} {fs : List Value} {v : Value} {ty : FieldType} (nxt : Nat) (hd : decode i.2.1 pc = .ok (.putfield ix, 3)) (hn : pc + 3 = nxt) (hF : tf_fw G i.1.cls ix ci k ty) (ha : a ∈ L) (hf : f a = .inr (ci, fs)) (hl0 : k < fs.length) (hna : narrow ty v = v) (hfi : fits ty v = true) (kk : tf_W l G EX QB d i nxt lv st L (va_up f a (.inr (ci, fs.set k v))) kc ks) : tf_W l G EX QB d i pc lv (v :: .ref a :: st) L f kc ks := by
  subst hn
  intro p e R s m args below meth c H locs cells slots ls A mc ms hM hE hR hl hP
  obtain ⟨hx, hb, hml, hown, hts, hret, hlk, hnw, hnm, hK, hnd⟩ := id hM
  obtain ⟨hPP, hD, hS, hA⟩ := id hP
  obtain ⟨C, T, N, hc, hk, hin, hT, hlk2, ⟨ty0, hty⟩, hnm2, hpd, hfin⟩ := hF
  obtain ⟨q0, hq1⟩ := tf_pl (f := f) ha
  have hq0 := hq1
  rw [hf] at hq0
  have hsame : ∀ x, s.fieldFound? (T k).1 (T k).2.1 (T k).2.2.1 = some x → s.fieldFound? C (T k).2.1 (T k).2.2.1 = some x := fun x h => by rw [hT] at h; exact h
  have hset := tf_set (e := .inr (ci, fs.set k v)) hD ha hq1
  rcases hlk2 with h | ⟨host, h⟩
  · refine va_put hx hb hts hin ty0 hty hnm2 hown hK hPP hD hS q0 hq0 hc k hk (hts _ h) hsame hfin hpd hna hfi hl0 hd (fun H1 locs1 p1 d1 s1 => ?_)
    rw [hset] at p1 d1
    exact kk p e R s m args below meth c H1 locs1 cells slots ls A mc ms hM hE hR hl ⟨p1, d1, s1, hA⟩
  · refine va_putN hx hb hts hin ty0 hty hnm2 hown hK hPP hD hS q0 hq0 hc k hk (va_Nw.use rfl (hnw _ h)) hsame hfin hpd hna hfi hl0 hd (fun H1 locs1 p1 d1 s1 => ?_)
    rw [hset] at p1 d1
    exact kk p e R s m args below meth c H1 locs1 cells slots ls A mc ms hM hE hR hl ⟨p1, d1, s1, hA⟩
theorem tf_putF {ix ci k a : Nat} {fs : List Value} {v : Value} {ty : FieldType} (nxt : Nat) (hd : decode i.2.1 pc = .ok (.putfield ix, 3)) (hn : pc + 3 = nxt) (hF : tf_ff G i.1.cls ix ci k ty) (hini : i.1.name = "<init>") (ha : a ∈ L) (hf : f a = .inr (ci, fs)) (hl0 : k < fs.length) (hna : narrow ty v = v) (hfi : fits ty v = true) (kk : tf_W l G EX QB d i nxt lv st L (va_up f a (.inr (ci, fs.set k v))) kc ks) : tf_W l G EX QB d i pc lv (v :: .ref a :: st) L f kc ks := by
  subst hn
  intro p e R s m args below meth c H locs cells slots ls A mc ms hM hE hR hl hP
  obtain ⟨hx, hb, hml, hown, hts, hret, hlk, hnw, hnm, hK, hnd⟩ := id hM
  obtain ⟨hPP, hD, hS, hA⟩ := id hP
  obtain ⟨T, N, hc, hk, hin, hT, h, ⟨ty0, hty⟩, hnm2, hpd, hfin⟩ := hF
  obtain ⟨q0, hq1⟩ := tf_pl (f := f) ha
  have hq0 := hq1
  rw [hf] at hq0
  have hsame : ∀ x, s.fieldFound? (T k).1 (T k).2.1 (T k).2.2.1 = some x → s.fieldFound? i.1.cls (T k).2.1 (T k).2.2.1 = some x := fun x h => by rw [hT] at h; exact h
  have hset := tf_set (e := .inr (ci, fs.set k v)) hD ha hq1
  refine va_putF hx hb hts hin ty0 hty hnm2 hown hK hPP hD hS q0 hq0 hc k hk (hts _ h) hsame hfin (hnm.trans hini) hT hpd hna hfi hl0 hd (fun H1 locs1 p1 d1 s1 => ?_)
  rw [hset] at p1 d1
  exact kk p e R s m args below meth c H1 locs1 cells slots ls A mc ms hM hE hR hl ⟨p1, d1, s1, hA⟩
theorem tf_iald {a n : Nat} {cA : ClassId} {g : Nat → Int32} {x : Int32} (nxt t0 : Nat) (hd : decode i.2.1 pc = .ok (.iaload, 1)) (hn : pc + 1 = nxt) (ht : G.2.2.1[t0]? = some (cA, .int)) (ha : a ∈ L) (hf : f a = .inl (cA, n, (.inl g))) (hin : vp_in x n) (kk : tf_W l G EX QB d i nxt lv (.int (g x.toNatClampNeg) :: st) L f kc ks) : tf_W l G EX QB d i pc lv (.int x :: .ref a :: st) L f kc ks := by
  subst hn
  intro p e R s m args below meth c H locs cells slots ls A mc ms hM hE hR hl hP
  obtain ⟨hx, hb, hml, hown, hts, hret, hlk, hnw, hnm, hK, hnd⟩ := id hM
  obtain ⟨hPP, hD, hS, hA⟩ := id hP
  obtain ⟨q0, hq0⟩ := tf_pl (f := f) ha
  rw [hf] at hq0
  exact va_iald hx hb hK hPP q0 t0 hq0 ht hin hd (kk p e R s m args below meth c H locs cells slots ls A mc ms hM hE hR hl hP)
theorem tf_zald {a n : Nat} {cA : ClassId} {g : Nat → Int32} {x : Int32} (nxt t0 : Nat) (hd : decode i.2.1 pc = .ok (.baload, 1)) (hn : pc + 1 = nxt) (ht : G.2.2.1[t0]? = some (cA, .boolean)) (ha : a ∈ L) (hf : f a = .inl (cA, n, (.inl g))) (hin : vp_in x n) (kk : tf_W l G EX QB d i nxt lv (.int (g x.toNatClampNeg) :: st) L f kc ks) : tf_W l G EX QB d i pc lv (.int x :: .ref a :: st) L f kc ks := by
  subst hn
  intro p e R s m args below meth c H locs cells slots ls A mc ms hM hE hR hl hP
  obtain ⟨hx, hb, hml, hown, hts, hret, hlk, hnw, hnm, hK, hnd⟩ := id hM
  obtain ⟨hPP, hD, hS, hA⟩ := id hP
  obtain ⟨q0, hq0⟩ := tf_pl (f := f) ha
  rw [hf] at hq0
  exact va_zald hx hb hK hPP q0 t0 hq0 ht hin hd (kk p e R s m args below meth c H locs cells slots ls A mc ms hM hE hR hl hP)
theorem tf_bald {a n : Nat} {cA : ClassId} {g : Nat → Int32} {x : Int32} (nxt t0 : Nat) (hd : decode i.2.1 pc = .ok (.baload, 1)) (hn : pc + 1 = nxt) (ht : G.2.2.1[t0]? = some (cA, .byte)) (ha : a ∈ L) (hf : f a = .inl (cA, n, (.inl g))) (hin : vp_in x n) (kk : tf_W l G EX QB d i nxt lv (.int (g x.toNatClampNeg) :: st) L f kc ks) : tf_W l G EX QB d i pc lv (.int x :: .ref a :: st) L f kc ks := by
  subst hn
  intro p e R s m args below meth c H locs cells slots ls A mc ms hM hE hR hl hP
  obtain ⟨hx, hb, hml, hown, hts, hret, hlk, hnw, hnm, hK, hnd⟩ := id hM
  obtain ⟨hPP, hD, hS, hA⟩ := id hP
  obtain ⟨q0, hq0⟩ := tf_pl (f := f) ha
  rw [hf] at hq0
  exact va_bald hx hb hK hPP q0 t0 hq0 ht hin hd (kk p e R s m args below meth c H locs cells slots ls A mc ms hM hE hR hl hP)
theorem tf_sald {a n : Nat} {cA : ClassId} {g : Nat → Int32} {x : Int32} (nxt t0 : Nat) (hd : decode i.2.1 pc = .ok (.saload, 1)) (hn : pc + 1 = nxt) (ht : G.2.2.1[t0]? = some (cA, .short)) (ha : a ∈ L) (hf : f a = .inl (cA, n, (.inl g))) (hin : vp_in x n) (kk : tf_W l G EX QB d i nxt lv (.int (g x.toNatClampNeg) :: st) L f kc ks) : tf_W l G EX QB d i pc lv (.int x :: .ref a :: st) L f kc ks := by
  subst hn
  intro p e R s m args below meth c H locs cells slots ls A mc ms hM hE hR hl hP
  obtain ⟨hx, hb, hml, hown, hts, hret, hlk, hnw, hnm, hK, hnd⟩ := id hM
  obtain ⟨hPP, hD, hS, hA⟩ := id hP
  obtain ⟨q0, hq0⟩ := tf_pl (f := f) ha
  rw [hf] at hq0
  exact va_sald hx hb hK hPP q0 t0 hq0 ht hin hd (kk p e R s m args below meth c H locs cells slots ls A mc ms hM hE hR hl hP)
theorem tf_lald {a n : Nat} {cA : ClassId} {g : Nat → Int64} {x : Int32} (nxt t0 : Nat) (hd : decode i.2.1 pc = .ok (.laload, 1)) (hn : pc + 1 = nxt) (ht : G.2.2.1[t0]? = some (cA, .long)) (ha : a ∈ L) (hf : f a = .inl (cA, n, (.inr (.inl g)))) (hin : vp_in x n) (kk : tf_W l G EX QB d i nxt lv (.long (g x.toNatClampNeg) :: st) L f kc ks) : tf_W l G EX QB d i pc lv (.int x :: .ref a :: st) L f kc ks := by
  subst hn
  intro p e R s m args below meth c H locs cells slots ls A mc ms hM hE hR hl hP
  obtain ⟨hx, hb, hml, hown, hts, hret, hlk, hnw, hnm, hK, hnd⟩ := id hM
  obtain ⟨hPP, hD, hS, hA⟩ := id hP
  obtain ⟨q0, hq0⟩ := tf_pl (f := f) ha
  rw [hf] at hq0
  exact va_lald hx hb hK hPP q0 t0 hq0 ht hin hd (kk p e R s m args below meth c H locs cells slots ls A mc ms hM hE hR hl hP)
theorem tf_aald {a n : Nat} {cA : ClassId} {C : String} {g : Nat → Option Nat} {x : Int32} (nxt t0 : Nat) (hd : decode i.2.1 pc = .ok (.aaload, 1)) (hn : pc + 1 = nxt) (ht : G.2.2.1[t0]? = some (cA, .object C)) (ha : a ∈ L) (hf : f a = .inl (cA, n, .inr (.inr (.inr (.inr g))))) (hin : vp_in x n) (kk : tf_W l G EX QB d i nxt lv (va_rf (g x.toNatClampNeg) :: st) L f kc ks) : tf_W l G EX QB d i pc lv (.int x :: .ref a :: st) L f kc ks := by
  subst hn
  intro p e R s m args below meth c H locs cells slots ls A mc ms hM hE hR hl hP
  obtain ⟨hx, hb, hml, hown, hts, hret, hlk, hnw, hnm, hK, hnd⟩ := id hM
  obtain ⟨hPP, hD, hS, hA⟩ := id hP
  obtain ⟨q0, hq0⟩ := tf_pl (f := f) ha
  rw [hf] at hq0
  exact va_aldq hx hb hK hPP q0 t0 hq0 ht hin hd (kk p e R s m args below meth c H locs cells slots ls A mc ms hM hE hR hl hP)
theorem tf_iast {a n : Nat} {cA : ClassId} {g : Nat → Int32} {x : Int32} {v : Int32} (nxt t0 : Nat) (hd : decode i.2.1 pc = .ok (.iastore, 1)) (hn : pc + 1 = nxt) (ht : G.2.2.1[t0]? = some (cA, .int)) (ha : a ∈ L) (hf : f a = .inl (cA, n, (.inl g))) (hin : vp_in x n) (kk : tf_W l G EX QB d i nxt lv st L (va_up f a (.inl (cA, n, (.inl (upd g x.toNatClampNeg v))))) kc ks) : tf_W l G EX QB d i pc lv (.int v :: .int x :: .ref a :: st) L f kc ks := by
  subst hn
  intro p e R s m args below meth c H locs cells slots ls A mc ms hM hE hR hl hP
  obtain ⟨hx, hb, hml, hown, hts, hret, hlk, hnw, hnm, hK, hnd⟩ := id hM
  obtain ⟨hPP, hD, hS, hA⟩ := id hP
  obtain ⟨q0, hq1⟩ := tf_pl (f := f) ha
  have hq0 := hq1
  rw [hf] at hq0
  have hset := tf_set (e := .inl (cA, n, (.inl (upd g x.toNatClampNeg v)))) hD ha hq1
  refine va_iast hx hb hK hPP hD hS q0 t0 hq0 ht hin hd (fun H1 locs1 p1 d1 s1 => ?_)
  rw [hset] at p1 d1
  exact kk p e R s m args below meth c H1 locs1 cells slots ls A mc ms hM hE hR hl ⟨p1, d1, s1, hA⟩
theorem tf_zast {a n : Nat} {cA : ClassId} {g : Nat → Int32} {x : Int32} {v : Int32} (nxt t0 : Nat) (hd : decode i.2.1 pc = .ok (.bastore, 1)) (hn : pc + 1 = nxt) (ht : G.2.2.1[t0]? = some (cA, .boolean)) (ha : a ∈ L) (hf : f a = .inl (cA, n, (.inl g))) (hin : vp_in x n) (kk : tf_W l G EX QB d i nxt lv st L (va_up f a (.inl (cA, n, (.inl (upd g x.toNatClampNeg (vp_nar .boolean v)))))) kc ks) : tf_W l G EX QB d i pc lv (.int v :: .int x :: .ref a :: st) L f kc ks := by
  subst hn
  intro p e R s m args below meth c H locs cells slots ls A mc ms hM hE hR hl hP
  obtain ⟨hx, hb, hml, hown, hts, hret, hlk, hnw, hnm, hK, hnd⟩ := id hM
  obtain ⟨hPP, hD, hS, hA⟩ := id hP
  obtain ⟨q0, hq1⟩ := tf_pl (f := f) ha
  have hq0 := hq1
  rw [hf] at hq0
  have hset := tf_set (e := .inl (cA, n, (.inl (upd g x.toNatClampNeg (vp_nar .boolean v))))) hD ha hq1
  refine va_zast hx hb hK hPP hD hS q0 t0 hq0 ht hin hd (fun H1 locs1 p1 d1 s1 => ?_)
  rw [hset] at p1 d1
  exact kk p e R s m args below meth c H1 locs1 cells slots ls A mc ms hM hE hR hl ⟨p1, d1, s1, hA⟩
theorem tf_bast {a n : Nat} {cA : ClassId} {g : Nat → Int32} {x : Int32} {v : Int32} (nxt t0 : Nat) (hd : decode i.2.1 pc = .ok (.bastore, 1)) (hn : pc + 1 = nxt) (ht : G.2.2.1[t0]? = some (cA, .byte)) (ha : a ∈ L) (hf : f a = .inl (cA, n, (.inl g))) (hin : vp_in x n) (kk : tf_W l G EX QB d i nxt lv st L (va_up f a (.inl (cA, n, (.inl (upd g x.toNatClampNeg (vp_nar .byte v)))))) kc ks) : tf_W l G EX QB d i pc lv (.int v :: .int x :: .ref a :: st) L f kc ks := by
  subst hn
  intro p e R s m args below meth c H locs cells slots ls A mc ms hM hE hR hl hP
  obtain ⟨hx, hb, hml, hown, hts, hret, hlk, hnw, hnm, hK, hnd⟩ := id hM
  obtain ⟨hPP, hD, hS, hA⟩ := id hP
  obtain ⟨q0, hq1⟩ := tf_pl (f := f) ha
  have hq0 := hq1
  rw [hf] at hq0
  have hset := tf_set (e := .inl (cA, n, (.inl (upd g x.toNatClampNeg (vp_nar .byte v))))) hD ha hq1
  refine va_bast hx hb hK hPP hD hS q0 t0 hq0 ht hin hd (fun H1 locs1 p1 d1 s1 => ?_)
  rw [hset] at p1 d1
  exact kk p e R s m args below meth c H1 locs1 cells slots ls A mc ms hM hE hR hl ⟨p1, d1, s1, hA⟩
theorem tf_sast {a n : Nat} {cA : ClassId} {g : Nat → Int32} {x : Int32} {v : Int32} (nxt t0 : Nat) (hd : decode i.2.1 pc = .ok (.sastore, 1)) (hn : pc + 1 = nxt) (ht : G.2.2.1[t0]? = some (cA, .short)) (ha : a ∈ L) (hf : f a = .inl (cA, n, (.inl g))) (hin : vp_in x n) (kk : tf_W l G EX QB d i nxt lv st L (va_up f a (.inl (cA, n, (.inl (upd g x.toNatClampNeg (vp_nar .short v)))))) kc ks) : tf_W l G EX QB d i pc lv (.int v :: .int x :: .ref a :: st) L f kc ks := by
  subst hn
  intro p e R s m args below meth c H locs cells slots ls A mc ms hM hE hR hl hP
  obtain ⟨hx, hb, hml, hown, hts, hret, hlk, hnw, hnm, hK, hnd⟩ := id hM
  obtain ⟨hPP, hD, hS, hA⟩ := id hP
  obtain ⟨q0, hq1⟩ := tf_pl (f := f) ha
  have hq0 := hq1
  rw [hf] at hq0
  have hset := tf_set (e := .inl (cA, n, (.inl (upd g x.toNatClampNeg (vp_nar .short v))))) hD ha hq1
  refine va_sast hx hb hK hPP hD hS q0 t0 hq0 ht hin hd (fun H1 locs1 p1 d1 s1 => ?_)
  rw [hset] at p1 d1
  exact kk p e R s m args below meth c H1 locs1 cells slots ls A mc ms hM hE hR hl ⟨p1, d1, s1, hA⟩
theorem tf_last {a n : Nat} {cA : ClassId} {g : Nat → Int64} {x : Int32} {v : Int64} (nxt t0 : Nat) (hd : decode i.2.1 pc = .ok (.lastore, 1)) (hn : pc + 1 = nxt) (ht : G.2.2.1[t0]? = some (cA, .long)) (ha : a ∈ L) (hf : f a = .inl (cA, n, (.inr (.inl g)))) (hin : vp_in x n) (kk : tf_W l G EX QB d i nxt lv st L (va_up f a (.inl (cA, n, (.inr (.inl (vp_updL g x.toNatClampNeg v)))))) kc ks) : tf_W l G EX QB d i pc lv (.long v :: .int x :: .ref a :: st) L f kc ks := by
  subst hn
  intro p e R s m args below meth c H locs cells slots ls A mc ms hM hE hR hl hP
  obtain ⟨hx, hb, hml, hown, hts, hret, hlk, hnw, hnm, hK, hnd⟩ := id hM
  obtain ⟨hPP, hD, hS, hA⟩ := id hP
  obtain ⟨q0, hq1⟩ := tf_pl (f := f) ha
  have hq0 := hq1
  rw [hf] at hq0
  have hset := tf_set (e := .inl (cA, n, (.inr (.inl (vp_updL g x.toNatClampNeg v))))) hD ha hq1
  refine va_last hx hb hK hPP hD hS q0 t0 hq0 ht hin hd (fun H1 locs1 p1 d1 s1 => ?_)
  rw [hset] at p1 d1
  exact kk p e R s m args below meth c H1 locs1 cells slots ls A mc ms hM hE hR hl ⟨p1, d1, s1, hA⟩
theorem tf_aast {a n v ci : Nat} {cA : ClassId} {r : vw_C} {vs : List Value} {g : Nat → Option Nat} {x : Int32} (nxt t0 : Nat) (hd : decode i.2.1 pc = .ok (.aastore, 1)) (hn : pc + 1 = nxt) (ht : G.2.2.1[t0]? = some (cA, .object r.1)) (ha : a ∈ L) (hf : f a = .inl (cA, n, .inr (.inr (.inr (.inr g))))) (hv : v ∈ L) (hfv : f v = .inr (ci, vs)) (hc : G.2.1[ci]? = some r) (hin : vp_in x n) (kk : tf_W l G EX QB d i nxt lv st L (va_up f a (.inl (cA, n, .inr (.inr (.inr (.inr (va_up g x.toNatClampNeg (some v)))))))) kc ks) : tf_W l G EX QB d i pc lv (.ref v :: .int x :: .ref a :: st) L f kc ks := by
  subst hn
  intro p e R s m args below meth c H locs cells slots ls A mc ms hM hE hR hl hP
  obtain ⟨hx, hb, hml, hown, hts, hret, hlk, hnw, hnm, hK, hnd⟩ := id hM
  obtain ⟨hPP, hD, hS, hA⟩ := id hP
  obtain ⟨q0, hq1⟩ := tf_pl (f := f) ha
  have hq0 := hq1
  rw [hf] at hq0
  obtain ⟨qk, hqk⟩ := tf_pl (f := f) hv
  rw [hfv] at hqk
  have hset := tf_set (e := .inl (cA, n, .inr (.inr (.inr (.inr (va_up g x.toNatClampNeg (some v))))))) hD ha hq1
  refine va_astq hx hb hK hPP hD hS q0 t0 qk ci hq0 ht hqk hc hin hd (fun H1 locs1 p1 d1 s1 => ?_)
  rw [hset] at p1 d1
  exact kk p e R s m args below meth c H1 locs1 cells slots ls A mc ms hM hE hR hl ⟨p1, d1, s1, hA⟩
theorem tf_alen {a : Nat} {cA : ClassId} {w : vp_A} {ty : FieldType} (nxt t0 : Nat) (hd : decode i.2.1 pc = .ok (.arraylength, 1)) (hn : pc + 1 = nxt) (ht : G.2.2.1[t0]? = some (cA, ty)) (ha : a ∈ L) (hf : f a = .inl (cA, w)) (kk : tf_W l G EX QB d i nxt lv (.int (nI w.1) :: st) L f kc ks) : tf_W l G EX QB d i pc lv (.ref a :: st) L f kc ks := by
  subst hn
  intro p e R s m args below meth c H locs cells slots ls A mc ms hM hE hR hl hP
  obtain ⟨hx, hb, hml, hown, hts, hret, hlk, hnw, hnm, hK, hnd⟩ := id hM
  obtain ⟨hPP, hD, hS, hA⟩ := id hP
  obtain ⟨q0, hq0⟩ := tf_pl (f := f) ha
  rw [hf] at hq0
  exact va_alen hx hb hK hPP q0 t0 hq0 ht rfl hd (kk p e R s m args below meth c H locs cells slots ls A mc ms hM hE hR hl hP)
theorem tf_room1 {d kc ks n mc ms cells slots : Nat} {R : Room} (h : tf_R d (kc + 1) (ks + n) mc ms cells slots R) : cells + 1 ≤ R.cells ∧ slots + n ≤ R.slots ∧ tf_R d kc ks mc ms (cells + 1) (slots + n) R := by
  obtain ⟨h1, h2, h3, h4, h5, h6⟩ := h
  exact ⟨by omega, by omega, h1, h2, by omega, by omega, h5, h6⟩
theorem tf_new {ix ci N : Nat} {fs : List Value} (nxt : Nat) (hd : decode i.2.1 pc = .ok (.new ix, 3)) (hn : pc + 3 = nxt) (hF : tf_nl G i.1.cls ix ci N fs) (kk : ∀ q, q ∉ L → tf_W l G EX QB d i nxt lv (.ref q :: st) (L ++ [q]) (va_up f q (.inr (ci, fs))) kc ks) : tf_W l G EX QB d i pc lv st L f (kc + 1) (ks + N) := by
  subst hn
  intro p e R s m args below meth c H locs cells slots ls A mc ms hM hE hR hl hP
  obtain ⟨hx, hb, hml, hown, hts, hret, hlk, hnw, hnm, hK, hnd⟩ := id hM
  obtain ⟨hPP, hD, hS, hA⟩ := id hP
  obtain ⟨C, T, ty, hc, hin, hty, h1, h2, h3, hfs⟩ := hF
  obtain ⟨r1, r2, r3⟩ := tf_room1 hR
  refine va_new hx hb hts hin ty hty hown (hts _ h1) (hts _ h2) (hts _ h3) hK hPP hD hS hA hc hfs r1 r2 hd (fun q H1 p1 d1 s1 => ?_)
  have hq : q ∉ L := va_pl_fresh2 (X := []) d1
  rw [va_pl_push hq] at p1 d1
  exact kk q hq p e R s m args below meth c H1 locs (cells + 1) (slots + N) ls A mc ms hM hE r3 hl ⟨p1, d1, s1, hA⟩
theorem tf_RA {s : State} {c1 c2 : ClassId} {ty : FieldType} (h1 : va_RA s c1 ty) (h2 : va_RA s c2 ty) : c1 = c2 := by
  cases ty <;> simp only [va_RA] at h1 h2
  all_goals first
    | exact Option.some.inj (h1.symm.trans h2)
    | (obtain ⟨_, _, _, _, _, h1⟩ := h1
       obtain ⟨_, _, _, _, _, h2⟩ := h2
       exact Option.some.inj (h1.symm.trans h2))
theorem tf_lastT {tys : List (ClassId × FieldType)} {D : va_G} {cl : List vw_C} {s : State} {cA cB : ClassId} {ty : FieldType} {t0 : Nat} (h : va_K D cl tys s) (ht : tys[t0]? = some (cA, ty)) (h2 : va_K D cl (tys ++ [(cB, ty)]) s) : cB = cA := by
  have a1 := (h.2 t0 _ ht).2
  have a2 := (h2.2 tys.length (cB, ty) (by simp)).2
  exact tf_RA a2 a1
theorem tf_newa {n : Int32} {N : Nat} {atype : ArrayType} {ty : FieldType} {cA : ClassId} {a0 : vp_A} (nxt t0 : Nat) (hd : decode i.2.1 pc = .ok (.newarray atype, 2)) (hn : pc + 2 = nxt) (hty : newarray.typeOf atype = ty) (hw : Cond.arrayClass (newarray.typeOf atype) ∈ G.2.2.2.1) (ht : G.2.2.1[t0]? = some (cA, ty)) (h0 : ¬ n < 0) (hN : n.toNatClampNeg = N) (hby : N * componentBytes ty ≤ 536870912) (ha : ∀ cA : ClassId, vp_cell cA a0 = arrV cA N (fun _ => defaultValue ty)) (kk : ∀ q, q ∉ L → tf_W l G EX QB d i nxt lv (.ref q :: st) (L ++ [q]) (va_up f q (.inl (cA, a0))) kc ks) : tf_W l G EX QB d i pc lv (.int n :: st) L f (kc + 1) (ks + N) := by
  subst hn
  intro p e R s m args below meth c H locs cells slots ls A mc ms hM hE hR hl hP
  obtain ⟨hx, hb, hml, hown, hts, hret, hlk, hnw, hnm, hK, hnd⟩ := id hM
  obtain ⟨hPP, hD, hS, hA⟩ := id hP
  obtain ⟨r1, r2, r3⟩ := tf_room1 hR
  refine va_newa hx hb (hts _ hw) hty hK hPP hD hS hA ha h0 hN hby r1 r2 hd (fun q cB H1 k1 p1 d1 s1 => ?_)
  have hc := tf_lastT hK ht k1
  subst hc
  have hq : q ∉ L := va_pl_fresh2 (X := []) d1
  rw [va_pl_push hq] at p1 d1
  exact kk q hq p e R s m args below meth c H1 locs (cells + 1) (slots + N) ls A mc ms hM hE r3 hl ⟨p1, d1, s1, hA⟩
theorem tf_newq {n : Int32} {N ix : Nat} {C : String} {cA : ClassId} (nxt t0 : Nat) (hd : decode i.2.1 pc = .ok (.anewarray ix, 3)) (hn : pc + 3 = nxt) (hw : Cond.classLink i.1.cls ix C ∈ G.2.2.2.1) (hao : Cond.arrayOver (.object C) ∈ G.2.2.2.2) (ht : G.2.2.1[t0]? = some (cA, .object C)) (h0 : ¬ n < 0) (hN : n.toNatClampNeg = N) (hby : N * 4 ≤ 536870912) (kk : ∀ q, q ∉ L → tf_W l G EX QB d i nxt lv (.ref q :: st) (L ++ [q]) (va_up f q (.inl (cA, N, .inr (.inr (.inr (.inr (fun _ => none))))))) kc ks) : tf_W l G EX QB d i pc lv (.int n :: st) L f (kc + 1) (ks + N) := by
  subst hn
  intro p e R s m args below meth c H locs cells slots ls A mc ms hM hE hR hl hP
  obtain ⟨hx, hb, hml, hown, hts, hret, hlk, hnw, hnm, hK, hnd⟩ := id hM
  obtain ⟨hPP, hD, hS, hA⟩ := id hP
  obtain ⟨r1, r2, r3⟩ := tf_room1 hR
  refine va_newq hx hb hown (hts _ hw) (hnw _ hao) hK hPP hD hS hA h0 hN hby r1 r2 hd (fun q cB H1 k1 p1 d1 s1 => ?_)
  have hc := tf_lastT hK ht k1
  subst hc
  have hq : q ∉ L := va_pl_fresh2 (X := []) d1
  rw [va_pl_push hq] at p1 d1
  exact kk q hq p e R s m args below meth c H1 locs (cells + 1) (slots + N) ls A mc ms hM hE r3 hl ⟨p1, d1, s1, hA⟩
end
