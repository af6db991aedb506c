/-! the search for a handler: rows that name classes which link, resolved or not -/
section
variable {Q : Handler → Pre} {E : CtlPost} {e : Env} {d : Bool} {acts : List Action} {S : State} {f : JFrame} {a : Addr}
abbrev tx_nt (S : State) (f : JFrame) (k : Nat) (c : ClassId) : State := S.setVm (S.vm.noted f.method.cls k (.cls c))
/-- one row: it takes the object, or the search goes on; its class is resolved from here on -/
theorem tx_row {x : ExceptionTableEntry} {t : List ExceptionTableEntry} {c : ClassId} {cell : Cell} (hx : covers x f.pc = true) (h0 : x.catchType ≠ 0) (hl : S.vm.ClassLinks e.platform f.method.cls x.catchType c) (hcell : S.heap[a]? = some cell) (hobj : ∀ k, cell.vm ≠ .statics k) (hk : ∃ k, S.vm.classes[cell.cls]? = some k) (hc : ∃ k, S.vm.classes[c]? = some k) :
    wp (findHandler.go f a (x :: t)) Q E e d acts S ↔ if S.vm.assignable cell.cls c = true then Q (.found x.handlerPc) d acts (tx_nt S f x.catchType c) else wp (findHandler.go f a t) Q E e d acts (tx_nt S f x.catchType c) := by
  simp only [covers] at hx
  obtain ⟨r1, r2⟩ := (resolveClass_links e.toSetting hl).op (op := VmOp.resolveClass f.method.cls x.catchType) rfl
  have hal : S.vm.Alike (S.vm.noted f.method.cls x.catchType (.cls c)) := (Vm.Alike.refl S.vm).noted _ _ _
  obtain ⟨k1, hk1⟩ := hk
  obtain ⟨k2, hk2⟩ := hc
  obtain ⟨j1, hj1, -⟩ := hal.2.2 _ _ hk1
  obtain ⟨j2, hj2, -⟩ := hal.2.2 _ _ hk2
  have hfit : (S.vm.noted f.method.cls x.catchType (.cls c)).assignable cell.cls c = S.vm.assignable cell.cls c := by rw [hal.assignable]
  cases hv : S.vm.assignable cell.cls c <;> rw [hv] at hfit <;> simp [findHandler.go, hx, h0, r1, r2, hcell, hobj, hj1, hj2, hfit, VmOp.dirties, VmOp.acts]
/-- the search ends at pc, with the tables vm2 -/
def tx_fd (e : Env) (S : State) (f : JFrame) (a : Addr) (pc : Nat) (vm2 : Vm) : Prop := ∀ (Q : Handler → Pre) (E : CtlPost) (d : Bool) (acts : List Action), wp (findHandler f a) Q E e d acts S ↔ Q (.found pc) d acts (S.setVm vm2)
theorem tx_step {r : List Frame} {pc : Nat} {vm2 : Vm} (h : tx_fd e S f a pc vm2) : (stepThrowing e S a (.java f :: r)).Is ((S.setVm vm2).setFrames (.java { f with pc := pc, stack := [.ref a] } :: r)) [] := by
  simp only [stepThrowing, searchFrame, vmDo]
  generalize hr : Sem.go _ e false [] S = res
  obtain ⟨as, rfl, ha⟩ := Sem.eq_ok_of hr (a := Handler.found pc) (s' := S.setVm vm2) (acts' := []) (by simp [h _ _ _ _])
  exact ⟨rfl, ha⟩
end
section
variable {p : Program} {l : Launch} {e : Env} {R : Room} {s : State} {m : MethodId} {args : Array Value} {below : List Frame} {meth : Method} {c : Code} {T : State} {locs : List Loc} {cells slots : Nat} {g : JFrame} {a : Addr}
abbrev tx_over (T : State) (g : JFrame) (a : Addr) : State := (T.setTop g).pushFrame (.throwing a)
theorem tx_caught (X : Stand p l e R s m args below meth c T locs cells slots) (hg : g.method = m) {pc : Nat} {vm2 : Vm} (h : tx_fd e (tx_over T g a) g a pc vm2) {target : State} (hrest : Steps p.tables e below ((T.setVm vm2).setTop { g with pc := pc, stack := [.ref a] }) target) : Steps p.tables e below (tx_over T g a) target := by
  have hh : At T g.method c below := by rw [hg]; exact X.here
  obtain ⟨hgo, hw⟩ := hh.throwing a
  refine Steps.head hgo hw ?_
  rw [stepThread_throwing (frames_entered hh.top _), (tx_step (S := tx_over T g a) h).1]
  obtain ⟨g0, r, hr⟩ := tx_top X
  have hr2 : (T.setVm vm2).frames = .java g0 :: r := hr
  rw [State.setTop_of_frames _ hr2] at hrest
  have e1 : ∀ (u : State) (F K : List Frame), ((u.setFrames F).setVm vm2).setFrames K = (u.setVm vm2).setFrames K := fun u F K => by
    have e2 : (u.setFrames F).setVm vm2 = (u.setVm vm2).setFrames F := rfl
    rw [e2, State.setFrames_setFrames]
  delta tx_over
  rw [hr, List.tail_cons, State.pushFrame, e1, State.setTop_of_frames _ hr, e1]
  exact hrest
/-- caught by the first row -/
theorem tx_catch1 (X : Stand p l e R s m args below meth c T locs cells slots) (hg : g.method = m) {x : ExceptionTableEntry} {t : List ExceptionTableEntry} (htab : c.exceptionTable.toList = x :: t) (hx : covers x g.pc = true) (h0 : x.catchType ≠ 0) {own nm : String} (hown : s.vm.findClass own = some m.cls) (hlink : (Cond.classLink own x.catchType nm).before args s = true) {cell : Cell} {E : String} (hcell : T.heap[a]? = some cell) (hv : cell.vm = .none) (hE : s.vm.findClass E = some cell.cls) (hcast : (Cond.castable E nm).before args s = true) :
    ∃ vm2, Stand p l e R s m args below meth c (T.setVm vm2) locs cells slots ∧ ∀ target, Steps p.tables e below ((T.setVm vm2).setTop { g with pc := x.handlerPc, stack := [.ref a] }) target → Steps p.tables e below (tx_over T g a) target := by
  have hpl : e.platform.magicAccessors = ({} : Platform).magicAccessors := by rw [X.admits.platform]
  obtain ⟨c1, hc1, hcl⟩ := Cond.classLink_spec hown hlink e.platform hpl
  obtain ⟨c3, c4, hc3, hc4, hasg⟩ := Cond.castable_spec hcast
  cases Option.some.inj (hc3.symm.trans hE)
  cases Option.some.inj (hc4.symm.trans hc1)
  obtain ⟨dk, _, _, kt, hd, _, _, _, _, hkt, _, hopen⟩ := hcl.here
  obtain ⟨k0, hk0⟩ := Vm.classAt_of_findClass hE
  have hW := X.warmed
  obtain ⟨k1, hk1, -⟩ := hW.alike.2.2 _ _ hk0
  obtain ⟨k2, hk2, -⟩ := hW.alike.2.2 _ _ hkt
  have hobj : ∀ k, cell.vm ≠ .statics k := fun k z => by rw [hv] at z; cases z
  have hvm : (tx_over T g a).vm = T.vm := Stand.throwing_vm T g a
  have hhp : (tx_over T g a).heap = T.heap := Stand.throwing_heap T g a
  have hfd : tx_fd e (tx_over T g a) g a x.handlerPc (T.vm.noted g.method.cls x.catchType (.cls c1)) := by
    intro Q E d acts
    rw [W.findHandler_eq (by rw [hvm, hg]; exact X.method') X.code, htab, tx_row hx h0 (by rw [hvm, hg]; exact hW.classLinks hcl) (by rw [hhp]; exact hcell) hobj (by rw [hvm]; exact ⟨k1, hk1⟩) (by rw [hvm]; exact ⟨k2, hk2⟩), if_pos (by rw [hvm, hW.alike.assignable]; exact hasg)]
    delta tx_nt
    rw [hvm]
  have hW2 : s.WarmedH (T.vm.noted g.method.cls x.catchType (.cls c1)) := by rw [hg]; exact hW.noted hd hopen (State.rightAt_cls hcl)
  exact ⟨_, X.noted hW2, fun target hrest => tx_caught X hg hfd hrest⟩
/-- caught by the second row, past the first -/
theorem tx_catch2 (X : Stand p l e R s m args below meth c T locs cells slots) (hg : g.method = m) {x y : ExceptionTableEntry} {t : List ExceptionTableEntry} (htab : c.exceptionTable.toList = y :: x :: t) (hy : covers y g.pc = true) (hy0 : y.catchType ≠ 0) (hx : covers x g.pc = true) (h0 : x.catchType ≠ 0) {own nm ny : String} (hown : s.vm.findClass own = some m.cls) (hliny : (Cond.classLink own y.catchType ny).before args s = true) (hlink : (Cond.classLink own x.catchType nm).before args s = true) {cell : Cell} {E : String} (hcell : T.heap[a]? = some cell) (hv : cell.vm = .none) (hE : s.vm.findClass E = some cell.cls) (hno : va_Nc E ny s) (hcast : (Cond.castable E nm).before args s = true) :
    ∃ vm2, Stand p l e R s m args below meth c (T.setVm vm2) locs cells slots ∧ ∀ target, Steps p.tables e below ((T.setVm vm2).setTop { g with pc := x.handlerPc, stack := [.ref a] }) target → Steps p.tables e below (tx_over T g a) target := by
  have hpl : e.platform.magicAccessors = ({} : Platform).magicAccessors := by rw [X.admits.platform]
  obtain ⟨c1, hc1, hcl⟩ := Cond.classLink_spec hown hlink e.platform hpl
  obtain ⟨cy, hcy, hcly⟩ := Cond.classLink_spec hown hliny e.platform hpl
  obtain ⟨c3, c4, hc3, hc4, hasg⟩ := Cond.castable_spec hcast
  obtain ⟨c5, c6, hc5, hc6, hnas⟩ := hno
  cases Option.some.inj (hc3.symm.trans hE)
  cases Option.some.inj (hc5.symm.trans hE)
  cases Option.some.inj (hc4.symm.trans hc1)
  cases Option.some.inj (hc6.symm.trans hcy)
  obtain ⟨dk, _, _, kt, hd, _, _, _, _, hkt, _, hopen⟩ := hcl.here
  obtain ⟨dky, _, _, kty, hdy, _, _, _, _, hkty, _, hopeny⟩ := hcly.here
  obtain ⟨k0, hk0⟩ := Vm.classAt_of_findClass hE
  have hW := X.warmed
  have hW1 : s.WarmedH (T.vm.noted g.method.cls y.catchType (.cls cy)) := by rw [hg]; exact hW.noted hdy hopeny (State.rightAt_cls hcly)
  have hW2 : s.WarmedH ((T.vm.noted g.method.cls y.catchType (.cls cy)).noted g.method.cls x.catchType (.cls c1)) := by
    have := hW1.noted hd hopen (State.rightAt_cls hcl)
    rw [← hg] at this
    exact this
  obtain ⟨k1, hk1, -⟩ := hW.alike.2.2 _ _ hk0
  obtain ⟨k3, hk3, -⟩ := hW.alike.2.2 _ _ hkty
  obtain ⟨k4, hk4, -⟩ := hW1.alike.2.2 _ _ hk0
  obtain ⟨k5, hk5, -⟩ := hW1.alike.2.2 _ _ hkt
  have hobj : ∀ k, cell.vm ≠ .statics k := fun k z => by rw [hv] at z; cases z
  have hvm : (tx_over T g a).vm = T.vm := Stand.throwing_vm T g a
  have hhp : (tx_over T g a).heap = T.heap := Stand.throwing_heap T g a
  have hn1 : tx_nt (tx_over T g a) g y.catchType cy = (tx_over T g a).setVm (T.vm.noted g.method.cls y.catchType (.cls cy)) := by
    delta tx_nt
    rw [hvm]
  have hl2 : ((tx_over T g a).setVm (T.vm.noted g.method.cls y.catchType (.cls cy))).vm.ClassLinks e.platform g.method.cls x.catchType c1 := by
    have := hW1.classLinks hcl
    rw [← hg] at this
    exact this
  have hfit2 : ((tx_over T g a).setVm (T.vm.noted g.method.cls y.catchType (.cls cy))).vm.assignable cell.cls c1 = true := by
    show (T.vm.noted g.method.cls y.catchType (.cls cy)).assignable cell.cls c1 = true
    rw [hW1.alike.assignable]; exact hasg
  have hcell2 : ((tx_over T g a).setVm (T.vm.noted g.method.cls y.catchType (.cls cy))).heap[a]? = some cell := by
    show (tx_over T g a).heap[a]? = some cell
    rw [hhp]; exact hcell
  have hfd : tx_fd e (tx_over T g a) g a x.handlerPc ((T.vm.noted g.method.cls y.catchType (.cls cy)).noted g.method.cls x.catchType (.cls c1)) := by
    intro Q E d acts
    rw [W.findHandler_eq (by rw [hvm, hg]; exact X.method') X.code, htab, tx_row hy hy0 (by rw [hvm, hg]; exact hW.classLinks hcly) (by rw [hhp]; exact hcell) hobj (by rw [hvm]; exact ⟨k1, hk1⟩) (by rw [hvm]; exact ⟨k3, hk3⟩), if_neg (by rw [hvm, hW.alike.assignable, hnas]; decide), hn1,
      tx_row (S := (tx_over T g a).setVm (T.vm.noted g.method.cls y.catchType (.cls cy))) (c := c1) (cell := cell) hx h0 hl2 hcell2 hobj ⟨k4, hk4⟩ ⟨k5, hk5⟩, if_pos hfit2]
    rfl
  exact ⟨_, X.noted hW2, fun target hrest => tx_caught X hg hfd hrest⟩
end
