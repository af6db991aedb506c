/-! a call whose callee throws: back in the caller, the note over its frame -/
section
variable {p : Program} {l : Launch} {e : Env} {R : Room} {s : State} {m : MethodId} {args : Array Value} {below : List Frame} {meth : Method} {c : Code} {T U : State} {locs Lx : List Loc} {cells slots mc ms : Nat} {g : JFrame} {x : Addr}
theorem tx_land (X : Stand p l e R s m args below meth c U locs cells slots) (hg : g.method = m) {mk : MethodId} {a : Array Value} {t : State} (hend : Ended t (.java g :: U.frames.tail) (.threw x)) (hW : U.WarmedH t.vm) (hsm : (U.calling g mk a).sameButNew ({ t with vm := (U.calling g mk a).vm } : State) Lx mc ms) :
    ∃ V : State, Stand p l e R s m args below meth c V (locs ++ Lx) (cells + mc) (slots + ms) ∧ V.heap = t.heap ∧ t = tx_over V g x := by
  obtain ⟨e2, q2, q3, q4, q5, q6⟩ := hsm
  obtain ⟨g0, r, hr⟩ := tx_top X
  have htop : U.topJava?.isSome := X.here.top
  have e3 : t = ({ (U.calling g mk a).setFrames t.frames with heap := t.heap, slotsUsed := t.slotsUsed } : State).setVm t.vm := by
    have h1 : t = ({ t with vm := (U.calling g mk a).vm } : State).setVm t.vm := rfl
    rw [e2] at h1
    exact h1
  have hf : t.frames = .throwing x :: .java g :: U.frames.tail := hend
  have hr2 : (({ U with heap := t.heap, slotsUsed := t.slotsUsed } : State).setVm t.vm).frames = .java g0 :: r := hr
  have e4 : t = tx_over (({ U with heap := t.heap, slotsUsed := t.slotsUsed } : State).setVm t.vm) g x := by
    refine e3.trans ?_
    delta tx_over
    rw [hf, State.calling_eq htop, State.setFrames_setFrames, State.pushFrame, State.frames_setTop _ hr2, State.setTop_of_frames _ hr2, State.setFrames_setFrames, hr]
    rfl
  have hsame : U.sameButNew ({ U with heap := t.heap, slotsUsed := t.slotsUsed } : State) Lx mc ms := by
    refine ⟨?_, q2, q3, q4, q5, q6⟩
    obtain ⟨t9, ht9, -⟩ := State.frames_cons hr
    show ({ U with heap := t.heap, slotsUsed := t.slotsUsed } : State) = { U.setFrames U.frames with heap := t.heap, slotsUsed := t.slotsUsed }
    rw [State.setFrames_self ht9]
  exact ⟨_, ⟨X.admits, X.cas, X.clock, X.frames, X.room, X.hears, X.method, X.code, (X.here.setHeapUsed t.heap t.slotsUsed).setVm hW.alike, X.tail, State.WarmedH.trans X.warmed hW, X.limits, X.bytes, X.same.trans (hsame.setVm s.vm)⟩, rfl, e4⟩
/-- a virtual call by any contract: how it comes back -/
theorem tx_virt (X : Stand p l e R s m args below meth c T locs cells slots) (hexec : p.tables.exec = Jvm.exec) {own C : String} {index : Nat} {y : MethodName} {bytes : ByteArray} {maxL : Nat} {ret : Option FieldType} {ws : List Cond} {rm : Room} {Pc : Array Value → State → Prop} {QQ : Array Value → State → Outcome → State → Prop} (hM : MetFree l y (headSpec ws rm) Pc (fun _ _ _ _ _ => True) QQ)
    (hown : s.vm.findClass own = some m.cls) (hfr : rm.frames + 1 ≤ R.frames) (hlo : 8 + (maxL + 11) + rm.locals ≤ R.locals) (hcs : cells + rm.cells ≤ R.cells) (hss : slots + rm.slots ≤ R.slots)
    (hws : ∀ w ∈ ws, ∀ (a' : Array Value) (V : State), s.WarmedH V.vm → w.before a' V = true) (hcw : Cond.code y bytes maxL ret ∈ ws) (hlink : (Cond.methodLink own index y).before args s = true) (hinst : (Cond.instanceMethod y).before args s = true) (hsel : (Cond.selects C y y).before args s = true) (hcode : (Cond.code y bytes maxL ret).before args s = true) (hini : (Cond.initialized y.cls).before args s = true) (hy : y.cls ≠ "java/lang/invoke/MethodHandle" ∧ y.cls ≠ "java/lang/invoke/VarHandle")
    {b : Addr} {cellB : Cell} (hcell : T.heap[b]? = some cellB) (hobj : cellB.vm.isStatics = false) (hcls : s.vm.findClass C = some cellB.cls) (hg : g.method = m) (hsize : g.locals.size = c.maxLocals) {argsL rest : List Value} (hlen : ∀ sig, parseMethodDescriptor y.desc = some sig → argsL.length = sig.parameters.length)
    (hstack : g.stack = argsL.reverse ++ .ref b :: rest) (hW8 : 2 * g.monitorRoom + (rest.map fun v => v.category).sum ≤ 8) (hdg : decode c.code g.pc = .ok (.invokevirtual index, 3)) (hbl : FrameBlind Pc) (hPc : ∀ V : State, V.heap = T.heap → s.WarmedH V.vm → Pc (Value.ref b :: argsL).toArray V) :
    ∃ (U : State) (mk : MethodId) (o : Outcome) (t : State), U.heap = T.heap ∧ Stand p l e R s m args below meth c U locs cells slots ∧ Steps p.tables e below (T.setTop g) t ∧ Ended t (.java { g with stack := rest } :: U.frames.tail) o ∧ QQ (Value.ref b :: argsL).toArray (U.calling { g with stack := rest } mk (Value.ref b :: argsL).toArray) o t := by
  obtain ⟨mk, methM, hnamed, hmethM, hstM, habM⟩ := Cond.instanceMethod_spec hinst
  obtain ⟨methN, cN, hmN, -, -, -, -, -, -, hsigM⟩ := Cond.code_spec hnamed hcode
  cases hmethM.symm.trans hmN
  obtain ⟨c2, r2, m2, q1, q2, q3, q4, kP, hkP, hkPi⟩ := Cond.selects_spec hsel
  cases hcls.symm.trans q1
  cases (State.methodFound?_of_named hnamed hy).symm.trans q2
  cases hnamed.symm.trans q3
  have hselP : selectMethod e.platform s.vm cellB.cls mk = .method mk := by rw [Launch.admits_selectMethod X.admits]; exact q4
  obtain ⟨vm1, X1, hstep⟩ := X.invokevirtual hexec hown hlink hnamed hmethM hstM hkP hkPi hy (a := b) (cell := cellB) hcell
    (fun z h => by rw [h] at hobj; cases hobj) hselP hmethM habM hkP hkPi (g := g) hg (argsL := argsL) (rest := rest) (hlen _ hsigM) hstack hdg
  have hW1 := X1.warmed
  generalize hU : T.setVm vm1 = U at X1 hstep hW1
  have hUh : U.heap = T.heap := by rw [← hU]; rfl
  obtain ⟨g2, hg2⟩ : ∃ z : JFrame, z = { g with stack := rest } := ⟨_, rfl⟩
  rw [← hg2] at hstep ⊢
  have hgm : g2.method = m := by rw [hg2]; exact hg
  have hgs : g2.locals.size = c.maxLocals := by rw [hg2]; exact hsize
  have hgd : decode c.code g2.pc = .ok (.invokevirtual index, 3) := by rw [hg2]; exact hdg
  have hg8 : 2 * g2.monitorRoom + (g2.stack.map fun v => v.category).sum ≤ 8 := by rw [hg2]; exact hW8
  have hnU : U.methodNamed? y = some mk := X1.named hnamed
  have hc1 : (Cond.code y bytes maxL ret).before (Value.ref b :: argsL).toArray U = true := hws _ hcw _ _ hW1
  obtain ⟨methY, cY, hmY, hcY, -, hlY, -, -, -, -⟩ := Cond.code_spec hnU hc1
  obtain ⟨kY, hkY, -⟩ := className_of_methodNamed hnU
  have hiU : (Cond.initialized y.cls).before (Value.ref b :: argsL).toArray U = true := word_at hW1 (Or.inl (by first | rfl | simp [Cond.onTables, Cond.keeps, Cond.steady])) hini
  have hinitY : kY.init = .initialized := Cond.initialized_spec (findClass_of_methodNamed hnU) hkY hiU
  have h : At U g2.method c below := by rw [hgm]; exact X1.here
  have happ : (headSpec ws rm).appliesLoose y e.platform (U.calling g2 mk (Value.ref b :: argsL).toArray) = true :=
    Spec.appliesLoose_calling (g := g2) h hgd hnU hkY hinitY
      (X1.room_calling (g := g2) (R' := (headSpec ws rm).room) hgs hmY hcY hfr (by rw [hlY]; show _ + rm.locals ≤ R.locals; omega) hcs hss) (atoms_intro fun w hw => hws w hw _ _ hW1)
  obtain ⟨mid, hmid⟩ := h.above
  have hfr2 : (U.setTop g2).frames = (.java g2 :: mid) ++ below := by rw [State.frames_setTop' g2 h.top, hmid]; rfl
  obtain ⟨o, t, hsteps, -, hend, hq⟩ := Steps.callFree hM p X1.admits X1.cas X1.clock (acts := []) hfr2 happ (hbl _ _ _ _ (hPc U hUh hW1)) trivial
  rw [State.frames_setTop' g2 h.top] at hend
  exact ⟨U, mk, o, t, hUh, X1, hstep _ (fun acts => by rw [doInvoke_state]; exact hsteps), hend, hq⟩
end
