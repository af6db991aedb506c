/-! Exceptions. A walk seen from the state it has come to: the same activation, begun here. -/
section
variable {p : Program} {l : Launch} {e : Env} {R : Room} {s : State} {m : MethodId} {args : Array Value} {below : List Frame} {meth : Method} {c : Code} {T : State} {locs : List Loc} {cells slots : Nat}
abbrev tx_here (T s : State) (m : MethodId) (args : Array Value) (below : List Frame) : State := (T.setVm s.vm).setFrames (.invoking m args :: below)
theorem tx_top (X : Stand p l e R s m args below meth c T locs cells slots) : ∃ g r, T.frames = .java g :: r := by
  obtain ⟨g, hg⟩ := Option.isSome_iff_exists.mp X.here.top
  obtain ⟨r, hr⟩ := State.topJava?_eq_some.mp hg
  exact ⟨g, r, hr⟩
theorem tx_frames (X : Stand p l e R s m args below meth c T locs cells slots) : (tx_here T s m args below).frames = .invoking m args :: below := by
  obtain ⟨g, r, hr⟩ := tx_top X
  have hr2 : (T.setVm s.vm).frames = .java g :: r := hr
  exact State.frames_setFrames _ (State.cur_lt_of_frames hr2)
theorem tx_room (X : Stand p l e R s m args below meth c T locs cells slots) {kc ks : Nat} (hc : cells + kc ≤ R.cells) (hs : slots + ks ≤ R.slots) : (tx_here T s m args below).hasRoom e.platform { frames := R.frames, cells := kc, slots := ks, locals := R.locals } = true := by
  have hF := tx_frames X
  have hU : (tx_here T s m args below).localsInUse = s.localsInUse := by
    rw [State.localsInUse_invoking hF (meth := meth) (c := c) X.method X.code, State.localsInUse_invoking X.frames X.method X.code]
  have h := X.room
  have hl9 : e.platform.stackLimits (T.setVm s.vm).me = e.platform.stackLimits s.me := X.limits
  have hb9 : (T.setVm s.vm).me.stackBytes = s.me.stackBytes := X.bytes
  have q1 := X.heapSize
  have q2 := X.used
  have z1 : (tx_here T s m args below).heap.size = T.heap.size := rfl
  have z2 : (tx_here T s m args below).slotsUsed = T.slotsUsed := rfl
  have z3 : (tx_here T s m args below).slotsTrue = true := X.book
  simp only [State.hasRoom, Bool.and_eq_true, decide_eq_true_eq] at h ⊢
  rw [X.frames] at h
  rw [hF, hU, z1, z2, z3]
  simp only [State.stackLimits_setFrames, State.stackBytes_setFrames, hl9, hb9]
  simp only [List.length_cons] at h ⊢
  obtain ⟨⟨⟨h1, h7⟩, h8⟩, h9⟩ := h
  refine ⟨⟨⟨h1, by omega⟩, by omega⟩, trivial⟩
theorem tx_none (T : State) : ((T.heap.toList.drop T.heap.size).map (·.slots.size)).sum = 0 := by
  rw [List.drop_eq_nil_of_le (Nat.le_of_eq Array.length_toList)]
  rfl
theorem tx_base (X : Stand p l e R s m args below meth c T locs cells slots) {kc ks : Nat} (hc : cells + kc ≤ R.cells) (hs : slots + ks ≤ R.slots) :
    Stand p l e { frames := R.frames, cells := kc, slots := ks, locals := R.locals } (tx_here T s m args below) m args below meth c T [] 0 0 := by
  obtain ⟨g, r, hr⟩ := tx_top X
  have hr2 : (T.setVm s.vm).frames = .java g :: r := hr
  have e1 : T.setVm s.vm = { (tx_here T s m args below).setFrames (T.setVm s.vm).frames with heap := T.heap, slotsUsed := T.slotsUsed } := by
    obtain ⟨t, ht, -⟩ := State.frames_cons hr2
    rw [State.setFrames_setFrames, State.setFrames_self ht]
    rfl
  have l1 : e.platform.stackLimits T.me = e.platform.stackLimits (tx_here T s m args below).me := by
    rw [State.stackLimits_setFrames]; rfl
  have b1 : T.me.stackBytes = (tx_here T s m args below).me.stackBytes := by
    rw [State.stackBytes_setFrames]; rfl
  exact ⟨X.admits, X.cas, X.clock, tx_frames X, tx_room X hc hs, X.hears, X.method, X.code, X.here, X.tail, X.warmed, l1, b1,
    ⟨e1, Nat.le_refl _, Nat.le_refl _, (by show T.slotsUsed = T.slotsUsed + ((T.heap.toList.drop T.heap.size).map (·.slots.size)).sum; rw [tx_none]; rfl), (by show ((T.heap.toList.drop T.heap.size).map (·.slots.size)).sum ≤ 0; rw [tx_none]; exact Nat.le_refl _), fun a c9 h9 => ⟨c9, h9, rfl, rfl, fun _ _ => rfl⟩⟩⟩
/-- what has happened since the base, seen from the entry -/
theorem tx_since (X : Stand p l e R s m args below meth c T locs cells slots) {U : State} {kc ks : Nat} (h : (tx_here T s m args below).sameButNew ({ U with vm := (tx_here T s m args below).vm } : State) [] kc ks) :
    s.sameButNew ({ U with vm := s.vm } : State) locs (cells + kc) (slots + ks) ∧ T.heap.size ≤ U.heap.size ∧ ∀ q : Nat, q < T.heap.size → U.heap[q]? = T.heap[q]? := by
  obtain ⟨e1, e2, e3, e4, e5, e6⟩ := h
  refine ⟨?_, e2, fun q hq => ?_⟩
  · have h2 : (T.setVm s.vm).sameButNew ({ U with vm := s.vm } : State) [] kc ks := by
      rw [State.setFrames_setFrames] at e1
      exact ⟨e1, e2, e3, e4, e5, e6⟩
    have h3 := X.same.trans h2
    rw [List.append_nil] at h3
    exact h3
  · obtain ⟨c9, a1, a2, a3, a4⟩ := e6 q T.heap[q] (Array.getElem?_eq_getElem hq)
    have hs : c9.slots = (T.heap[q]).slots := Array.ext_getElem? fun i => a4 i List.not_mem_nil
    have h9 : c9 = T.heap[q] := by
      rw [a2, hs]
    have a5 : U.heap[q]? = some c9 := a1
    rw [a5, h9, Array.getElem?_eq_getElem hq]
end
/-! what a throw reads of Throwable's statics: two references that nobody writes -/
def tx_S (C n d : String) (A : Nat → Prop) (U : State) (H : Heap) : Prop := ∃ (c : ClassId) (k : Class) (i : Nat) (f : Field) (a : Nat) (cell : Cell) (u : Value), U.vm.findClass C = some c ∧ U.fieldFound? C n d = some (c, k, i, f) ∧ f.isStatic = true ∧ k.statics = some a ∧ H[a]? = some cell ∧ cell.vm.isStatics = true ∧ cell.cls = c ∧ f.slot < cell.slots.size ∧ k.staticTypes[f.slot]? = some f.type ∧ cell.slots[f.slot]? = some u ∧ u.isRef = true ∧ ¬ A a
theorem tx_S.lays {C n d : String} {A : Nat → Prop} {s : State} {args : Array Value} (h : tx_S C n d A s s.heap) : (Cond.laysStatic C n d).before args s = true := by
  obtain ⟨c, k, i, f, a, cell, u, h1, h2, h3, h4, h5, h6, h7, h8, h9, -⟩ := h
  show (Cond.laysStatic C n d).holds args s none s [] = true
  exact Cond.laysStatic_of h1 h2 h3 h4 h5 h6 h7 h8 h9
theorem tx_S.ref {C n d : String} {A : Nat → Prop} {s : State} {args : Array Value} (h : tx_S C n d A s s.heap) : (Cond.isRef (.static C n d)).before args s = true := by
  obtain ⟨c, k, i, f, a, cell, u, h1, h2, h3, h4, h5, h6, h7, h8, h9, h10, h11, -⟩ := h
  have he : (Term.static C n d).eval args s none [] s = some u := by
    simp [Term.eval, State.fieldNamed?, h2, h3, h4, h5, h6, h10]
  simp only [Cond.before, Cond.holds, Cond.value, he]
  cases u <;> simp_all [Value.isRef]
theorem tx_S.go {C n d : String} {A B : Nat → Prop} {u U : State} {H H1 : Heap} (h : tx_S C n d A u H) (hvm : u.vm.Alike U.vm) (hq : ∀ a : Nat, a < H.size → ¬ A a → H1[a]? = H[a]?) (hB : ∀ q, B q → A q) : tx_S C n d B U H1 := by
  obtain ⟨c, k, i, f, a, cell, v, h1, h2, h3, h4, h5, h6, h7, h8, h9, h10, h11, h12⟩ := h
  obtain ⟨k2, hi, he⟩ := State.fieldFound?_setVm hvm h2
  exact ⟨c, k2, i, f, a, cell, v, by rw [hvm.findClass]; exact h1, hi, h3, by rw [he]; exact h4, by rw [hq a (Array.getElem?_eq_some_iff.mp h5).1 h12]; exact h5, h6, h7, h8, by rw [he]; exact h9, h10, h11, fun z => h12 (hB _ z)⟩
theorem tx_S.of {C n d : String} {A : Nat → Prop} {s : State} {args : Array Value} (h1 : (Cond.laysStatic C n d).before args s = true) (h2 : (Cond.isRef (.static C n d)).before args s = true) (hA : ∀ a : Nat, a < s.heap.size → ¬ A a) : tx_S C n d A s s.heap := by
  obtain ⟨c, k, i, f, a, cell, a1, a2, a3, a4, a5, a6, a7, a8, a9⟩ := Cond.laysStatic_spec h1
  have hv : ∃ v, cell.slots[f.slot]? = some v := ⟨_, Array.getElem?_eq_getElem a8⟩
  obtain ⟨v, hv⟩ := hv
  have he : (Term.static C n d).eval args s none [] s = some v := by
    simp [Term.eval, State.fieldNamed?, a2, a3, a4, a5, a6, hv]
  have hr : v.isRef = true := by
    simp only [Cond.before, Cond.holds, Cond.value, he] at h2
    cases v <;> simp_all [Value.isRef]
  exact ⟨c, k, i, f, a, cell, v, a1, a2, a3, a4, a5, a6, a7, a8, a9, hv, hr, hA a (Array.getElem?_eq_some_iff.mp a5).1⟩
