/-! A layer over the kit's rows: a method's walk over ONE world, a pool of all cells (the list of their addresses, what each holds). -/
abbrev tf_I : Type := MethodName × ByteArray × Nat × Option FieldType
abbrev tf_V : Type := List (Nat × Value)
abbrev tf_F : Type := Nat → va_E
abbrev tf_B : Type := List Frame → Array Value → State → Nat → Nat → (Nat → Prop) → State → Prop
/-- what the tables and the class list are: fixed for a whole claim -/
abbrev tf_G : Type := va_G × List vw_C × List (ClassId × FieldType) × List Cond × List Cond
def tf_M (G : tf_G) (i : tf_I) (p : Program) (s : State) (m : MethodId) (args : Array Value) (meth : Method) (c : Code) : Prop :=
  p.tables.exec = Jvm.exec ∧ c.code = i.2.1 ∧ c.maxLocals = i.2.2.1 ∧ s.vm.findClass i.1.cls = some m.cls ∧ (∀ w ∈ G.2.2.2.1, w.before args s = true) ∧ meth.sig.returnType = i.2.2.2 ∧ meth.locks = false ∧ (∀ w ∈ G.2.2.2.2, va_Nw w s) ∧ meth.name = i.1.name ∧ va_K G.1 G.2.1 G.2.2.1 s ∧ s.methodNamed? i.1 = some m
/-- the world: the pool in the heap, apart, inside A; nothing outside A has changed; what is new is in A -/
def tf_P (G : tf_G) (L : List Nat) (f : tf_F) (A : Nat → Prop) (s : State) (H : Heap) (locs : List Loc) : Prop :=
  va_P G.1 G.2.1 (va_pl L f) H ∧ va_D A (va_pl L f) ∧ va_S A s.heap H locs ∧ ∀ q, s.heap.size ≤ q → A q
def tf_R (d kc ks mc ms cells slots : Nat) (R : Room) : Prop := d ≤ R.frames ∧ 64 * d ≤ R.locals ∧ cells + kc ≤ mc ∧ slots + ks ≤ ms ∧ mc ≤ R.cells ∧ ms ≤ R.slots
/-- the machine, at pc with these locals and this stack over this world, comes to an end with QB; kc cells of ks slots may still be made, d frames entered -/
def tf_W (l : Launch) (G : tf_G) (EX : State → (Nat → Prop) → Prop) (QB : tf_B) (d : Nat) (i : tf_I) (pc : Nat) (lv : tf_V) (st : List Value) (L : List Nat) (f : tf_F) (kc ks : Nat) : Prop :=
  ∀ (p : Program) (e : Env) (R : Room) (s : State) (m : MethodId) (args : Array Value) (below : List Frame) (meth : Method) (c : Code) (H : Heap) (locs : List Loc) (cells slots : Nat) (ls : Array Slot) (A : Nat → Prop) (mc ms : Nat),
    tf_M G i p s m args meth c → EX s A → tf_R d kc ks mc ms cells slots R → lv_has ls i.2.2.1 lv → tf_P G L f A s H locs →
    W p l e R s m args below meth c H locs cells slots (QB below args s mc ms A) (F0 m pc ls st)
def tf_lk : tf_V → Nat → Option Value
  | [], _ => none
  | q :: r, i => if q.1 == i then some q.2 else tf_lk r i
theorem tf_lk_mem {lv : tf_V} {i : Nat} {v : Value} (h : tf_lk lv i = some v) : (i, v) ∈ lv := by
  induction lv with
  | nil => cases h
  | cons q r ih =>
    unfold tf_lk at h
    split at h
    · rename_i hq
      have : q.1 = i := by simpa using hq
      cases h
      subst this
      exact List.mem_cons_self
    · exact List.mem_cons_of_mem _ (ih h)
theorem tf_at {ls : Array Slot} {nL : Nat} {lv : tf_V} (h : lv_has ls nL lv) {i : Nat} {v : Value} (hk : tf_lk lv i = some v) : ls[i]? = some (.val v) := h.2.2 (i, v) (tf_lk_mem hk)
/-- the list of locals stays in the order of their numbers -/
def tf_in : tf_V → Nat → Value → tf_V
  | [], i, v => [(i, v)]
  | q :: r, i, v => if Nat.blt i q.1 then (i, v) :: q :: r else q :: tf_in r i v
theorem tf_in_mem {lv : tf_V} {i : Nat} {v : Value} {x : Nat × Value} (h : x ∈ tf_in lv i v) : x = (i, v) ∨ x ∈ lv := by
  induction lv with
  | nil => exact Or.inl (List.mem_singleton.mp h)
  | cons q r ih =>
    unfold tf_in at h
    split at h
    · rcases List.mem_cons.mp h with h | h
      · exact Or.inl h
      · exact Or.inr h
    · rcases List.mem_cons.mp h with h | h
      · exact Or.inr (h ▸ List.mem_cons_self)
      · exact (ih h).imp id (List.mem_cons_of_mem _)
def tf_s1 (lv : tf_V) (i : Nat) (v : Value) : tf_V := tf_in (lv.filter (fun q => !(q.1 == i) && !(q.1 + 1 == i && q.2.category == 2))) i v
def tf_s2 (lv : tf_V) (i : Nat) (v : Value) : tf_V := tf_in (lv.filter (fun q => !(q.1 == i) && (!(q.1 == i + 1) && !(q.1 + 1 == i && q.2.category == 2)))) i v
theorem tf_has {ls : Array Slot} {nL i : Nat} {lw : tf_V} {v : Value} (h : lv_has ls nL ((i, v) :: lw)) : lv_has ls nL (tf_in lw i v) :=
  ⟨h.1, h.2.1, fun q hq => h.2.2 q ((tf_in_mem hq).elim (fun e => e ▸ List.mem_cons_self) (List.mem_cons_of_mem _))⟩
def tf_keep (ks : List Nat) (lv : tf_V) : tf_V := lv.filter (fun q => ks.contains q.1)
theorem tf_keep_has {ls : Array Slot} {nL : Nat} {lv : tf_V} (ks : List Nat) (h : lv_has ls nL lv) : lv_has ls nL (tf_keep ks lv) :=
  ⟨h.1, h.2.1, fun q hq => h.2.2 q (List.mem_filter.mp hq).1⟩
