theorem w_378 : Cond.classLink "TypeFoundry" 70 "java/lang/IllegalStateException" ∈ tf_Ts := tf_mem 378 (by decide +kernel) rfl
theorem w_13 : Cond.initialized "java/lang/IllegalStateException" ∈ tf_Ts := tf_mem 13 (by decide +kernel) rfl
theorem w_379 : Cond.instantiable "java/lang/IllegalStateException" 6 ∈ tf_Ts := tf_mem 379 (by decide +kernel) rfl
theorem w_521 : Cond.classLink "TypeFoundry" 89 "java/lang/IllegalArgumentException" ∈ tf_Ts := tf_mem 521 (by decide +kernel) rfl
theorem w_15 : Cond.initialized "java/lang/IllegalArgumentException" ∈ tf_Ts := tf_mem 15 (by decide +kernel) rfl
theorem w_522 : Cond.instantiable "java/lang/IllegalArgumentException" 6 ∈ tf_Ts := tf_mem 522 (by decide +kernel) rfl
theorem w_554 : Cond.classLink "TypeFoundry" 119 "java/lang/IndexOutOfBoundsException" ∈ tf_Ts := tf_mem 554 (by decide +kernel) rfl
theorem w_16 : Cond.initialized "java/lang/IndexOutOfBoundsException" ∈ tf_Ts := tf_mem 16 (by decide +kernel) rfl
theorem w_555 : Cond.instantiable "java/lang/IndexOutOfBoundsException" 6 ∈ tf_Ts := tf_mem 555 (by decide +kernel) rfl
/-! a method that throws a new exception with a text: 'throw new E("..")' -/
def tx_k : Cond → Bool
  | .castable _ _ => true
  | .declares _ => true
  | _ => false
def tx_W : List Cond := tables_1.filter tx_k
abbrev tx_u : Cond := .isRef (.static "java/lang/Throwable" "UNASSIGNED_STACK" "[Ljava/lang/StackTraceElement;")
abbrev tx_n : Cond := .isRef (.static "java/lang/Throwable" "SUPPRESSED_SENTINEL" "Ljava/util/List;")
abbrev tx_lu : Cond := .laysStatic "java/lang/Throwable" "UNASSIGNED_STACK" "[Ljava/lang/StackTraceElement;"
abbrev tx_ln : Cond := .laysStatic "java/lang/Throwable" "SUPPRESSED_SENTINEL" "Ljava/util/List;"
def tx_c (w : Cond) : Bool := (decide (w ∈ tables_1) && (goodWord w || tx_k w)) || decide (w = tx_u) || decide (w = tx_n) || decide (w = tx_lu) || decide (w = tx_ln)
abbrev tx_sup : List String := ["java/lang/RuntimeException", "java/lang/Exception"]
def tx_strs : List (String × Nat × String) := [("TypeFoundry", 72, "there are 40 glyphs"), ("TypeFoundry", 91, "no such glyph or place"), ("TypeFoundry", 101, "the glyph is locked or has 40 points"), ("TypeFoundry", 121, "no such glyph, point or master"), ("TypeFoundry", 124, "no such place"), ("TypeFoundry", 133, "no such glyphs, shift or turn"), ("TypeFoundry", 139, "the glyph is locked, full or too deep"), ("TypeFoundry", 162, "no such glyph, point or what"), ("TypeFoundry", 182, "no such glyph or side"), ("TypeFoundry", 229, "no such lookup or glyphs"), ("TypeFoundry", 234, "there are 40 rules"), ("TypeFoundry", 256, "no such glyph of the row or what")]
/-- what a method that may throw needs of its start -/
def tx_EX (s : State) (A : Nat → Prop) : Prop := tx_S "java/lang/Throwable" "UNASSIGNED_STACK" "[Ljava/lang/StackTraceElement;" A s s.heap ∧ tx_S "java/lang/Throwable" "SUPPRESSED_SENTINEL" "Ljava/util/List;" A s s.heap ∧ (∀ w ∈ tx_W, va_Nw w s) ∧ ∀ p ∈ tx_strs, ∃ a, vk_R p.1 p.2.1 p.2.2 a s
abbrev tx_O : Type := String → List Nat → tf_F → Prop
def tx_T (G : tf_G) (Ψ : tx_O) (A : Nat → Prop) (mc ms : Nat) (st : State) (o : Outcome) (t : State) : Prop :=
  ∃ (x : Addr) (E : String) (ce : Cell) (Lx : List Loc) (L : List Nat) (f : tf_F), o = .threw x ∧ Ψ E L f ∧ va_P G.1 G.2.1 (va_pl L f) t.heap ∧ va_D A (va_pl L f) ∧ va_F A st t ∧ t.heap[x]? = some ce ∧ ce.vm = .none ∧ st.vm.findClass E = some ce.cls ∧ st.WarmedH t.vm ∧ st.sameButNew ({ t with vm := st.vm } : State) Lx mc ms ∧ ∀ z ∈ Lx, A z.base
def tx_Q (G : tf_G) (Φ : tf_O) (Ψ : tx_O) (A : Nat → Prop) (mc ms : Nat) : Array Value → State → Outcome → State → Prop := fun a st o t =>
  (tf_Q G Φ A a st o t ∧ ∃ L, FrameEnd st o t L mc ms ∧ ∀ q ∈ L, A q.base) ∨ tx_T G Ψ A mc ms st o t
def tx_QB (G : tf_G) (Φ : tf_O) (Ψ : tx_O) : tf_B := fun below args s mc ms A t => ∃ o, t.status = .running ∧ Ended t below o ∧ tx_Q G Φ Ψ A mc ms args s o t
section
variable {l : Launch} {G : tf_G} {EX : State → (Nat → Prop) → Prop} {d : Nat} {i : tf_I} {pc : Nat} {lv : tf_V} {st : List Value} {L : List Nat} {f : tf_F} {kc ks : Nat} {Φ : tf_O} {Ψ : tx_O}
theorem tx_ret (k : tf_W l G EX (tf_QM G Φ) d i pc lv st L f kc ks) : tf_W l G EX (tx_QB G Φ Ψ) d i pc lv st L f kc ks := by
  intro p e R s m args below meth c H locs cells slots ls A mc ms hM hE hR hl hP T hT X
  obtain ⟨t, a1, o, b1, b2, b3, b4⟩ := k p e R s m args below meth c H locs cells slots ls A mc ms hM hE hR hl hP T hT X
  exact ⟨t, a1, o, b1, b2, Or.inl ⟨b3, b4⟩⟩
theorem tx_kt {w : Cond} (h : tx_k w = true) : w.onTables = true := by
  unfold tx_k at h
  split at h
  · rfl
  · rfl
  · cases h
theorem tx_words {ws : List Cond} (hall : ws.all tx_c = true) {s s' : State} {A : Nat → Prop} {args : Array Value} (hv : s'.vm = s.vm) (hts : ∀ w ∈ tf_Ts, w.before args s = true) (hw : ∀ w ∈ tx_W, va_Nw w s) (h1 : tx_S "java/lang/Throwable" "UNASSIGNED_STACK" "[Ljava/lang/StackTraceElement;" A s' s'.heap) (h2 : tx_S "java/lang/Throwable" "SUPPRESSED_SENTINEL" "Ljava/util/List;" A s' s'.heap) : ∀ w ∈ ws, w.before args s' = true := by
  intro w hwm
  have hc := List.all_eq_true.mp hall w hwm
  simp only [tx_c, Bool.or_eq_true, Bool.and_eq_true, decide_eq_true_eq] at hc
  rcases hc with (((⟨hm, hg | hk⟩ | e) | e) | e) | e
  · have hW : s.WarmedH s'.vm := by rw [hv]; exact State.WarmedH.refl s
    exact word_at hW (good_of_word hg) (hts w (List.mem_filter.mpr ⟨List.mem_append_right _ hm, hg⟩))
  · exact va_tabs (tx_kt hk) hv.symm (hw w (List.mem_filter.mpr ⟨hm, hk⟩))
  · rw [e]; exact h1.ref
  · rw [e]; exact h2.ref
  · rw [e]; exact h1.lays
  · rw [e]; exact h2.lays
end
theorem xa_74 : (Bundle.ownAtoms "TypeFoundry" 74 "java/lang/IllegalStateException" tx_sup).all tx_c = true := by decide +kernel
theorem xa_93 : (Bundle.ownAtoms "TypeFoundry" 93 "java/lang/IllegalArgumentException" tx_sup).all tx_c = true := by decide +kernel
theorem xa_123 : (Bundle.ownAtoms "TypeFoundry" 123 "java/lang/IndexOutOfBoundsException" tx_sup).all tx_c = true := by decide +kernel
