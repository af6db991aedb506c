/-! contracts of methods that may throw; calls of them that return -/
def tx_Pc (G : tf_G) (av : List Value) (L : List Nat) (f : tf_F) (sz : Nat) : Array Value → State → Prop := va_Pc av (fun U => tf_S G L f sz U ∧ tx_EX U (tf_A L sz))
/-- a contract: the method returns with Φ, or throws a new exception of the class E with Ψ E -/
def tx_C (l : Launch) (G : tf_G) (d : Nat) (i : tf_I) (av : List Value) (L : List Nat) (f : tf_F) (mc ms : Nat) (Φ : tf_O) (Ψ : tx_O) : Prop :=
  ∀ sz : Nat, MetFree l i.1 (headSpec (tf_ws G i) (tf_rm d mc ms)) (tx_Pc G av L f sz) (fun _ _ _ _ _ => True) (tx_Q G Φ Ψ (tf_A L sz) mc ms)
section
variable {l : Launch} {G : tf_G} {EX : State → (Nat → Prop) → Prop} {QB : tf_B} {d : Nat} {i : tf_I} {pc : Nat} {lv : tf_V} {st st2 : List Value} {L : List Nat} {f : tf_F} {kc ks : Nat} {Φ : tf_O} {Ψ : tx_O}
theorem tx_C.of {av : List Value} {mc ms : Nat} (hy : plainName i.1.cls = true) (hs : (lg_sl av).length ≤ i.2.2.1) (h : tf_W l G tx_EX (tx_QB G Φ Ψ) d i 0 (lv_args 0 av) [] L f mc ms) : tx_C l G d i av L f mc ms Φ Ψ := by
  intro sz
  refine MetFree.of_bodyS (code := i.2.1) (maxLocals := i.2.2.1) (ret := i.2.2.2) hy ?_ ?_
  · intro args s m h9 hn
    obtain ⟨meth, c, h1, h2, h3, h4, h5, h6, -, -⟩ := Cond.code_spec hn (atoms_spec (ws := tf_ws G i) h9 _ List.mem_cons_self)
    exact ⟨meth, c, h1, h2, h3, h4, h5, h6⟩
  · intro p e s m args below meth c s₁ B hml hv _
    obtain ⟨rfl, ⟨hsz, hP, hK, hD, hnw⟩, hE⟩ := hv
    have hh0 : s₁.heap = s.heap := by rw [B.state]; rfl
    have hts : ∀ w ∈ G.2.2.2.1, w.before av.toArray s = true := fun w hw => atoms_spec (ws := tf_ws G i) B.pre w (List.mem_cons_of_mem _ hw)
    have hnm : meth.name = i.1.name := (name_of_methodNamed B.named B.method).1
    subst hsz
    have hl := lv_entry av (n := i.2.2.1) hs
    have K : W p l e (headSpec (tf_ws G i) (tf_rm d mc ms)).room s m av.toArray below meth c s.heap [] 0 0 (tx_QB G Φ Ψ below av.toArray s mc ms (tf_A L s.heap.size)) (entryFrame m av.toArray i.2.2.1) := by
      rw [lg_entry_eq]
      exact h p e _ s m av.toArray below meth c s.heap [] 0 0 _ (tf_A L s.heap.size) mc ms ⟨B.exec, B.bytes, hml, findClass_of_methodNamed B.named, hts, B.returns, B.notSynchronized, hnw, hnm, hK, B.named⟩ hE
        ⟨Nat.le_refl _, Nat.le_refl _, by omega, by omega, Nat.le_refl _, Nat.le_refl _⟩ hl ⟨hP, tf_D_self hD, va_S.rf, fun z h9 => Or.inr h9⟩
    obtain ⟨t, a1, o, b1, b2, b3⟩ := K s₁ hh0 (Stand.of_body B)
    exact ⟨t, o, a1, b1, b2, b3⟩
theorem tx_mono {y : MethodName} {S : Spec} {Pc : Array Value → State → Prop} {K : Program → Env → List Frame → State → Array Value → Prop} {Q Q2 : Array Value → State → Outcome → State → Prop} (h : MetFree l y S Pc K Q) (hq : ∀ a s o t, Q a s o t → Q2 a s o t) : MetFree l y S Pc K Q2 := by
  intro p e ha hc hk s m args below h1 h2 h3 h4
  obtain ⟨n, o, a1, a2, a3, a4⟩ := h p e ha hc hk s m args below h1 h2 h3 h4
  exact ⟨n, o, a1, a2, a3, hq _ _ _ _ a4⟩
/-- it returns, where it can't throw -/
theorem tx_C.ret {av : List Value} {mc ms : Nat} (h : tx_C l G d i av L f mc ms Φ Ψ) (hn : ∀ E L2 f2, ¬ Ψ E L2 f2) (sz : Nat) : Met l i.1 (tf_ws G i) (tf_rm d mc ms) (tx_Pc G av L f sz) (tf_Q G Φ (tf_A L sz)) mc ms (tf_A L sz) := by
  refine tx_mono (h sz) (fun a s o t hq => ?_)
  rcases hq with hq | ⟨x, E, ce, Lx, L2, f2, -, hΨ, -⟩
  · exact hq
  · exact absurd hΨ (hn E L2 f2)
/-- the start of a call, out of the caller's own -/
theorem tx_EX.go {s U : State} {H : Heap} {A B : Nat → Prop} {locs : List Loc} (h : tx_EX s A) (hS : va_S A s.heap H locs) (hU : U.heap = H) (hW : s.WarmedH U.vm) (hB : ∀ z, B z → A z) : tx_EX U B := by
  obtain ⟨e1, e2, e3, e4⟩ := h
  refine ⟨?_, ?_, fun w hw => ?_, fun p hp => ?_⟩
  · rw [hU]; exact e1.go hW.alike hS.2.1 hB
  · rw [hU]; exact e2.go hW.alike hS.2.1 hB
  · have hk := (List.mem_filter.mp hw).2
    have hz := e3 w hw
    unfold tx_k at hk
    split at hk
    · exact va_Nw.warmC hW hz
    · exact va_Nw.warmD hW hz
    · cases hk
  · obtain ⟨a, ha⟩ := e4 p hp
    exact ⟨a, vk_R.warm hW ha⟩
theorem tx_EX.same {U V : State} {A : Nat → Prop} (h : tx_EX U A) (hv : U.vm = V.vm) (hh : V.heap = U.heap) : tx_EX V A := by
  obtain ⟨e1, e2, e3, e4⟩ := h
  have ha : U.vm.Alike V.vm := by rw [hv]; exact Vm.Alike.refl _
  refine ⟨?_, ?_, fun w hw => va_tabs (tx_kt (List.mem_filter.mp hw).2) hv (e3 w hw), fun p hp => ?_⟩
  · rw [hh]; exact e1.go ha (fun _ _ _ => rfl) (fun _ z => z)
  · rw [hh]; exact e2.go ha (fun _ _ _ => rfl) (fun _ z => z)
  · obtain ⟨a, h9⟩ := e4 p hp
    exact ⟨a, vk_R.same hv.symm h9⟩
theorem tx_pre (hG : tf_ok G) {s : State} {H : Heap} {A : Nat → Prop} {locs : List Loc} {av : List Value} (hK : va_K G.1 G.2.1 G.2.2.1 s) (hnw : ∀ w ∈ G.2.2.2.2, va_Nw w s) (hP : tf_P G L f A s H locs) (hE : tx_EX s A) : PreS s H (tx_Pc G av L f H.size) av := by
  obtain ⟨hPP, hD, hS, hA⟩ := hP
  have hsub : ∀ z, tf_A L H.size z → A z := fun z h => h.elim (fun h => tf_D_A hD h) (fun h => hA z (Nat.le_trans hS.1 h))
  have hB := tf_pre (av := av) hG hK hnw hPP hD
  refine ⟨fun a U g mk z => ?_, fun U hU hW => ?_⟩
  · obtain ⟨z0, z1, z2⟩ := z
    exact ⟨z0, (hB.1 a U g mk ⟨z0, z1⟩).2, z2.same (U := U) (V := U.calling g mk a) rfl rfl⟩
  · have := hB.2 U hU hW
    exact ⟨this.1, this.2, hE.go hS hU hW hsub⟩
end
