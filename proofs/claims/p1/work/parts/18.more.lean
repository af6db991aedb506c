section
variable {l : Launch} {G : tf_G} {d : Nat} {i : tf_I} {L : List Nat} {f : tf_F} {Φ : tf_O}
/-- a contract of a JDK's own method that the machine has no entry for -/
theorem tf_C.ofF (hG : tf_ok G) {av : List Value} {mc ms : Nat} (hy : plainFor i.1 = true) (hc : Cond.code i.1 i.2.1 i.2.2.1 i.2.2.2 ∈ G.2.2.2.1) (hs : (lg_sl av).length ≤ i.2.2.1) (h : tf_W l G tf_T (tf_QM G Φ) d i 0 (lv_args 0 av) [] L f mc ms) : tf_C l G d i av L f mc ms Φ := by
  intro sz
  refine va_MetF (cc := i.2.1) (maxL := i.2.2.1) (ret := i.2.2.2) hy rfl ?_
  intro p e s m args below meth c s₁ B hml hv
  obtain ⟨rfl, hsz, hP, hK, hD, hnw⟩ := hv
  have hts : ∀ w ∈ G.2.2.2.1, w.before av.toArray s = true := fun w hw => atoms_spec (ws := tf_ws G i) B.pre w (List.mem_cons_of_mem _ hw)
  have hnm : meth.name = i.1.name := (name_of_methodNamed B.named B.method).1
  subst hsz
  have hl := lv_entry av (n := i.2.2.1) hs
  rw [lg_entry_eq]
  exact h p e _ s m av.toArray below meth c s.heap [] 0 0 _ (tf_A L s.heap.size) mc ms ⟨B.exec, B.bytes, hml, findClass_of_methodNamed B.named, hts, B.returns, B.notSynchronized, hnw, hnm, hK, B.named⟩ trivial
    ⟨Nat.le_refl _, Nat.le_refl _, by omega, by omega, Nat.le_refl _, Nat.le_refl _⟩ hl ⟨hP, tf_D_self hD, va_S.rf, fun q h => Or.inr h⟩
end
