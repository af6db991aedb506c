/-! Math.max, min, abs -/
theorem ws_max : Cond.static Lib.Math.max.name ∈ tf_Ts := tf_mem 315 (by decide +kernel) rfl
theorem wc_max : Cond.code Lib.Math.max.name Lib.Math.max.code 2 (some .int) ∈ tf_Ts := tf_mem 316 (by decide +kernel) rfl
theorem ws_min : Cond.static Lib.Math.min.name ∈ tf_Ts := tf_mem 781 (by decide +kernel) rfl
theorem wc_min : Cond.code Lib.Math.min.name Lib.Math.min.code 2 (some .int) ∈ tf_Ts := tf_mem 782 (by decide +kernel) rfl
theorem ws_abs : Cond.static Lib.Math.abs.name ∈ tf_Ts := tf_mem 1027 (by decide +kernel) rfl
theorem wc_abs : Cond.code Lib.Math.abs.name Lib.Math.abs.code 1 (some .int) ∈ tf_Ts := tf_mem 1028 (by decide +kernel) rfl
theorem wm_Math : Cond.initialized "java/lang/Math" ∈ tf_Ts := tf_mem 18 (by decide +kernel) rfl
section
variable {l : Launch} {G : tf_G} {EX : State → (Nat → Prop) → Prop} {QB : tf_B} {d : Nat} {i : tf_I} {pc : Nat} {lv : tf_V} {st : List Value} {L : List Nat} {f : tf_F} {kc ks : Nat}
theorem tf_max {ix : Nat} {x y : Int32} (nxt : Nat) (hd : decode i.2.1 pc = .ok (.invokestatic ix, 3)) (hn : pc + 3 = nxt) (h1 : Cond.methodLink i.1.cls ix Lib.Math.max.name ∈ G.2.2.2.1) (h2 : Cond.static Lib.Math.max.name ∈ G.2.2.2.1) (h3 : Cond.initialized "java/lang/Math" ∈ G.2.2.2.1) (h4 : Cond.code Lib.Math.max.name Lib.Math.max.code 2 (some .int) ∈ G.2.2.2.1) (hd0 : 1 ≤ d) (hst : (st.map fun v => v.category).sum ≤ 8) (kk : tf_W l G EX QB d i nxt lv (.int (if x < y then y else x) :: st) L f kc ks) : tf_W l G EX QB d i pc lv (.int y :: .int x :: st) L f kc ks := by
  subst hn
  intro p e R s m args below meth c H locs cells slots ls A mc ms hM hE hR hl hP
  obtain ⟨hx, hb, hml, hown, hts, hret, hlk, hnw, hnm, hK, hnd⟩ := id hM
  obtain ⟨r1, r2, r3, r4, r5, r6⟩ := id hR
  exact va_mmax hx hb (hml.trans hl.1.symm) hown (hts _ h1) (hts _ h2) (hts _ h3) (hts _ h4) (by omega) (by omega) (by omega) (by omega) hd (kk p e R s m args below meth c H locs cells slots ls A mc ms hM hE hR hl hP)
theorem tf_min {ix : Nat} {x y : Int32} (nxt : Nat) (hd : decode i.2.1 pc = .ok (.invokestatic ix, 3)) (hn : pc + 3 = nxt) (h1 : Cond.methodLink i.1.cls ix Lib.Math.min.name ∈ G.2.2.2.1) (h2 : Cond.static Lib.Math.min.name ∈ G.2.2.2.1) (h3 : Cond.initialized "java/lang/Math" ∈ G.2.2.2.1) (h4 : Cond.code Lib.Math.min.name Lib.Math.min.code 2 (some .int) ∈ G.2.2.2.1) (hd0 : 1 ≤ d) (hst : (st.map fun v => v.category).sum ≤ 8) (kk : tf_W l G EX QB d i nxt lv (.int (if y < x then y else x) :: st) L f kc ks) : tf_W l G EX QB d i pc lv (.int y :: .int x :: st) L f kc ks := by
  subst hn
  intro p e R s m args below meth c H locs cells slots ls A mc ms hM hE hR hl hP
  obtain ⟨hx, hb, hml, hown, hts, hret, hlk, hnw, hnm, hK, hnd⟩ := id hM
  obtain ⟨r1, r2, r3, r4, r5, r6⟩ := id hR
  exact va_mmin hx hb (hml.trans hl.1.symm) hown (hts _ h1) (hts _ h2) (hts _ h3) (hts _ h4) (by omega) (by omega) (by omega) (by omega) hd (kk p e R s m args below meth c H locs cells slots ls A mc ms hM hE hR hl hP)
theorem tf_abs {ix : Nat} {x : Int32} (nxt : Nat) (hd : decode i.2.1 pc = .ok (.invokestatic ix, 3)) (hn : pc + 3 = nxt) (h1 : Cond.methodLink i.1.cls ix Lib.Math.abs.name ∈ G.2.2.2.1) (h2 : Cond.static Lib.Math.abs.name ∈ G.2.2.2.1) (h3 : Cond.initialized "java/lang/Math" ∈ G.2.2.2.1) (h4 : Cond.code Lib.Math.abs.name Lib.Math.abs.code 1 (some .int) ∈ G.2.2.2.1) (hd0 : 1 ≤ d) (hst : (st.map fun v => v.category).sum ≤ 8) (kk : tf_W l G EX QB d i nxt lv (.int (if 0 ≤ x then x else 0 - x) :: st) L f kc ks) : tf_W l G EX QB d i pc lv (.int x :: st) L f kc ks := by
  subst hn
  intro p e R s m args below meth c H locs cells slots ls A mc ms hM hE hR hl hP
  obtain ⟨hx, hb, hml, hown, hts, hret, hlk, hnw, hnm, hK, hnd⟩ := id hM
  obtain ⟨r1, r2, r3, r4, r5, r6⟩ := id hR
  exact va_mabs hx hb (hml.trans hl.1.symm) hown (hts _ h1) (hts _ h2) (hts _ h3) (hts _ h4) (by omega) (by omega) (by omega) (by omega) hd (kk p e R s m args below meth c H locs cells slots ls A mc ms hM hE hR hl hP)
end
