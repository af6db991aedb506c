/-! rows of a caller that catches: the call returns, or the callee throws and a row of the caller's table takes it -/
def tx_nc : List (String × String) := [("java/lang/IllegalStateException", "java/lang/IllegalArgumentException"), ("java/lang/IllegalArgumentException", "java/lang/IndexOutOfBoundsException")]
def tx_EL (s : State) (A : Nat → Prop) : Prop := tx_EX s A ∧ ∀ p ∈ tx_nc, va_Nc p.1 p.2 s
section
variable {l : Launch} {D : va_G} {q : Nat → ClassId} {QB : tf_B} {d : Nat} {i : tf_I} {pc : Nat} {lv : tf_V} {st st2 : List Value} {L : List Nat} {f : tf_F} {kc ks : Nat} {Φ : tf_O} {Ψ : tx_O}
theorem tx_back {G : tf_G} {s U V : State} {H : Heap} {A : Nat → Prop} {locs Lx : List Loc} {L2 : List Nat} {f2 : tf_F} (hP : tf_P G L f A s H locs) (hU : U.heap = H) (hP1 : va_P G.1 G.2.1 (va_pl L2 f2) V.heap) (hD1 : va_D (tf_A L H.size) (va_pl L2 f2)) (hF : va_F (tf_A L H.size) U V) (hLx : ∀ z ∈ Lx, tf_A L H.size z.base) : tf_P G L2 f2 A s V.heap (locs ++ Lx) := by
  obtain ⟨hPP, hD, hS, hA⟩ := hP
  have hsub : ∀ z, tf_A L H.size z → A z := fun z h => h.elim (fun h => tf_D_A hD h) (fun h => hA z (Nat.le_trans hS.1 h))
  obtain ⟨hz, hk⟩ := hF
  rw [hU] at hz hk
  exact ⟨hP1, ⟨hD1.1, fun k z hkz => hsub _ (hD1.2 k z hkz)⟩, ⟨Nat.le_trans hS.1 hz, fun z h1 h2 => by rw [hk z (Nat.lt_of_lt_of_le h1 hS.1) (fun w => h2 (hsub z w))]; exact hS.2.1 z h1 h2, fun z hz9 => by
    rcases List.mem_append.mp hz9 with h | h
    · exact hS.2.2 z h
    · exact hsub _ (hLx z h)⟩, hA⟩
set_option maxHeartbeats 1000000 in
theorem tx_cV {ix d2 n k2 s2 a : Nat} {j : tf_I} {As : List Value} {Φ' : tf_O} {Ψ' : tx_O} (hC : tx_C l (tf_H D q) d2 j (.ref a :: As) L f k2 s2 Φ' Ψ') (hno : ∀ E L2 f2, ¬ Ψ' E L2 f2) (nxt : Nat) (hd : decode i.2.1 pc = .ok (.invokevirtual ix, 3)) (hn : pc + 3 = nxt) (hlk0 : tf_lkM (tf_H D q) i.1.cls ix j.1) (hj : tf_cw (tf_H D q) j n) (hAs : As.length = n) (hin : Cond.instanceMethod j.1 ∈ tf_Ts) (hse : Cond.selects j.1.cls j.1 j.1 ∈ tf_Ts) {ci : Nat} {r : vw_C} {fs : List Value} (ha : a ∈ L) (hf : f a = .inr (ci, fs)) (hci : (tf_H D q).2.1[ci]? = some r) (hcl : r.1 = j.1.cls) (hd2 : d2 + 1 ≤ d) (hst : (st.map fun v => v.category).sum ≤ 8) (hsk : st2 = As.reverse ++ .ref a :: st)
    (kk : ∀ (v : Option Value) (L2 : List Nat) (f2 : tf_F), Φ' v L2 f2 → tf_W l (tf_H D q) tx_EL QB d i nxt lv (v.toList ++ st) L2 f2 kc ks) : tf_W l (tf_H D q) tx_EL QB d i pc lv st2 L f (kc + k2) (ks + s2) := by
  subst hn
  subst hsk
  intro p e R s m args below meth c H locs cells slots ls A mc ms hM hE hR hl hP
  obtain ⟨hx, hb, hml, hown, hts, hret, hlk, hnw, hnm, hK, hnd⟩ := id hM
  obtain ⟨hPP, hD, hS, hA⟩ := id hP
  obtain ⟨r1, r2⟩ := tf_room2 hR
  obtain ⟨q0, hq0⟩ := tf_pl (f := f) ha
  rw [hf] at hq0
  have hrc := va_recv hK hPP hci hq0
  rw [hcl] at hrc
  have hpre := tx_pre (av := .ref a :: As) (tf_gok D (tf_y q)) hK hnw hP hE.1
  refine tf_goes (Φ := Φ') (a := (Value.ref a :: As).toArray) (va_runV ⟨hx, hb, hml, hown, hts⟩ (hC.ret hno H.size) ⟨tf_callB (tf_gok D (tf_y q)) hj hd2 hR hts (hts _ hlk0), hts _ hin, hts _ hse⟩ ⟨hpre.1, hrc, hpre.2⟩ rfl hAs hl.1 rfl (lv_room hst) hd r1) hP (fun v L2 f2 H1 locs1 hΦ hP1 => ?_)
  exact kk v L2 f2 hΦ p e R s m args below meth c H1 locs1 (cells + k2) (slots + s2) ls A mc ms hM hE r2 hl hP1
set_option maxHeartbeats 2000000 in
/-- the callee throws E; the row at the place 'no' of the table (0 or 1) takes it -/
theorem tx_cX {ix d2 n k2 s2 a : Nat} {j : tf_I} {As : List Value} {Φ' : tf_O} {Ψ' : tx_O} {E : String} (hC : tx_C l (tf_H D q) d2 j (.ref a :: As) L f k2 s2 Φ' Ψ') (hno : ∀ v L2 f2, ¬ Φ' v L2 f2) (hE0 : ∀ E2 L2 f2, Ψ' E2 L2 f2 → E2 = E) (hd : decode i.2.1 pc = .ok (.invokevirtual ix, 3)) (hlk0 : tf_lkM (tf_H D q) i.1.cls ix j.1) (hj : tf_cw (tf_H D q) j n) (hAs : As.length = n) (hin : Cond.instanceMethod j.1 ∈ tf_Ts) (hse : Cond.selects j.1.cls j.1 j.1 ∈ tf_Ts) {ci : Nat} {r : vw_C} {fs : List Value} (ha : a ∈ L) (hf : f a = .inr (ci, fs)) (hci : (tf_H D q).2.1[ci]? = some r) (hcl : r.1 = j.1.cls) (hd2 : d2 + 1 ≤ d) (hst : (st.map fun v => v.category).sum ≤ 8) (hsk : st2 = As.reverse ++ .ref a :: st)
    {hh : List (Nat × Nat × Nat × Nat)} (hcw : Cond.codeWith i.1 i.2.1 i.2.2.1 i.2.2.2 hh ∈ tf_Ts) {x : ExceptionTableEntry} {nm : String}
    (hrow : (∃ t, tableOf hh = x :: t) ∨ ∃ y t ny, tableOf hh = y :: x :: t ∧ covers y pc = true ∧ y.catchType ≠ 0 ∧ Cond.classLink i.1.cls y.catchType ny ∈ tf_Ts ∧ (E, ny) ∈ tx_nc) (hcov : covers x pc = true) (h0 : x.catchType ≠ 0) (hln : Cond.classLink i.1.cls x.catchType nm ∈ tf_Ts) (hca : Cond.castable E nm ∈ tx_W)
    (kk : ∀ (z : Nat) (L2 : List Nat) (f2 : tf_F), Ψ' E L2 f2 → tf_W l (tf_H D q) tx_EL QB d i x.handlerPc lv [.ref z] L2 f2 kc ks) : tf_W l (tf_H D q) tx_EL QB d i pc lv st2 L f (kc + k2) (ks + s2) := by
  subst hsk
  intro p e R s m args below meth c H locs cells slots ls A mc ms hM hE hR hl hP T hT X
  obtain ⟨hx, hb, hml, hown, hts, hret, hlk, hnw, hnm, hK, hnd⟩ := id hM
  obtain ⟨hPP, hD, hS, hA⟩ := id hP
  obtain ⟨r1, r2⟩ := tf_room2 hR
  obtain ⟨z1, z2, -⟩ := id hR
  obtain ⟨q0, hq0⟩ := tf_pl (f := f) ha
  rw [hf] at hq0
  obtain ⟨cellB, hcB, hoB, hclB⟩ := va_recv hK hPP hci hq0
  rw [hcl] at hclB
  have hpre := tx_pre (av := .ref a :: As) (tf_gok D (tf_y q)) hK hnw hP hE.1
  obtain ⟨w1, w2, w3, w4, w5⟩ := id hj
  have hlen : ∀ sig, parseMethodDescriptor j.1.desc = some sig → As.length = sig.parameters.length := fun sig h => by
    rw [h] at w4
    rw [hAs]
    exact (Option.some.inj w4).symm
  obtain ⟨U, mk, o, t, hUh, X1, st1, hend, hq⟩ := tx_virt X hx (hC H.size) (g := F0 m pc ls (As.reverse ++ .ref a :: st)) (C := j.1.cls) (bytes := j.2.1) (maxL := j.2.2.1) (ret := j.2.2.2) (own := i.1.cls) (index := ix) (argsL := As) (rest := st) (b := a) (cellB := cellB) hown (by show d2 + 1 ≤ R.frames; omega) (by show 8 + (j.2.2.1 + 11) + 64 * d2 ≤ R.locals; omega) r1.1 r1.2 (tf_ws_ok (tf_gok D (tf_y q)) hts w1) List.mem_cons_self (hts _ hlk0) (hts _ hin) (hts _ hse) (hts _ w1) (hts _ w2) w3 (by rw [hT]; exact hcB) hoB hclB rfl (hl.1.trans hml.symm) hlen rfl (lv_room hst) (by rw [hb]; exact hd) hpre.1 (fun V hV hW => hpre.2 V (hV.trans hT) hW)
  rcases hq with ⟨⟨v, L2, f2, -, hΦ, -⟩, -⟩ | ⟨z, E2, ce, Lx, L2, f2, rfl, hΨ, hP1, hD1, hF, hce, hcv, hcE, hWt, hsm, hLx⟩
  · exact absurd hΦ (hno v L2 f2)
  · obtain rfl := hE0 E2 L2 f2 hΨ
    obtain ⟨V, XV, hVh, hVt⟩ := tx_land X1 (g := { F0 m pc ls (As.reverse ++ .ref a :: st) with stack := st }) rfl hend hWt hsm
    have hcE2 : s.vm.findClass E2 = some ce.cls := by
      rw [← X1.warmed.alike.findClass]
      exact hcE
    have htab : c.exceptionTable.toList = tableOf hh := by
      obtain ⟨m9, meth9, c9, hn9, a1, a2, -, -, a6, -⟩ := Cond.codeWith_spec (hts _ hcw)
      cases Option.some.inj (hn9.symm.trans hnd)
      cases Option.some.inj (a1.symm.trans X.method)
      cases Option.some.inj (a2.symm.trans X.code)
      rw [← a6, table_eq]
    have hzc : V.heap[z]? = some ce := by rw [hVh]; exact hce
    have hcast : (Cond.castable E2 nm).before args s = true := va_Nw.use rfl (hE.1.2.2.1 _ hca)
    have hcat : ∃ vm2, Stand p l e R s m args below meth c (V.setVm vm2) (locs ++ Lx) (cells + k2) (slots + s2) ∧ ∀ target, Steps p.tables e below ((V.setVm vm2).setTop (F0 m x.handlerPc ls [.ref z])) target → Steps p.tables e below (tx_over V { F0 m pc ls (As.reverse ++ .ref a :: st) with stack := st } z) target := by
      rcases hrow with ⟨tl, ht⟩ | ⟨y, tl, ny, ht, hy, hy0, hyl, hyn⟩
      · exact tx_catch1 XV (g := { F0 m pc ls (As.reverse ++ .ref a :: st) with stack := st }) rfl (htab.trans ht) hcov h0 hown (hts _ hln) hzc hcv hcE2 hcast
      · exact tx_catch2 XV (g := { F0 m pc ls (As.reverse ++ .ref a :: st) with stack := st }) rfl (htab.trans ht) hy hy0 hcov h0 hown (hts _ hyl) (hts _ hln) hzc hcv hcE2 (hE.2 _ hyn) hcast
    obtain ⟨vm2, X2, st2⟩ := hcat
    have hP2 := tx_back (V := V) (Lx := Lx) hP (U := U) (hUh.trans hT) (by rw [hVh]; exact hP1) hD1 (by
      obtain ⟨hz, hk⟩ := hF
      exact ⟨by rw [hVh]; exact hz, fun w h8 h9 => by rw [hVh]; exact hk w h8 h9⟩) hLx
    obtain ⟨t2, b1, b2⟩ := kk z L2 f2 hΨ p e R s m args below meth c V.heap (locs ++ Lx) (cells + k2) (slots + s2) ls A mc ms hM hE r2 hl hP2 (V.setVm vm2) rfl X2
    rw [hVt] at st1
    exact ⟨t2, st1.trans (st2 t2 b1), b2⟩
end
