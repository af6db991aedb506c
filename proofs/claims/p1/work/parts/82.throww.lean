/-! throw new E(".."), a wide constant -/
theorem tx_ldcw {p : Program} {l : Launch} {e : Env} {R : Room} {s : State} {m : MethodId} {args : Array Value} {below : List Frame} {meth : Method} {c : Code} {H : Heap} {locs : List Loc} {cells slots : Nat} {Q : State → Prop} {cc : ByteArray} {pc : Nat} {ls : Array Slot} {rest : List Value} (hexec : p.tables.exec = Jvm.exec) (hb : c.code = cc) {own tx : String} {index q : Nat} (hown : s.vm.findClass own = some m.cls) (hZ : vk_R own index tx q s) (hdg : decode cc pc = .ok (.ldc_w index, 3))
    (k : W p l e R s m args below meth c H locs cells slots Q (F0 m (pc + 3) ls (.ref q :: rest))) : W p l e R s m args below meth c H locs cells slots Q (F0 m pc ls rest) := by
  intro T hT X
  obtain ⟨t, a1, b1⟩ := k T hT X
  refine ⟨t, ?_, b1⟩
  obtain ⟨k, cf, i, a', hk, hcf, hcp, -, hr, hev'⟩ := Cond.stringRef_spec hown hZ.1
  cases hZ.2.symm.trans hev'
  obtain ⟨k', hk', he⟩ := X.warmed.alike.2.2 _ _ hk
  have hr' : k'.resolved[index]? = some (some (.string q)) := by
    rcases X.warmed.entry hk hk' index with h | ⟨h, -⟩
    · rw [h]; exact hr
    · rw [hr] at h; cases h
  have hdg2 : decode c.code (F0 m pc ls rest).pc = .ok (.ldc_w index, 3) := by rw [hb]; exact hdg
  jvm_step X.here [hexec, hdg2, ldc_w.wp_string (e := e) (s := T) (f := F0 m pc ls rest) X.here.top hk' (by rw [he]; exact hcf) hcp hr']
  exact a1
section
variable {l : Launch} {D : va_G} {q : Nat → ClassId} {d : Nat} {i : tf_I} {pc : Nat} {lv : tf_V} {st : List Value} {L : List Nat} {f : tf_F} {kc ks : Nat} {Φ : tf_O} {Ψ : tx_O}
set_option maxHeartbeats 4000000 in
/-- 'throw new E("text")' in a method without handlers -/
theorem tx_throwW (hl : l.stackTraces = false) {ik is ic : Nat} {cls tx : String} (d0 : decode i.2.1 pc = .ok (.new ik, 3)) (d3 : decode i.2.1 (pc + 3) = .ok (.dup, 1)) (d4 : decode i.2.1 (pc + 3 + 1) = .ok (.ldc_w is, 3)) (d6 : decode i.2.1 (pc + 3 + 1 + 3) = .ok (.invokespecial ic, 3)) (d9 : decode i.2.1 (pc + 3 + 1 + 3 + 3) = .ok (.athrow, 1))
    (hA : (Bundle.ownAtoms i.1.cls ic cls tx_sup).all tx_c = true) (h1 : Cond.classLink i.1.cls ik cls ∈ tf_Ts) (h2 : Cond.initialized cls ∈ tf_Ts) (h3 : Cond.instantiable cls 6 ∈ tf_Ts) (hcd : Cond.code i.1 i.2.1 i.2.2.1 i.2.2.2 ∈ tf_Ts) (hs : (i.1.cls, is, tx) ∈ tx_strs) (hf : Bundle.fit cls = true) (hd7 : 6 ≤ d) (hst : (st.map fun v => v.category).sum ≤ 8) (hΨ : Ψ cls L f) :
    tf_W l (tf_H D q) tx_EX (tx_QB (tf_H D q) Φ Ψ) d i pc lv st L f (kc + 1) (ks + 6) := by
  intro p e R s m args below meth c H locs cells slots ls A mc ms hM hE hR hl0 hP T hT X
  obtain ⟨hx, hb, hml, hown, hts0, hret, hlk, hnw, hnm, hK, hnd⟩ := id hM
  obtain ⟨hPP, hD, hS, hA0⟩ := id hP
  obtain ⟨e1, e2, e3, e4⟩ := id hE
  obtain ⟨r1, r2, r3, r4, r5, r6⟩ := id hR
  have hts : ∀ w ∈ tf_Ts, w.before args s = true := hts0
  obtain ⟨sa, hsa⟩ := e4 _ hs
  have htr : e.platform.stackTraces = false := (show e.platform.stackTraces = l.stackTraces by rw [X.admits.platform]).trans hl
  have B := tx_base X (kc := 1) (ks := 6) (by omega) (by omega)
  have hv : (tx_here T s m args below).vm = s.vm := rfl
  have hh : (tx_here T s m args below).heap = H := hT
  generalize hse : tx_here T s m args below = s' at B hv hh
  have hW0 : s.WarmedH s'.vm := by rw [hv]; exact State.WarmedH.refl s
  have hk1 : ∀ a : Nat, a < s.heap.size → ¬ A a → s'.heap[a]? = s.heap[a]? := fun a h9 h8 => by rw [hh]; exact hS.2.1 a h9 h8
  have g1 := e1.go (U := s') (H1 := s'.heap) (B := A) hW0.alike hk1 (fun _ h => h)
  have g2 := e2.go (U := s') (H1 := s'.heap) (B := A) hW0.alike hk1 (fun _ h => h)
  have hw := tx_words hA hv hts e3 g1 g2
  have word : ∀ w, w ∈ tf_Ts → w.before args s' = true := fun w h => word_at hW0 (good_of_word (List.mem_filter.mp h).2) (hts w h)
  have hown2 : s'.vm.findClass i.1.cls = some m.cls := by rw [hv]; exact hown
  have htab : ∀ x ∈ c.exceptionTable.toList, False := by
    obtain ⟨meth9, c9, z1, z2, -, -, -, -, z7, -⟩ := Cond.code_spec hnd (hts _ hcd)
    cases Option.some.inj (z1.symm.trans X.method)
    cases Option.some.inj (z2.symm.trans X.code)
    intro x hx9
    rw [Array.isEmpty_iff.mp z7] at hx9
    cases hx9
  have hsz : ls.size = c.maxLocals := hl0.1.trans hml.symm
  have hcat := lv_room (m := m) (pc := pc) (ls := ls) (rest := st) hst
  have hnames : ∀ n ∈ tx_sup, Bundle.fit n = true := by decide
  have key : W p l e { frames := R.frames, cells := 1, slots := 6, locals := R.locals } s' m args below meth c H [] 0 0 (fun t => t.status = .running ∧ Ended t below (.threw H.size) ∧ s'.WarmedH t.vm ∧ s'.sameButNew ({ t with vm := s'.vm } : State) [] 1 6 ∧ ∃ ce, t.heap[H.size]? = some ce ∧ ce.vm = .none ∧ s'.vm.findClass cls = some ce.cls) (F0 m pc ls st) := by
    refine W.newc hx hb hown2 (word _ h1) (word _ h3) (word _ h2) (g := F0 m pc ls st) rfl d0 (Nat.le_refl _) (Nat.le_refl _) (fun cC kC a1 a2 a3 a4 => ?_)
    refine W.eq (g2 := F0 m (pc + 3) ls (.ref H.size :: st)) rfl ?_
    refine lv_dup hx hb d3 rfl ?_
    refine tx_ldcw hx hb hown2 (vk_R.same hv hsa) d4 ?_
    intro T2 hT2 X2
    obtain ⟨U, u1, u2, u3, u4, u5, ce, u6, u7⟩ := X2.ctorThrowS hx htr (own := i.1.cls) (cls := cls) (names := tx_sup) (ic := ic) hown2 hf hnames hw (fun x hx9 => nomatch hx9) a1 a2 (a := H.size) (by rw [hT2]; exact Array.getElem?_push_size) (by rw [hh]; exact Nat.le_refl _) (msg := .ref sa) rfl
      (g := F0 m (pc + 3 + 1 + 3) ls (.ref sa :: .ref H.size :: .ref H.size :: st)) rfl hsz rfl rfl (rest := st) rfl (by rw [hb]; exact d6) (by rw [hb]; exact d9) (fun x hx9 => (htab x hx9).elim) (by show 2 + 3 < R.frames; omega) (by
        have hc1 : (Value.ref H.size).category = 1 := rfl
        simp only [List.map_cons, List.sum_cons, hc1]
        show 2 * (F0 m pc ls st).monitorRoom + _ + (13 * (2 + 1) + 42) ≤ R.locals
        omega) hlk
    exact ⟨U, u1, u2, u3, u4, u5, ce, u6, u7.vm, u7.cls⟩
  obtain ⟨t, a1, b1, b2, b3, b4, ce, b5, b6, b7⟩ := key T hT B
  subst hse
  obtain ⟨c1, c2, c3⟩ := tx_since X b4
  have hTH : T.heap.size = H.size := by rw [hT]
  refine ⟨t, a1, .threw H.size, b1, b2, Or.inr ⟨H.size, cls, ce, locs, L, f, rfl, hΨ, ?_, hD, ⟨?_, ?_⟩, b5, b6, b7, State.WarmedH.trans hW0 b3, c1.mono (by omega) (by omega), hS.2.2⟩⟩
  · refine hPP.kept (fun k z hk => ?_)
    have := (hPP k z hk).lt
    rw [c3 z.1 (by omega), hT]
  · have := hS.1
    omega
  · intro z h8 h9
    have := hS.1
    rw [c3 z (by omega), hT]
    exact hS.2.1 z h8 h9
end
