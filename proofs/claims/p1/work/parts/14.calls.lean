abbrev tf_O : Type := Option Value → List Nat → tf_F → Prop
theorem tf_nk_moved {w : Cond} (h : tf_nk w = true) {s U : State} (hW : s.WarmedH U.vm) (hw : va_Nw w s) : va_Nw w U := by
  unfold tf_nk at h
  split at h
  · exact va_Nw.warmF hW hw
  · exact va_Nw.warmM hW hw
  · exact va_AO.moved hW.alike hw
  · cases h
theorem tf_nk_same {w : Cond} (h : tf_nk w = true) {s U : State} (hv : s.vm = U.vm) (hw : va_Nw w s) : va_Nw w U := by
  unfold tf_nk at h
  split at h
  · exact va_Nw.same rfl hv hw
  · exact va_Nw.same rfl hv hw
  · exact va_AO.moved (by rw [hv]; exact Vm.Alike.refl _) hw
  · cases h
/-- the words of a claim are good ones -/
def tf_ok (G : tf_G) : Prop := (∀ w ∈ G.2.2.2.1, goodWord w = true) ∧ ∀ w ∈ G.2.2.2.2, tf_nk w = true
def tf_A (L : List Nat) (sz : Nat) : Nat → Prop := fun q => q ∈ L ∨ sz ≤ q
def tf_Q (G : tf_G) (Φ : tf_O) (A : Nat → Prop) : Array Value → State → Outcome → State → Prop := fun _ st oc t =>
  ∃ (v : Option Value) (L : List Nat) (f : tf_F), oc = .returned v ∧ Φ v L f ∧ va_P G.1 G.2.1 (va_pl L f) t.heap ∧ va_D A (va_pl L f) ∧ va_F A st t
def tf_QM (G : tf_G) (Φ : tf_O) : tf_B := fun below args s mc ms A => MQ below (tf_Q G Φ A) args s mc ms A
abbrev tf_T (s : State) (A : Nat → Prop) : Prop := True
/-- a method's start: the pool, the tables -/
def tf_S (G : tf_G) (L : List Nat) (f : tf_F) (sz : Nat) (U : State) : Prop := U.heap.size = sz ∧ va_P G.1 G.2.1 (va_pl L f) U.heap ∧ va_K G.1 G.2.1 G.2.2.1 U ∧ va_D (fun _ => True) (va_pl L f) ∧ ∀ w ∈ G.2.2.2.2, va_Nw w U
abbrev tf_ws (G : tf_G) (i : tf_I) : List Cond := .code i.1 i.2.1 i.2.2.1 i.2.2.2 :: G.2.2.2.1
abbrev tf_rm (d mc ms : Nat) : Room := { frames := d, cells := mc, slots := ms, locals := 64 * d }
/-- A METHOD'S CONTRACT over the pool: from the arguments av and the pool (L, f) it returns with Φ; at most mc cells of ms slots are made, d frames entered -/
def tf_C (l : Launch) (G : tf_G) (d : Nat) (i : tf_I) (av : List Value) (L : List Nat) (f : tf_F) (mc ms : Nat) (Φ : tf_O) : Prop :=
  ∀ sz : Nat, Met l i.1 (tf_ws G i) (tf_rm d mc ms) (va_Pc av (tf_S G L f sz)) (tf_Q G Φ (tf_A L sz)) mc ms (tf_A L sz)
section
variable {l : Launch} {G : tf_G} {EX : State → (Nat → Prop) → Prop} {QB : tf_B} {d : Nat} {i : tf_I} {pc : Nat} {lv lv2 : tf_V} {st st2 : List Value} {L : List Nat} {f : tf_F} {kc ks : Nat} {Φ : tf_O}
theorem tf_D_A {A : Nat → Prop} (h : va_D A (va_pl L f)) {q : Nat} (hq : q ∈ L) : A q := by
  obtain ⟨k, hk⟩ := tf_pl (f := f) hq
  exact h.2 k _ hk
theorem tf_D_self {A : Nat → Prop} {sz : Nat} (h : va_D A (va_pl L f)) : va_D (tf_A L sz) (va_pl L f) := by
  refine ⟨h.1, fun k q hk => Or.inl ?_⟩
  have := List.mem_of_getElem? hk
  obtain ⟨a, ha, e⟩ := List.mem_map.mp this
  rw [← e]
  exact ha
theorem tf_C.of (hG : tf_ok G) {av : List Value} {mc ms : Nat} (hy : plainName i.1.cls = true) (hc : Cond.code i.1 i.2.1 i.2.2.1 i.2.2.2 ∈ G.2.2.2.1) (hs : (lg_sl av).length ≤ i.2.2.1) (h : tf_W l G tf_T (tf_QM G Φ) d i 0 (lv_args 0 av) [] L f mc ms) : tf_C l G d i av L f mc ms Φ := by
  intro sz
  refine Met.ofW (cc := i.2.1) (maxL := i.2.2.1) (ret := i.2.2.2) hy rfl ?_
  intro p e s m args below meth c s₁ B hml hv
  obtain ⟨rfl, hsz, hP, hK, hD, hnw⟩ := hv
  have hts : ∀ w ∈ G.2.2.2.1, w.before av.toArray s = true := fun w hw => atoms_spec (ws := tf_ws G i) B.pre w (List.mem_cons_of_mem _ hw)
  have hnm : meth.name = i.1.name := (name_of_methodNamed B.named B.method).1
  subst hsz
  have hl := lv_entry av (n := i.2.2.1) hs
  rw [lg_entry_eq]
  exact h p e _ s m av.toArray below meth c s.heap [] 0 0 _ (tf_A L s.heap.size) mc ms ⟨B.exec, B.bytes, hml, findClass_of_methodNamed B.named, hts, B.returns, B.notSynchronized, hnw, hnm, hK, B.named⟩ trivial
    ⟨Nat.le_refl _, Nat.le_refl _, by omega, by omega, Nat.le_refl _, Nat.le_refl _⟩ hl ⟨hP, tf_D_self hD, va_S.rf, fun q h => Or.inr h⟩
/-- ends -/
theorem tf_iret {x : Int32} (hd : decode i.2.1 pc = .ok (.ireturn, 1)) (hr : i.2.2.2 = some .int) (h : Φ (some (.int x)) L f) : tf_W l G EX (tf_QM G Φ) d i pc lv [.int x] L f kc ks := by
  intro p e R s m args below meth c H locs cells slots ls A mc ms hM hE hR hl hP
  obtain ⟨hx, hb, hml, hown, hts, hret, hlk, hnw, hnm, hK, hnd⟩ := id hM
  obtain ⟨hPP, hD, hS, hA⟩ := id hP
  have r1 := hR.2.2.1
  have r2 := hR.2.2.2.1
  refine W.widen (k := mc) (n := ms) (by omega) (by omega) ?_
  exact W.iret hx hb (hret.trans hr) (fun t ht hW => ⟨_, L, f, rfl, h, by rw [ht]; exact hPP, hD, hS.F ht⟩) hS.2.2 hd hlk
theorem tf_zret {x : Int32} {ty : FieldType} (hd : decode i.2.1 pc = .ok (.ireturn, 1)) (hr : i.2.2.2 = some ty) (hz : narrow ty (.int x) = .int x) (h : Φ (some (.int x)) L f) : tf_W l G EX (tf_QM G Φ) d i pc lv [.int x] L f kc ks := by
  intro p e R s m args below meth c H locs cells slots ls A mc ms hM hE hR hl hP
  obtain ⟨hx, hb, hml, hown, hts, hret, hlk, hnw, hnm, hK, hnd⟩ := id hM
  obtain ⟨hPP, hD, hS, hA⟩ := id hP
  have r1 := hR.2.2.1
  have r2 := hR.2.2.2.1
  refine W.widen (k := mc) (n := ms) (by omega) (by omega) ?_
  exact W.zret hx hb (hret.trans hr) hz (fun t ht hW => ⟨_, L, f, rfl, h, by rw [ht]; exact hPP, hD, hS.F ht⟩) hS.2.2 hd hlk
theorem tf_lret {x : Int64} (hd : decode i.2.1 pc = .ok (.lreturn, 1)) (hr : i.2.2.2 = some .long) (h : Φ (some (.long x)) L f) : tf_W l G EX (tf_QM G Φ) d i pc lv [.long x] L f kc ks := by
  intro p e R s m args below meth c H locs cells slots ls A mc ms hM hE hR hl hP
  obtain ⟨hx, hb, hml, hown, hts, hret, hlk, hnw, hnm, hK, hnd⟩ := id hM
  obtain ⟨hPP, hD, hS, hA⟩ := id hP
  have r1 := hR.2.2.1
  have r2 := hR.2.2.2.1
  refine W.widen (k := mc) (n := ms) (by omega) (by omega) ?_
  exact W.lret hx hb (hret.trans hr) (fun t ht hW => ⟨_, L, f, rfl, h, by rw [ht]; exact hPP, hD, hS.F ht⟩) hS.2.2 hd hlk
theorem tf_vret (hd : decode i.2.1 pc = .ok (.return_, 1)) (hr : i.2.2.2 = none) (h : Φ none L f) : tf_W l G EX (tf_QM G Φ) d i pc lv [] L f kc ks := by
  intro p e R s m args below meth c H locs cells slots ls A mc ms hM hE hR hl hP
  obtain ⟨hx, hb, hml, hown, hts, hret, hlk, hnw, hnm, hK, hnd⟩ := id hM
  obtain ⟨hPP, hD, hS, hA⟩ := id hP
  have r1 := hR.2.2.1
  have r2 := hR.2.2.2.1
  refine W.widen (k := mc) (n := ms) (by omega) (by omega) ?_
  exact W.vret hx hb (hret.trans hr) (fun t ht hW => ⟨_, L, f, rfl, h, by rw [ht]; exact hPP, hD, hS.F ht⟩) hS.2.2 hd hlk
theorem tf_aret {v : Value} {rt : FieldType} (hd : decode i.2.1 pc = .ok (.areturn, 1)) (hr : i.2.2.2 = some rt) (hrt : (∃ n, rt = .object n) ∨ ∃ t, rt = .array t) (hv : v = .null ∨ ∃ a, v = .ref a) (h : Φ (some v) L f) : tf_W l G EX (tf_QM G Φ) d i pc lv [v] L f kc ks := by
  intro p e R s m args below meth c H locs cells slots ls A mc ms hM hE hR hl hP
  obtain ⟨hx, hb, hml, hown, hts, hret, hlk, hnw, hnm, hK, hnd⟩ := id hM
  obtain ⟨hPP, hD, hS, hA⟩ := id hP
  have r1 := hR.2.2.1
  have r2 := hR.2.2.2.1
  refine W.widen (k := mc) (n := ms) (by omega) (by omega) ?_
  exact W.aret hx hb (hret.trans hr) hrt hv (fun t ht hW => ⟨_, L, f, rfl, h, by rw [ht]; exact hPP, hD, hS.F ht⟩) hS.2.2 hd hlk
/-- Object's constructor -/
theorem tf_obj {ix a : Nat} (nxt : Nat) (hd : decode i.2.1 pc = .ok (.invokespecial ix, 3)) (hn : pc + 3 = nxt) (h1 : Cond.methodLink i.1.cls ix Lib.objectInit ∈ G.2.2.2.1) (h2 : Cond.instanceMethod Lib.objectInit ∈ G.2.2.2.1) (h3 : Cond.code Lib.objectInit ⟨#[0xb1]⟩ 1 none ∈ G.2.2.2.1) (hd0 : 1 ≤ d) (hst : (st.map fun v => v.category).sum ≤ 8) (kk : tf_W l G EX QB d i nxt lv st L f kc ks) : tf_W l G EX QB d i pc lv (.ref a :: st) L f kc ks := by
  subst hn
  intro p e R s m args below meth c H locs cells slots ls A mc ms hM hE hR hl hP
  obtain ⟨hx, hb, hml, hown, hts, hret, hlk, hnw, hnm, hK, hnd⟩ := id hM
  obtain ⟨hPP, hD, hS, hA⟩ := id hP
  have r1 := hR.1
  have r2 := hR.2.1
  exact W.objInit hx hb hown (hts _ h1) (hts _ h2) (hts _ h3) rfl (by rw [hml]; exact hl.1) rfl hd (by omega) (by have := lv_room (m := m) (pc := pc) (ls := ls) (rest := .ref a :: st) hst; omega) (kk p e R s m args below meth c H locs cells slots ls A mc ms hM hE hR hl hP)
/-- behind a call -/
theorem tf_goes {p : Program} {e : Env} {R : Room} {s : State} {m : MethodId} {args : Array Value} {below : List Frame} {meth : Method} {c : Code} {H : Heap} {locs : List Loc} {cells slots mc ms : Nat} {Q : State → Prop} {ls : Array Slot} {A : Nat → Prop} {st0 rest : List Value} {a : Array Value}
    (hr : va_Run p l e R s m args below meth c H locs cells slots mc ms (F0 m pc ls st0) rest (tf_Q G Φ (tf_A L H.size) a) (tf_A L H.size)) (hP : tf_P G L f A s H locs)
    (kk : ∀ (v : Option Value) (L2 : List Nat) (f2 : tf_F) (H1 : Heap) (locs1 : List Loc), Φ v L2 f2 → tf_P G L2 f2 A s H1 locs1 → W p l e R s m args below meth c H1 locs1 (cells + mc) (slots + ms) Q (F0 m (pc + 3) ls (v.toList ++ rest))) :
    W p l e R s m args below meth c H locs cells slots Q (F0 m pc ls st0) := by
  intro T hT X
  obtain ⟨hPP, hD, hS, hA⟩ := hP
  have hsub : ∀ q, tf_A L H.size q → A q := fun q h => h.elim (fun h => tf_D_A hD h) (fun h => hA q (Nat.le_trans hS.1 h))
  obtain ⟨v, st₀, t, T', Ls, h0, X', hL, e1, e2, ⟨v2, L2, f2, hv, hΦ, hP1, hD1, hF⟩, st⟩ := hr T hT X
  cases hv
  obtain ⟨hz, hk⟩ := hF
  rw [h0] at hz hk
  obtain ⟨t2, a1, b1⟩ := kk v L2 f2 T'.heap (locs ++ Ls) hΦ ⟨by rw [e1]; exact hP1, ⟨hD1.1, fun k q hkq => hsub _ (hD1.2 k q hkq)⟩,
    ⟨Nat.le_trans hS.1 (by rw [e1]; exact hz), fun q h1 h2 => by rw [e1, hk q (Nat.lt_of_lt_of_le h1 hS.1) (fun z => h2 (hsub q z))]; exact hS.2.1 q h1 h2, fun q hq => by
      rcases List.mem_append.mp hq with h | h
      · exact hS.2.2 q h
      · exact hsub _ (hL q h)⟩, hA⟩ T' rfl X'
  exact ⟨t2, st t2 a1, b1⟩
theorem tf_ws_ok (hG : tf_ok G) {s : State} {args : Array Value} {j : tf_I} (hts : ∀ w ∈ G.2.2.2.1, w.before args s = true) (hc : Cond.code j.1 j.2.1 j.2.2.1 j.2.2.2 ∈ G.2.2.2.1) : ∀ w ∈ tf_ws G j, ∀ (a' : Array Value) (U : State), s.WarmedH U.vm → w.before a' U = true := by
  intro w hw a' U hW
  have hm : w ∈ G.2.2.2.1 := by
    rcases List.mem_cons.mp hw with h | h
    · rw [h]; exact hc
    · exact h
  exact word_at hW (good_of_word (hG.1 w hm)) (hts w hm)
theorem tf_pre (hG : tf_ok G) {s : State} {H : Heap} {A : Nat → Prop} {av : List Value} (hK : va_K G.1 G.2.1 G.2.2.1 s) (hnw : ∀ w ∈ G.2.2.2.2, va_Nw w s) (hP : va_P G.1 G.2.1 (va_pl L f) H) (hD : va_D A (va_pl L f)) : PreS s H (va_Pc av (tf_S G L f H.size)) av :=
  ⟨fun a U g mk q => by
    obtain ⟨q0, q1, q2, q3, q4, q5⟩ := q
    exact ⟨q0, q1, q2, va_K.moved (u := U) (U := U.calling g mk a) (Vm.Alike.refl U.vm) q3, q4, fun w hw => tf_nk_same (s := U) (U := U.calling g mk a) (hG.2 w hw) rfl (q5 w hw)⟩,
   fun U hU hW => ⟨rfl, by rw [hU], by rw [hU]; exact hP, va_K.moved hW.alike hK, ⟨hD.1, fun _ _ _ => trivial⟩, fun w hw => tf_nk_moved (hG.2 w hw) hW (hnw w hw)⟩⟩
/-- a callee's words at a call -/
def tf_cw (G : tf_G) (j : tf_I) (n : Nat) : Prop := Cond.code j.1 j.2.1 j.2.2.1 j.2.2.2 ∈ G.2.2.2.1 ∧ Cond.initialized j.1.cls ∈ G.2.2.2.1 ∧ (j.1.cls ≠ "java/lang/invoke/MethodHandle" ∧ j.1.cls ≠ "java/lang/invoke/VarHandle") ∧ (parseMethodDescriptor j.1.desc).map (fun d => d.parameters.length) = some n ∧ j.2.2.1 ≤ 45
def tf_lkM (G : tf_G) (own : String) (ix : Nat) (y : MethodName) : Prop := Cond.methodLink own ix y ∈ G.2.2.2.1
def tf_lkN (G : tf_G) (own : String) (ix : Nat) (y : MethodName) : Prop := ∃ host, Cond.methodLinkNest own ix y host ∈ G.2.2.2.2
theorem tf_callB (hG : tf_ok G) {R : Room} {s : State} {args : Array Value} {own : String} {ix d2 mc ms n kc ks mc0 ms0 cells slots : Nat} {j : tf_I} (hj : tf_cw G j n) (hd2 : d2 + 1 ≤ d) (hR : tf_R d kc ks mc0 ms0 cells slots R) (hts : ∀ w ∈ G.2.2.2.1, w.before args s = true) (hl : (Cond.methodLink own ix j.1).before args s = true) : CallB R s args own ix j.1 j.2.1 j.2.2.1 j.2.2.2 (tf_ws G j) (tf_rm d2 mc ms) mc ms n := by
  obtain ⟨hc, hi, hy, hp, hm⟩ := hj
  have r1 := hR.1
  have r2 := hR.2.1
  refine ⟨rfl, rfl, ?_, ?_, tf_ws_ok hG hts hc, List.mem_cons_self, hts _ hc, hts _ hi, hy, fun sig h => ?_, hl⟩
  · show d2 + 1 ≤ R.frames
    omega
  · show 8 + (j.2.2.1 + 11) + 64 * d2 ≤ R.locals
    omega
  · rw [h] at hp
    exact (Option.some.inj hp).symm
theorem tf_callN (hG : tf_ok G) {R : Room} {s : State} {args : Array Value} {own host : String} {ix d2 mc ms n kc ks mc0 ms0 cells slots : Nat} {j : tf_I} (hj : tf_cw G j n) (hd2 : d2 + 1 ≤ d) (hR : tf_R d kc ks mc0 ms0 cells slots R) (hts : ∀ w ∈ G.2.2.2.1, w.before args s = true) (hl : (Cond.methodLinkNest own ix j.1 host).before args s = true) : va_CN R s args own ix j.1 host j.2.1 j.2.2.1 j.2.2.2 (tf_ws G j) (tf_rm d2 mc ms) mc ms n := by
  obtain ⟨hc, hi, hy, hp, hm⟩ := hj
  have r1 := hR.1
  have r2 := hR.2.1
  refine ⟨⟨rfl, rfl, ?_, ?_, tf_ws_ok hG hts hc, List.mem_cons_self⟩, hts _ hc, hts _ hi, hy, fun sig h => ?_, hl⟩
  · show d2 + 1 ≤ R.frames
    omega
  · show 8 + (j.2.2.1 + 11) + 64 * d2 ≤ R.locals
    omega
  · rw [h] at hp
    exact (Option.some.inj hp).symm
theorem tf_room2 {d kc ks k2 s2 mc ms cells slots : Nat} {R : Room} (h : tf_R d (kc + k2) (ks + s2) mc ms cells slots R) : (cells + k2 ≤ R.cells ∧ slots + s2 ≤ R.slots) ∧ tf_R d kc ks mc ms (cells + k2) (slots + s2) R := by
  obtain ⟨h1, h2, h3, h4, h5, h6⟩ := h
  exact ⟨⟨by omega, by omega⟩, h1, h2, by omega, by omega, h5, h6⟩
theorem tf_callS (hG : tf_ok G) {ix d2 n k2 s2 : Nat} {j : tf_I} {As : List Value} {Ψ : tf_O} (nxt : Nat) (hd : decode i.2.1 pc = .ok (.invokestatic ix, 3)) (hn : pc + 3 = nxt) (hlk0 : tf_lkM G i.1.cls ix j.1) (hj : tf_cw G j n) (hAs : As.length = n) (hsta : Cond.static j.1 ∈ G.2.2.2.1) (hd2 : d2 + 1 ≤ d) (hst : (st.map fun v => v.category).sum ≤ 8) (hsk : st2 = As.reverse ++ st) (hC : tf_C l G d2 j As L f k2 s2 Ψ)
    (kk : ∀ (v : Option Value) (L2 : List Nat) (f2 : tf_F), Ψ v L2 f2 → tf_W l G EX QB d i nxt lv (v.toList ++ st) L2 f2 kc ks) : tf_W l G EX QB d i pc lv st2 L f (kc + k2) (ks + s2) := by
  subst hn
  subst hsk
  intro p e R s m args below meth c H locs cells slots ls A mc ms hM hE hR hl hP
  obtain ⟨hx, hb, hml, hown, hts, hret, hlk, hnw, hnm, hK, hnd⟩ := id hM
  obtain ⟨hPP, hD, hS, hA⟩ := id hP
  obtain ⟨r1, r2⟩ := tf_room2 hR
  refine tf_goes (Φ := Ψ) (a := As.toArray) (va_runS ⟨hx, hb, hml, hown, hts⟩ (hC H.size) ⟨tf_callB hG hj hd2 hR hts (hts _ hlk0), hts _ hsta⟩ (tf_pre hG hK hnw hPP hD) rfl hAs hl.1 rfl (lv_room hst) hd r1) hP (fun v L2 f2 H1 locs1 hΦ hP1 => ?_)
  exact kk v L2 f2 hΦ p e R s m args below meth c H1 locs1 (cells + k2) (slots + s2) ls A mc ms hM hE r2 hl hP1
theorem tf_callSN (hG : tf_ok G) {ix d2 n k2 s2 : Nat} {j : tf_I} {As : List Value} {Ψ : tf_O} (nxt : Nat) (hd : decode i.2.1 pc = .ok (.invokestatic ix, 3)) (hn : pc + 3 = nxt) (hlk0 : tf_lkN G i.1.cls ix j.1) (hj : tf_cw G j n) (hAs : As.length = n) (hsta : Cond.static j.1 ∈ G.2.2.2.1) (hd2 : d2 + 1 ≤ d) (hst : (st.map fun v => v.category).sum ≤ 8) (hsk : st2 = As.reverse ++ st) (hC : tf_C l G d2 j As L f k2 s2 Ψ)
    (kk : ∀ (v : Option Value) (L2 : List Nat) (f2 : tf_F), Ψ v L2 f2 → tf_W l G EX QB d i nxt lv (v.toList ++ st) L2 f2 kc ks) : tf_W l G EX QB d i pc lv st2 L f (kc + k2) (ks + s2) := by
  subst hn
  subst hsk
  intro p e R s m args below meth c H locs cells slots ls A mc ms hM hE hR hl hP
  obtain ⟨hx, hb, hml, hown, hts, hret, hlk, hnw, hnm, hK, hnd⟩ := id hM
  obtain ⟨hPP, hD, hS, hA⟩ := id hP
  obtain ⟨r1, r2⟩ := tf_room2 hR
  obtain ⟨host, hlk1⟩ := hlk0
  refine tf_goes (Φ := Ψ) (a := As.toArray) (va_runSN ⟨hx, hb, hml, hown, hts⟩ (hC H.size) ⟨tf_callN hG hj hd2 hR hts (va_Nw.use rfl (hnw _ hlk1)), hts _ hsta, trivial⟩ (tf_pre hG hK hnw hPP hD) rfl hAs hl.1 rfl (lv_room hst) hd r1) hP (fun v L2 f2 H1 locs1 hΦ hP1 => ?_)
  exact kk v L2 f2 hΦ p e R s m args below meth c H1 locs1 (cells + k2) (slots + s2) ls A mc ms hM hE r2 hl hP1
theorem tf_callI (hG : tf_ok G) {ix d2 n k2 s2 a : Nat} {y : MethodName} {cc0 : ByteArray} {nL0 : Nat} {As : List Value} {Ψ : tf_O} (nxt : Nat) (hd : decode i.2.1 pc = .ok (.invokespecial ix, 3)) (hn : pc + 3 = nxt) (hlk0 : tf_lkM G i.1.cls ix y) (hj : tf_cw G (y, cc0, nL0, none) n) (hAs : As.length = n) (hin : Cond.instanceMethod y ∈ G.2.2.2.1) (hini : y.name = "<init>") (hd2 : d2 + 1 ≤ d) (hst : (st.map fun v => v.category).sum ≤ 8) (hsk : st2 = As.reverse ++ .ref a :: st) (hC : tf_C l G d2 (y, cc0, nL0, none) (.ref a :: As) L f k2 s2 Ψ)
    (kk : ∀ (v : Option Value) (L2 : List Nat) (f2 : tf_F), Ψ v L2 f2 → tf_W l G EX QB d i nxt lv (v.toList ++ st) L2 f2 kc ks) : tf_W l G EX QB d i pc lv st2 L f (kc + k2) (ks + s2) := by
  subst hn
  subst hsk
  intro p e R s m args below meth c H locs cells slots ls A mc ms hM hE hR hl hP
  obtain ⟨hx, hb, hml, hown, hts, hret, hlk, hnw, hnm, hK, hnd⟩ := id hM
  obtain ⟨hPP, hD, hS, hA⟩ := id hP
  obtain ⟨r1, r2⟩ := tf_room2 hR
  refine tf_goes (Φ := Ψ) (a := (Value.ref a :: As).toArray) (va_runI ⟨hx, hb, hml, hown, hts⟩ (hC H.size) ⟨tf_callB hG hj hd2 hR hts (hts _ hlk0), hini, hts _ hin⟩ (tf_pre hG hK hnw hPP hD) rfl hAs hl.1 rfl (lv_room hst) hd r1) hP (fun v L2 f2 H1 locs1 hΦ hP1 => ?_)
  exact kk v L2 f2 hΦ p e R s m args below meth c H1 locs1 (cells + k2) (slots + s2) ls A mc ms hM hE r2 hl hP1
theorem tf_callIN (hG : tf_ok G) {ix d2 n k2 s2 a : Nat} {y : MethodName} {cc0 : ByteArray} {nL0 : Nat} {As : List Value} {Ψ : tf_O} (nxt : Nat) (hd : decode i.2.1 pc = .ok (.invokespecial ix, 3)) (hn : pc + 3 = nxt) (hlk0 : tf_lkN G i.1.cls ix y) (hj : tf_cw G (y, cc0, nL0, none) n) (hAs : As.length = n) (hin : Cond.instanceMethod y ∈ G.2.2.2.1) (hini : y.name = "<init>") (hd2 : d2 + 1 ≤ d) (hst : (st.map fun v => v.category).sum ≤ 8) (hsk : st2 = As.reverse ++ .ref a :: st) (hC : tf_C l G d2 (y, cc0, nL0, none) (.ref a :: As) L f k2 s2 Ψ)
    (kk : ∀ (v : Option Value) (L2 : List Nat) (f2 : tf_F), Ψ v L2 f2 → tf_W l G EX QB d i nxt lv (v.toList ++ st) L2 f2 kc ks) : tf_W l G EX QB d i pc lv st2 L f (kc + k2) (ks + s2) := by
  subst hn
  subst hsk
  intro p e R s m args below meth c H locs cells slots ls A mc ms hM hE hR hl hP
  obtain ⟨hx, hb, hml, hown, hts, hret, hlk, hnw, hnm, hK, hnd⟩ := id hM
  obtain ⟨hPP, hD, hS, hA⟩ := id hP
  obtain ⟨r1, r2⟩ := tf_room2 hR
  obtain ⟨host, hlk1⟩ := hlk0
  refine tf_goes (Φ := Ψ) (a := (Value.ref a :: As).toArray) (va_runIN ⟨hx, hb, hml, hown, hts⟩ (hC H.size) ⟨tf_callN hG hj hd2 hR hts (va_Nw.use rfl (hnw _ hlk1)), hini, hts _ hin⟩ (tf_pre hG hK hnw hPP hD) rfl hAs hl.1 rfl (lv_room hst) hd r1) hP (fun v L2 f2 H1 locs1 hΦ hP1 => ?_)
  exact kk v L2 f2 hΦ p e R s m args below meth c H1 locs1 (cells + k2) (slots + s2) ls A mc ms hM hE r2 hl hP1
theorem tf_callV (hG : tf_ok G) {ix d2 n k2 s2 a : Nat} {j : tf_I} {As : List Value} {Ψ : tf_O} (nxt : Nat) (hd : decode i.2.1 pc = .ok (.invokevirtual ix, 3)) (hn : pc + 3 = nxt) (hlk0 : tf_lkM G i.1.cls ix j.1) (hj : tf_cw G j n) (hAs : As.length = n) (hin : Cond.instanceMethod j.1 ∈ G.2.2.2.1) (hse : Cond.selects j.1.cls j.1 j.1 ∈ G.2.2.2.1) {ci : Nat} {r : vw_C} {fs : List Value} (ha : a ∈ L) (hf : f a = .inr (ci, fs)) (hci : G.2.1[ci]? = some r) (hcl : r.1 = j.1.cls) (hd2 : d2 + 1 ≤ d) (hst : (st.map fun v => v.category).sum ≤ 8) (hsk : st2 = As.reverse ++ .ref a :: st) (hC : tf_C l G d2 j (.ref a :: As) L f k2 s2 Ψ)
    (kk : ∀ (v : Option Value) (L2 : List Nat) (f2 : tf_F), Ψ v L2 f2 → tf_W l G EX QB d i nxt lv (v.toList ++ st) L2 f2 kc ks) : tf_W l G EX QB d i pc lv st2 L f (kc + k2) (ks + s2) := by
  subst hn
  subst hsk
  intro p e R s m args below meth c H locs cells slots ls A mc ms hM hE hR hl hP
  obtain ⟨hx, hb, hml, hown, hts, hret, hlk, hnw, hnm, hK, hnd⟩ := id hM
  obtain ⟨hPP, hD, hS, hA⟩ := id hP
  obtain ⟨r1, r2⟩ := tf_room2 hR
  obtain ⟨q0, hq0⟩ := tf_pl (f := f) ha
  rw [hf] at hq0
  have hrc := va_recv hK hPP hci hq0
  rw [hcl] at hrc
  refine tf_goes (Φ := Ψ) (a := (Value.ref a :: As).toArray) (va_runV ⟨hx, hb, hml, hown, hts⟩ (hC H.size) ⟨tf_callB hG hj hd2 hR hts (hts _ hlk0), hts _ hin, hts _ hse⟩ ⟨(tf_pre (av := .ref a :: As) hG hK hnw hPP hD).1, hrc, (tf_pre (av := .ref a :: As) hG hK hnw hPP hD).2⟩ rfl hAs hl.1 rfl (lv_room hst) hd r1) hP (fun v L2 f2 H1 locs1 hΦ hP1 => ?_)
  exact kk v L2 f2 hΦ p e R s m args below meth c H1 locs1 (cells + k2) (slots + s2) ls A mc ms hM hE r2 hl hP1
theorem tf_callVN (hG : tf_ok G) {ix d2 n k2 s2 a : Nat} {j : tf_I} {As : List Value} {Ψ : tf_O} (nxt : Nat) (hd : decode i.2.1 pc = .ok (.invokevirtual ix, 3)) (hn : pc + 3 = nxt) (hlk0 : tf_lkN G i.1.cls ix j.1) (hj : tf_cw G j n) (hAs : As.length = n) (hin : Cond.instanceMethod j.1 ∈ G.2.2.2.1) (hse : Cond.selects j.1.cls j.1 j.1 ∈ G.2.2.2.1) {ci : Nat} {r : vw_C} {fs : List Value} (ha : a ∈ L) (hf : f a = .inr (ci, fs)) (hci : G.2.1[ci]? = some r) (hcl : r.1 = j.1.cls) (hd2 : d2 + 1 ≤ d) (hst : (st.map fun v => v.category).sum ≤ 8) (hsk : st2 = As.reverse ++ .ref a :: st) (hC : tf_C l G d2 j (.ref a :: As) L f k2 s2 Ψ)
    (kk : ∀ (v : Option Value) (L2 : List Nat) (f2 : tf_F), Ψ v L2 f2 → tf_W l G EX QB d i nxt lv (v.toList ++ st) L2 f2 kc ks) : tf_W l G EX QB d i pc lv st2 L f (kc + k2) (ks + s2) := by
  subst hn
  subst hsk
  intro p e R s m args below meth c H locs cells slots ls A mc ms hM hE hR hl hP
  obtain ⟨hx, hb, hml, hown, hts, hret, hlk, hnw, hnm, hK, hnd⟩ := id hM
  obtain ⟨hPP, hD, hS, hA⟩ := id hP
  obtain ⟨r1, r2⟩ := tf_room2 hR
  obtain ⟨q0, hq0⟩ := tf_pl (f := f) ha
  rw [hf] at hq0
  have hrc := va_recv hK hPP hci hq0
  rw [hcl] at hrc
  obtain ⟨host, hlk1⟩ := hlk0
  refine tf_goes (Φ := Ψ) (a := (Value.ref a :: As).toArray) (va_runVN ⟨hx, hb, hml, hown, hts⟩ (hC H.size) ⟨tf_callN hG hj hd2 hR hts (va_Nw.use rfl (hnw _ hlk1)), hts _ hin, hts _ hse⟩ ⟨(tf_pre (av := .ref a :: As) hG hK hnw hPP hD).1, hrc, (tf_pre (av := .ref a :: As) hG hK hnw hPP hD).2⟩ rfl hAs hl.1 rfl (lv_room hst) hd r1) hP (fun v L2 f2 H1 locs1 hΦ hP1 => ?_)
  exact kk v L2 f2 hΦ p e R s m args below meth c H1 locs1 (cells + k2) (slots + s2) ls A mc ms hM hE r2 hl hP1
end
