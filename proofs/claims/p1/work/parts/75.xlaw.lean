/-! the law's frame: the script, and calls of the law's helpers (with a table of their own, or without) -/
section
variable {l : Launch} {G : tf_G} {EX EX2 : State → (Nat → Prop) → Prop} {QB : tf_B} {d : Nat} {i : tf_I} {pc : Nat} {lv : tf_V} {st st2 : List Value} {L : List Nat} {f : tf_F} {kc ks : Nat} {Φ Φ2 : tf_O} {Ψ : tx_O}
theorem tf_C.mono {av : List Value} {mc ms : Nat} (h : tf_C l G d i av L f mc ms Φ) (hq : ∀ v L2 f2, Φ v L2 f2 → Φ2 v L2 f2) : tf_C l G d i av L f mc ms Φ2 := by
  intro sz
  refine tx_mono (h sz) (fun a s o t z => ?_)
  obtain ⟨⟨v, L2, f2, e, hΦ, r⟩, z2⟩ := z
  exact ⟨⟨v, L2, f2, e, hq v L2 f2 hΦ, r⟩, z2⟩
theorem tf_W_mono (hq : ∀ v L2 f2, Φ v L2 f2 → Φ2 v L2 f2) (h : tf_W l G EX (tf_QM G Φ) d i pc lv st L f kc ks) : tf_W l G EX (tf_QM G Φ2) d i pc lv st L f kc ks := by
  intro p e R s m args below meth c H locs cells slots ls A mc ms hM hE hR hl hP T hT X
  obtain ⟨t, a1, o, b1, b2, ⟨v, L2, f2, e9, hΦ, r⟩, b4⟩ := h p e R s m args below meth c H locs cells slots ls A mc ms hM hE hR hl hP T hT X
  exact ⟨t, a1, o, b1, b2, ⟨v, L2, f2, e9, hq v L2 f2 hΦ, r⟩, b4⟩
/-- what is carried along from a frame to the frames that it calls -/
def tg_go (EX : State → (Nat → Prop) → Prop) : Prop := (∀ (s U : State) (H : Heap) (A B : Nat → Prop) (locs : List Loc), EX s A → va_S A s.heap H locs → U.heap = H → s.WarmedH U.vm → (∀ z, B z → A z) → EX U B) ∧ ∀ (U V : State) (A : Nat → Prop), EX U A → U.vm = V.vm → V.heap = U.heap → EX V A
theorem tg_EL : tg_go tx_EL :=
  ⟨fun s U H A B locs h hS hU hW hB => ⟨h.1.go hS hU hW hB, fun p hp => va_Nc.moved hW.alike (h.2 p hp)⟩, fun U V A h hv hh => ⟨h.1.same hv hh, fun p hp => va_Nc.moved (by rw [hv]; exact Vm.Alike.refl _) (h.2 p hp)⟩⟩
/-- the script lies outside the world -/
def tl_X (b N : Nat) (xs : Nat → Int32) (s : State) (A : Nat → Prop) : Prop := va_X b N xs s s.heap ∧ b < s.heap.size ∧ ¬ A b
theorem tg_X {b N : Nat} {xs : Nat → Int32} : tg_go (tl_X b N xs) :=
  ⟨fun s U H A B locs h hS hU hW hB => ⟨by rw [hU]; exact (va_X.kept h.1 (hS.2.1 b h.2.1 h.2.2)).moved hW.alike, by rw [hU]; exact Nat.lt_of_lt_of_le h.2.1 hS.1, fun z => h.2.2 (hB b z)⟩,
   fun U V A h hv hh => ⟨by rw [hh]; exact h.1.moved (by rw [hv]; exact Vm.Alike.refl _), by rw [hh]; exact h.2.1, h.2.2⟩⟩
/-- the law's own frame: what is changed is new -/
def tl_EX (b N : Nat) (xs : Nat → Int32) (s : State) (A : Nat → Prop) : Prop := tx_EL s A ∧ tl_X b N xs s A ∧ ∀ z, A z → s.heap.size ≤ z
def tg_C (l : Launch) (G : tf_G) (EX : State → (Nat → Prop) → Prop) (d : Nat) (i : tf_I) (w : Cond) (av : List Value) (L : List Nat) (f : tf_F) (mc ms : Nat) (Φ : tf_O) : Prop :=
  ∀ sz : Nat, Met l i.1 (w :: G.2.2.2.1) (tf_rm d mc ms) (va_Pc av (fun U => tf_S G L f sz U ∧ EX U (tf_A L sz))) (tf_Q G Φ (tf_A L sz)) mc ms (tf_A L sz)
theorem tg_C.ofW {hh : List (Nat × Nat × Nat × Nat)} {av : List Value} {mc ms : Nat} (hy : plainName i.1.cls = true) (hs : (lg_sl av).length ≤ i.2.2.1) (h : tf_W l G EX (tf_QM G Φ) d i 0 (lv_args 0 av) [] L f mc ms) : tg_C l G EX d i (.codeWith i.1 i.2.1 i.2.2.1 i.2.2.2 hh) av L f mc ms Φ := by
  intro sz
  refine va_MetW (cc := i.2.1) (maxL := i.2.2.1) (ret := i.2.2.2) (hh := hh) hy rfl ?_
  intro p e s m args below meth c s₁ B hml hv
  obtain ⟨rfl, ⟨hsz, hP, hK, hD, hnw⟩, hE⟩ := hv
  have hts : ∀ w ∈ G.2.2.2.1, w.before av.toArray s = true := fun w hw => atoms_spec (ws := .codeWith i.1 i.2.1 i.2.2.1 i.2.2.2 hh :: G.2.2.2.1) B.pre w (List.mem_cons_of_mem _ hw)
  have hnm : meth.name = i.1.name := (name_of_methodNamed B.named B.method).1
  subst hsz
  have hl := lv_entry av (n := i.2.2.1) hs
  rw [lg_entry_eq]
  exact h p e _ s m av.toArray below meth c s.heap [] 0 0 _ (tf_A L s.heap.size) mc ms ⟨B.exec, B.bytes, hml, findClass_of_methodNamed B.named, hts, B.returns, B.notSynchronized, hnw, hnm, hK, B.named⟩ hE
    ⟨Nat.le_refl _, Nat.le_refl _, by omega, by omega, Nat.le_refl _, Nat.le_refl _⟩ hl ⟨hP, tf_D_self hD, va_S.rf, fun q h => Or.inr h⟩
theorem tg_C.of {av : List Value} {mc ms : Nat} (hy : plainName i.1.cls = true) (hs : (lg_sl av).length ≤ i.2.2.1) (h : tf_W l G EX (tf_QM G Φ) d i 0 (lv_args 0 av) [] L f mc ms) : tg_C l G EX d i (.code i.1 i.2.1 i.2.2.1 i.2.2.2) av L f mc ms Φ := by
  intro sz
  refine Met.ofW (cc := i.2.1) (maxL := i.2.2.1) (ret := i.2.2.2) hy rfl ?_
  intro p e s m args below meth c s₁ B hml hv
  obtain ⟨rfl, ⟨hsz, hP, hK, hD, hnw⟩, hE⟩ := hv
  have hts : ∀ w ∈ G.2.2.2.1, w.before av.toArray s = true := fun w hw => atoms_spec (ws := .code i.1 i.2.1 i.2.2.1 i.2.2.2 :: G.2.2.2.1) B.pre w (List.mem_cons_of_mem _ hw)
  have hnm : meth.name = i.1.name := (name_of_methodNamed B.named B.method).1
  subst hsz
  have hl := lv_entry av (n := i.2.2.1) hs
  rw [lg_entry_eq]
  exact h p e _ s m av.toArray below meth c s.heap [] 0 0 _ (tf_A L s.heap.size) mc ms ⟨B.exec, B.bytes, hml, findClass_of_methodNamed B.named, hts, B.returns, B.notSynchronized, hnw, hnm, hK, B.named⟩ hE
    ⟨Nat.le_refl _, Nat.le_refl _, by omega, by omega, Nat.le_refl _, Nat.le_refl _⟩ hl ⟨hP, tf_D_self hD, va_S.rf, fun q h => Or.inr h⟩
theorem tg_pre (hG : tf_ok G) (hgo : tg_go EX) {s : State} {H : Heap} {A : Nat → Prop} {locs : List Loc} {av : List Value} (hK : va_K G.1 G.2.1 G.2.2.1 s) (hnw : ∀ w ∈ G.2.2.2.2, va_Nw w s) (hP : tf_P G L f A s H locs) (hE : EX s A) : PreS s H (va_Pc av (fun U => tf_S G L f H.size U ∧ EX U (tf_A L H.size))) av := by
  obtain ⟨hPP, hD, hS, hA⟩ := hP
  have hsub : ∀ z, tf_A L H.size z → A z := fun z h => h.elim (fun h => tf_D_A hD h) (fun h => hA z (Nat.le_trans hS.1 h))
  have hB := tf_pre (av := av) hG hK hnw hPP hD
  refine ⟨fun a U g mk z => ?_, fun U hU hW => ?_⟩
  · obtain ⟨z0, z1, z2⟩ := z
    exact ⟨z0, (hB.1 a U g mk ⟨z0, z1⟩).2, hgo.2 U (U.calling g mk a) _ z2 rfl rfl⟩
  · have := hB.2 U hU hW
    exact ⟨this.1, this.2, hgo.1 s U H A _ locs hE hS hU hW hsub⟩
/-- a call of a static method without a table -/
theorem tg_cS (hG : tf_ok G) (hgo : tg_go EX2) (hsub : ∀ s A, EX s A → EX2 s A) {ix d2 n k2 s2 : Nat} {j : tf_I} {As : List Value} {Φ' : tf_O} (hC : tg_C l G EX2 d2 j (.code j.1 j.2.1 j.2.2.1 j.2.2.2) As L f k2 s2 Φ') (nxt : Nat) (hd : decode i.2.1 pc = .ok (.invokestatic ix, 3)) (hn : pc + 3 = nxt) (hlk0 : tf_lkM G i.1.cls ix j.1) (hj : tf_cw G j n) (hAs : As.length = n) (hsta : Cond.static j.1 ∈ G.2.2.2.1) (hd2 : d2 + 1 ≤ d) (hst : (st.map fun v => v.category).sum ≤ 8) (hsk : st2 = As.reverse ++ st)
    (kk : ∀ (v : Option Value) (L2 : List Nat) (f2 : tf_F), Φ' v L2 f2 → tf_W l G EX QB d i nxt lv (v.toList ++ st) L2 f2 kc ks) : tf_W l G EX QB d i pc lv st2 L f (kc + k2) (ks + s2) := by
  subst hn
  subst hsk
  intro p e R s m args below meth c H locs cells slots ls A mc ms hM hE hR hl hP
  obtain ⟨hx, hb, hml, hown, hts, hret, hlk, hnw, hnm, hK, hnd⟩ := id hM
  obtain ⟨r1, r2⟩ := tf_room2 hR
  refine tf_goes (Φ := Φ') (a := As.toArray) (va_runS ⟨hx, hb, hml, hown, hts⟩ (hC H.size) ⟨tf_callB hG hj hd2 hR hts (hts _ hlk0), hts _ hsta⟩ (tg_pre hG hgo hK hnw hP (hsub s A hE)) rfl hAs hl.1 rfl (lv_room hst) hd r1) hP (fun v L2 f2 H1 locs1 hΦ hP1 => ?_)
  exact kk v L2 f2 hΦ p e R s m args below meth c H1 locs1 (cells + k2) (slots + s2) ls A mc ms hM hE r2 hl hP1
theorem tl_callS {p : Program} {e : Env} {R : Room} {s : State} {m : MethodId} {args : Array Value} {below : List Frame} {meth : Method} {c : Code} {T : State} {locs : List Loc} {cells slots : Nat} (X : Stand p l e R s m args below meth c T locs cells slots) (hexec : p.tables.exec = Jvm.exec) {own : String} {index : Nat} {y : MethodName} {bytes : ByteArray} {maxL : Nat} {ret : Option FieldType} {hh : List (Nat × Nat × Nat × Nat)}
    (hown : s.vm.findClass own = some m.cls) (hlink : (Cond.methodLink own index y).before args s = true) (hstat : (Cond.static y).before args s = true) (hinit : (Cond.initialized y.cls).before args s = true)
    (hcode : (Cond.codeWith y bytes maxL ret hh).before args s = true) (hy : y.cls ≠ "java/lang/invoke/MethodHandle" ∧ y.cls ≠ "java/lang/invoke/VarHandle")
    {W : Nat} {Pre : Pt → Array Value → Prop} {Post : Pt → Array Value → Option Value → Pt → Prop} (hK : Back l R p e below s args y 3 W Pre Post)
    {g : JFrame} (hg : g.method = m) (hsize : g.locals.size = c.maxLocals) {argsL rest : List Value} (hlen : ∀ sig, parseMethodDescriptor y.desc = some sig → argsL.length = sig.parameters.length)
    (hstack : g.stack = argsL.reverse ++ rest) (hW : 2 * g.monitorRoom + (rest.map fun v => v.category).sum ≤ W) (hdg : decode c.code g.pc = .ok (.invokestatic index, 3))
    (hpre : ∀ vm₁, s.WarmedH vm₁ → Pre ⟨T.setVm vm₁, locs, cells, slots⟩ argsL.toArray) :
    ∃ (v : Option Value) (vm₁ : Vm) (B : Pt), s.WarmedH vm₁ ∧ Stand p l e R s m args below meth c B.U B.locs B.cells B.slots ∧ Post ⟨T.setVm vm₁, locs, cells, slots⟩ argsL.toArray v B ∧
      ∀ target, Steps p.tables e below (B.U.setTop { g with pc := g.pc + 3, stack := v.toList ++ rest }) target → Steps p.tables e below (T.setTop g) target := by
  obtain ⟨mk, methM, cM, hnamed, hmethM, -, -, -, -, -, -, hsigM⟩ := Cond.codeWith_spec hcode
  have hstatic : methM.isStatic = true := Cond.static_spec hnamed hmethM hstat
  obtain ⟨kP, hkP, -⟩ := className_of_methodNamed hnamed
  have hinitP : kP.init = .initialized := Cond.initialized_spec (findClass_of_methodNamed hnamed) hkP hinit
  obtain ⟨vm₁, X₁, hstep₁⟩ := X.invokestatic hexec hown hlink hnamed hmethM hstatic hkP hinitP hy (g := g) hg (argsL := argsL) (rest := rest) (hlen _ hsigM) hstack hdg
  obtain ⟨v, B, X', hpost, hsteps⟩ := hK m meth c ⟨T.setVm vm₁, locs, cells, slots⟩ { g with stack := rest } (.invokestatic index) mk argsL.toArray X₁ hg hsize hdg hW (X₁.named hnamed) (hpre vm₁ X₁.warmed)
  exact ⟨v, vm₁, B, X₁.warmed, X', hpost, fun target h => hstep₁ _ fun acts => by rw [doInvoke_state]; exact hsteps.trans h⟩
/-- the words of such a callee at a call -/
def tl_cw (G : tf_G) (j : tf_I) (hh : List (Nat × Nat × Nat × Nat)) (n : Nat) : Prop := Cond.codeWith j.1 j.2.1 j.2.2.1 j.2.2.2 hh ∈ G.2.2.2.1 ∧ Cond.initialized j.1.cls ∈ G.2.2.2.1 ∧ (j.1.cls ≠ "java/lang/invoke/MethodHandle" ∧ j.1.cls ≠ "java/lang/invoke/VarHandle") ∧ (parseMethodDescriptor j.1.desc).map (fun d => d.parameters.length) = some n ∧ j.2.2.1 ≤ 45
/-- a call of a static method with a table -/
theorem tl_cS (hG : tf_ok G) (hgo : tg_go EX2) (hsub : ∀ s A, EX s A → EX2 s A) {ix d2 n k2 s2 : Nat} {j : tf_I} {hh : List (Nat × Nat × Nat × Nat)} {As : List Value} {Φ' : tf_O} (hC : tg_C l G EX2 d2 j (.codeWith j.1 j.2.1 j.2.2.1 j.2.2.2 hh) As L f k2 s2 Φ') (nxt : Nat) (hd : decode i.2.1 pc = .ok (.invokestatic ix, 3)) (hn : pc + 3 = nxt) (hlk0 : tf_lkM G i.1.cls ix j.1) (hj : tl_cw G j hh n) (hAs : As.length = n) (hsta : Cond.static j.1 ∈ G.2.2.2.1) (hd2 : d2 + 1 ≤ d) (hst : (st.map fun v => v.category).sum ≤ 8) (hsk : st2 = As.reverse ++ st)
    (kk : ∀ (v : Option Value) (L2 : List Nat) (f2 : tf_F), Φ' v L2 f2 → tf_W l G EX QB d i nxt lv (v.toList ++ st) L2 f2 kc ks) : tf_W l G EX QB d i pc lv st2 L f (kc + k2) (ks + s2) := by
  subst hn
  subst hsk
  intro p e R s m args below meth c H locs cells slots ls A mc ms hM hE hR hl hP
  obtain ⟨hx, hb, hml, hown, hts, hret, hlk, hnw, hnm, hK, hnd⟩ := id hM
  obtain ⟨r1, r2⟩ := tf_room2 hR
  obtain ⟨z1, z2, -⟩ := id hR
  obtain ⟨w1, w2, w3, w4, w5⟩ := id hj
  have hpre := tg_pre (av := As) hG hgo hK hnw hP (hsub s A hE)
  have hws : ∀ w ∈ Cond.codeWith j.1 j.2.1 j.2.2.1 j.2.2.2 hh :: G.2.2.2.1, ∀ (a' : Array Value) (U : State), s.WarmedH U.vm → w.before a' U = true := by
    intro w hw a' U hW
    have hm : w ∈ G.2.2.2.1 := by
      rcases List.mem_cons.mp hw with h | h
      · rw [h]; exact w1
      · exact h
    exact word_at hW (good_of_word (hG.1 w hm)) (hts w hm)
  have hlen : ∀ sig, parseMethodDescriptor j.1.desc = some sig → As.length = sig.parameters.length := fun sig h => by
    rw [h] at w4
    rw [hAs]
    exact (Option.some.inj w4).symm
  have hKb : Back l R p e below s args j.1 3 8 (PreOf R k2 s2 (va_Pc As (fun U => tf_S G L f H.size U ∧ EX2 U (tf_A L H.size)))) (PostOf (tf_Q G Φ' (tf_A L H.size)) k2 s2 (tf_A L H.size)) := va_backW (hh := hh) (bytes := j.2.1) (maxL := j.2.2.1) (ret := j.2.2.2) (hC H.size) hpre.1 rfl rfl (by show d2 + 1 ≤ R.frames; omega) (by show 8 + (j.2.2.1 + 11) + 64 * d2 ≤ R.locals; omega) hws List.mem_cons_self (fun a' U hW => hws _ (List.mem_cons_of_mem _ w2) a' U hW)
  refine tf_goes (Φ := Φ') (a := As.toArray) (rest := st) (mc := k2) (ms := s2) ?_ hP (fun v L2 f2 H1 locs1 hΦ hP1 => ?_)
  · intro T hT X
    obtain ⟨v, vm₁, ⟨U', l2, c2, s3⟩, hW₁, X', ⟨g', mk, t, Ls, e1, e2, hq, h1, hL, h2, h3⟩, stp⟩ := tl_callS X hx (bytes := j.2.1) (maxL := j.2.2.1) (ret := j.2.2.2) (hh := hh) hown (hts _ hlk0) (hts _ hsta) (hts _ w2) (hts _ w1) w3 hKb (g := F0 m pc ls (As.reverse ++ st)) rfl (hl.1.trans hml.symm) (argsL := As) (rest := st) hlen rfl (lv_room hst) (by rw [hb]; exact hd)
      (fun vm₁ hW₁ => ⟨r1.1, r1.2, hpre.2 (T.setVm vm₁) hT hW₁⟩)
    dsimp only [Pt.U, Pt.locs, Pt.cells, Pt.slots] at X' e1 e2 h1 h2 h3 stp
    subst h1; subst h2; subst h3
    exact ⟨v, (T.setVm vm₁).calling g' mk As.toArray, t, U', Ls, hT, X', hL, e1, e2, hq, stp⟩
  · exact kk v L2 f2 hΦ p e R s m args below meth c H1 locs1 (cells + k2) (slots + s2) ls A mc ms hM hE r2 hl hP1
/-- the script is read -/
theorem tl_sld {b N : Nat} {xs : Nat → Int32} (hsub : ∀ s A, EX s A → tl_X b N xs s A) {x : Int32} (nxt : Nat) (hd : decode i.2.1 pc = .ok (.iaload, 1)) (hn : pc + 1 = nxt) (hin : vp_in x N) (kk : tf_W l G EX QB d i nxt lv (.int (xs x.toNatClampNeg) :: st) L f kc ks) : tf_W l G EX QB d i pc lv (.int x :: .ref b :: st) L f kc ks := by
  subst hn
  intro p e R s m args below meth c H locs cells slots ls A mc ms hM hE hR hl hP
  obtain ⟨hx, hb, hml, hown, hts, hret, hlk, hnw, hnm, hK, hnd⟩ := id hM
  obtain ⟨hPP, hD, hS, hA⟩ := id hP
  obtain ⟨x1, x2, x3⟩ := hsub s A hE
  exact va_sld hx hb x1 x2 x3 hS hin hd (kk p e R s m args below meth c H locs cells slots ls A mc ms hM hE hR hl hP)
theorem tl_slen {b N : Nat} {xs : Nat → Int32} (hsub : ∀ s A, EX s A → tl_X b N xs s A) (nxt : Nat) (hd : decode i.2.1 pc = .ok (.arraylength, 1)) (hn : pc + 1 = nxt) (kk : tf_W l G EX QB d i nxt lv (.int (nI N) :: st) L f kc ks) : tf_W l G EX QB d i pc lv (.ref b :: st) L f kc ks := by
  subst hn
  intro p e R s m args below meth c H locs cells slots ls A mc ms hM hE hR hl hP
  obtain ⟨hx, hb, hml, hown, hts, hret, hlk, hnw, hnm, hK, hnd⟩ := id hM
  obtain ⟨hPP, hD, hS, hA⟩ := id hP
  obtain ⟨x1, x2, x3⟩ := hsub s A hE
  exact va_slen hx hb x1 x2 x3 hS hd (kk p e R s m args below meth c H locs cells slots ls A mc ms hM hE hR hl hP)
end
