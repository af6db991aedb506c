section
variable {l : Launch} {G : tf_G} {EX : State → (Nat → Prop) → Prop} {QB : tf_B} {d : Nat} {i : tf_I} {pc : Nat} {lv lv2 : tf_V} {st st2 : List Value} {L : List Nat} {f : tf_F} {kc ks : Nat}
def tf_ops (nL : Nat) : List (Instr × Nat) → Nat → tf_V → List Value → Option (Nat × tf_V × List Value)
  | [], pc, lv, st => some (pc, lv, st)
  | (a, b) :: r, pc, lv, st => match tf_op nL a b lv st with
    | some (lv2, st2) => tf_ops nL r (pc + b) lv2 st2
    | none => none
/-- a stretch of instructions that ask nothing of the heap -/
theorem tf_blk {q : Nat} (bs : List (Instr × Nat)) (hdec : tf_dec i.2.1 pc bs = true) (h : tf_ops i.2.2.1 bs pc lv st = some (q, lv2, st2)) (k : tf_W l G EX QB d i q lv2 st2 L f kc ks) : tf_W l G EX QB d i pc lv st L f kc ks := by
  induction bs generalizing pc lv st with
  | nil =>
    unfold tf_ops at h
    cases h
    exact k
  | cons b r ih =>
    obtain ⟨ia, ib⟩ := b
    unfold tf_ops at h
    unfold tf_dec at hdec
    rw [Bool.and_eq_true] at hdec
    obtain ⟨h1, h2⟩ := hdec
    split at h1
    · rename_i z hz
      have hzb : z = (ia, ib) := of_decide_eq_true h1
      subst hzb
      split at h
      · rename_i w1 w2 hw
        have k2 := ih h2 h
        intro p e R s m args below meth c H locs cells slots ls A mc ms hM hE hR hl hP
        exact tf_op_ok (n := ib) (ins := ia) (lv2 := w1) (st2 := w2) hM.1 hM.2.1 hz hl hw (fun ls2 h2 => k2 p e R s m args below meth c H locs cells slots ls2 A mc ms hM hE hR h2 hP)
      · cases h
    · cases h1
theorem tf_drop (ks0 : List Nat) (h : tf_keep ks0 lv = lv2) (k : tf_W l G EX QB d i pc lv2 st L f kc ks) : tf_W l G EX QB d i pc lv st L f kc ks := by
  subst h
  exact fun p e R s m args below meth c H locs cells slots ls A mc ms hM hE hR hl hP => k p e R s m args below meth c H locs cells slots ls A mc ms hM hE hR (tf_keep_has ks0 hl) hP
theorem tf_less {kc2 ks2 : Nat} (h1 : kc2 ≤ kc) (h2 : ks2 ≤ ks) (k : tf_W l G EX QB d i pc lv st L f kc2 ks2) : tf_W l G EX QB d i pc lv st L f kc ks :=
  fun p e R s m args below meth c H locs cells slots ls A mc ms hM hE hR hl hP => k p e R s m args below meth c H locs cells slots ls A mc ms hM hE ⟨hR.1, hR.2.1, Nat.le_trans (Nat.add_le_add_left h1 _) hR.2.2.1, Nat.le_trans (Nat.add_le_add_left h2 _) hR.2.2.2.1, hR.2.2.2.2⟩ hl hP
theorem tf_goto {off : Int} (tgt : Nat) (hd : decode i.2.1 pc = .ok (.goto off, 3)) (ht : (pc : Int) + off = (tgt : Int)) (k : tf_W l G EX QB d i tgt lv st L f kc ks) : tf_W l G EX QB d i pc lv st L f kc ks :=
  fun p e R s m args below meth c H locs cells slots ls A mc ms hM hE hR hl hP => lv_goto hM.1 hM.2.1 hd ht (k p e R s m args below meth c H locs cells slots ls A mc ms hM hE hR hl hP)
theorem tf_if_eq {x : Int32} {off : Int} (tgt nxt : Nat) (hd : decode i.2.1 pc = .ok (.ifCond .eq off, 3)) (ht : (pc : Int) + off = (tgt : Int)) (hn : pc + 3 = nxt) (kt : x = 0 → tf_W l G EX QB d i tgt lv st L f kc ks) (kf : ¬ x = 0 → tf_W l G EX QB d i nxt lv st L f kc ks) : tf_W l G EX QB d i pc lv (.int x :: st) L f kc ks := by
  subst hn
  exact fun p e R s m args below meth c H locs cells slots ls A mc ms hM hE hR hl hP => lv_if_eq hM.1 hM.2.1 hd ht (fun h => kt h p e R s m args below meth c H locs cells slots ls A mc ms hM hE hR hl hP) (fun h => kf h p e R s m args below meth c H locs cells slots ls A mc ms hM hE hR hl hP)
theorem tf_ic_eq {x y : Int32} {off : Int} (tgt nxt : Nat) (hd : decode i.2.1 pc = .ok (.if_icmp .eq off, 3)) (ht : (pc : Int) + off = (tgt : Int)) (hn : pc + 3 = nxt) (kt : x = y → tf_W l G EX QB d i tgt lv st L f kc ks) (kf : ¬ x = y → tf_W l G EX QB d i nxt lv st L f kc ks) : tf_W l G EX QB d i pc lv (.int y :: .int x :: st) L f kc ks := by
  subst hn
  exact fun p e R s m args below meth c H locs cells slots ls A mc ms hM hE hR hl hP => lv_icmp_eq hM.1 hM.2.1 hd ht (fun h => kt h p e R s m args below meth c H locs cells slots ls A mc ms hM hE hR hl hP) (fun h => kf h p e R s m args below meth c H locs cells slots ls A mc ms hM hE hR hl hP)
theorem tf_if_ne {x : Int32} {off : Int} (tgt nxt : Nat) (hd : decode i.2.1 pc = .ok (.ifCond .ne off, 3)) (ht : (pc : Int) + off = (tgt : Int)) (hn : pc + 3 = nxt) (kt : ¬ x = 0 → tf_W l G EX QB d i tgt lv st L f kc ks) (kf : x = 0 → tf_W l G EX QB d i nxt lv st L f kc ks) : tf_W l G EX QB d i pc lv (.int x :: st) L f kc ks := by
  subst hn
  exact fun p e R s m args below meth c H locs cells slots ls A mc ms hM hE hR hl hP => lv_if_ne hM.1 hM.2.1 hd ht (fun h => kt h p e R s m args below meth c H locs cells slots ls A mc ms hM hE hR hl hP) (fun h => kf h p e R s m args below meth c H locs cells slots ls A mc ms hM hE hR hl hP)
theorem tf_ic_ne {x y : Int32} {off : Int} (tgt nxt : Nat) (hd : decode i.2.1 pc = .ok (.if_icmp .ne off, 3)) (ht : (pc : Int) + off = (tgt : Int)) (hn : pc + 3 = nxt) (kt : ¬ x = y → tf_W l G EX QB d i tgt lv st L f kc ks) (kf : x = y → tf_W l G EX QB d i nxt lv st L f kc ks) : tf_W l G EX QB d i pc lv (.int y :: .int x :: st) L f kc ks := by
  subst hn
  exact fun p e R s m args below meth c H locs cells slots ls A mc ms hM hE hR hl hP => lv_icmp_ne hM.1 hM.2.1 hd ht (fun h => kt h p e R s m args below meth c H locs cells slots ls A mc ms hM hE hR hl hP) (fun h => kf h p e R s m args below meth c H locs cells slots ls A mc ms hM hE hR hl hP)
theorem tf_if_lt {x : Int32} {off : Int} (tgt nxt : Nat) (hd : decode i.2.1 pc = .ok (.ifCond .lt off, 3)) (ht : (pc : Int) + off = (tgt : Int)) (hn : pc + 3 = nxt) (kt : x < 0 → tf_W l G EX QB d i tgt lv st L f kc ks) (kf : ¬ x < 0 → tf_W l G EX QB d i nxt lv st L f kc ks) : tf_W l G EX QB d i pc lv (.int x :: st) L f kc ks := by
  subst hn
  exact fun p e R s m args below meth c H locs cells slots ls A mc ms hM hE hR hl hP => lv_if_lt hM.1 hM.2.1 hd ht (fun h => kt h p e R s m args below meth c H locs cells slots ls A mc ms hM hE hR hl hP) (fun h => kf h p e R s m args below meth c H locs cells slots ls A mc ms hM hE hR hl hP)
theorem tf_ic_lt {x y : Int32} {off : Int} (tgt nxt : Nat) (hd : decode i.2.1 pc = .ok (.if_icmp .lt off, 3)) (ht : (pc : Int) + off = (tgt : Int)) (hn : pc + 3 = nxt) (kt : x < y → tf_W l G EX QB d i tgt lv st L f kc ks) (kf : ¬ x < y → tf_W l G EX QB d i nxt lv st L f kc ks) : tf_W l G EX QB d i pc lv (.int y :: .int x :: st) L f kc ks := by
  subst hn
  exact fun p e R s m args below meth c H locs cells slots ls A mc ms hM hE hR hl hP => lv_icmp_lt hM.1 hM.2.1 hd ht (fun h => kt h p e R s m args below meth c H locs cells slots ls A mc ms hM hE hR hl hP) (fun h => kf h p e R s m args below meth c H locs cells slots ls A mc ms hM hE hR hl hP)
theorem tf_if_ge {x : Int32} {off : Int} (tgt nxt : Nat) (hd : decode i.2.1 pc = .ok (.ifCond .ge off, 3)) (ht : (pc : Int) + off = (tgt : Int)) (hn : pc + 3 = nxt) (kt : 0 ≤ x → tf_W l G EX QB d i tgt lv st L f kc ks) (kf : ¬ 0 ≤ x → tf_W l G EX QB d i nxt lv st L f kc ks) : tf_W l G EX QB d i pc lv (.int x :: st) L f kc ks := by
  subst hn
  exact fun p e R s m args below meth c H locs cells slots ls A mc ms hM hE hR hl hP => lv_if_ge hM.1 hM.2.1 hd ht (fun h => kt h p e R s m args below meth c H locs cells slots ls A mc ms hM hE hR hl hP) (fun h => kf h p e R s m args below meth c H locs cells slots ls A mc ms hM hE hR hl hP)
theorem tf_ic_ge {x y : Int32} {off : Int} (tgt nxt : Nat) (hd : decode i.2.1 pc = .ok (.if_icmp .ge off, 3)) (ht : (pc : Int) + off = (tgt : Int)) (hn : pc + 3 = nxt) (kt : y ≤ x → tf_W l G EX QB d i tgt lv st L f kc ks) (kf : ¬ y ≤ x → tf_W l G EX QB d i nxt lv st L f kc ks) : tf_W l G EX QB d i pc lv (.int y :: .int x :: st) L f kc ks := by
  subst hn
  exact fun p e R s m args below meth c H locs cells slots ls A mc ms hM hE hR hl hP => lv_icmp_ge hM.1 hM.2.1 hd ht (fun h => kt h p e R s m args below meth c H locs cells slots ls A mc ms hM hE hR hl hP) (fun h => kf h p e R s m args below meth c H locs cells slots ls A mc ms hM hE hR hl hP)
theorem tf_if_gt {x : Int32} {off : Int} (tgt nxt : Nat) (hd : decode i.2.1 pc = .ok (.ifCond .gt off, 3)) (ht : (pc : Int) + off = (tgt : Int)) (hn : pc + 3 = nxt) (kt : 0 < x → tf_W l G EX QB d i tgt lv st L f kc ks) (kf : ¬ 0 < x → tf_W l G EX QB d i nxt lv st L f kc ks) : tf_W l G EX QB d i pc lv (.int x :: st) L f kc ks := by
  subst hn
  exact fun p e R s m args below meth c H locs cells slots ls A mc ms hM hE hR hl hP => lv_if_gt hM.1 hM.2.1 hd ht (fun h => kt h p e R s m args below meth c H locs cells slots ls A mc ms hM hE hR hl hP) (fun h => kf h p e R s m args below meth c H locs cells slots ls A mc ms hM hE hR hl hP)
theorem tf_ic_gt {x y : Int32} {off : Int} (tgt nxt : Nat) (hd : decode i.2.1 pc = .ok (.if_icmp .gt off, 3)) (ht : (pc : Int) + off = (tgt : Int)) (hn : pc + 3 = nxt) (kt : y < x → tf_W l G EX QB d i tgt lv st L f kc ks) (kf : ¬ y < x → tf_W l G EX QB d i nxt lv st L f kc ks) : tf_W l G EX QB d i pc lv (.int y :: .int x :: st) L f kc ks := by
  subst hn
  exact fun p e R s m args below meth c H locs cells slots ls A mc ms hM hE hR hl hP => lv_icmp_gt hM.1 hM.2.1 hd ht (fun h => kt h p e R s m args below meth c H locs cells slots ls A mc ms hM hE hR hl hP) (fun h => kf h p e R s m args below meth c H locs cells slots ls A mc ms hM hE hR hl hP)
theorem tf_if_le {x : Int32} {off : Int} (tgt nxt : Nat) (hd : decode i.2.1 pc = .ok (.ifCond .le off, 3)) (ht : (pc : Int) + off = (tgt : Int)) (hn : pc + 3 = nxt) (kt : x ≤ 0 → tf_W l G EX QB d i tgt lv st L f kc ks) (kf : ¬ x ≤ 0 → tf_W l G EX QB d i nxt lv st L f kc ks) : tf_W l G EX QB d i pc lv (.int x :: st) L f kc ks := by
  subst hn
  exact fun p e R s m args below meth c H locs cells slots ls A mc ms hM hE hR hl hP => lv_if_le hM.1 hM.2.1 hd ht (fun h => kt h p e R s m args below meth c H locs cells slots ls A mc ms hM hE hR hl hP) (fun h => kf h p e R s m args below meth c H locs cells slots ls A mc ms hM hE hR hl hP)
theorem tf_ic_le {x y : Int32} {off : Int} (tgt nxt : Nat) (hd : decode i.2.1 pc = .ok (.if_icmp .le off, 3)) (ht : (pc : Int) + off = (tgt : Int)) (hn : pc + 3 = nxt) (kt : x ≤ y → tf_W l G EX QB d i tgt lv st L f kc ks) (kf : ¬ x ≤ y → tf_W l G EX QB d i nxt lv st L f kc ks) : tf_W l G EX QB d i pc lv (.int y :: .int x :: st) L f kc ks := by
  subst hn
  exact fun p e R s m args below meth c H locs cells slots ls A mc ms hM hE hR hl hP => lv_icmp_le hM.1 hM.2.1 hd ht (fun h => kt h p e R s m args below meth c H locs cells slots ls A mc ms hM hE hR hl hP) (fun h => kf h p e R s m args below meth c H locs cells slots ls A mc ms hM hE hR hl hP)
theorem tf_ifnull_r {x : Nat} {off : Int} (nxt : Nat) (hd : decode i.2.1 pc = .ok (.ifnull off, 3)) (hn : pc + 3 = nxt) (k : tf_W l G EX QB d i nxt lv st L f kc ks) : tf_W l G EX QB d i pc lv (.ref x :: st) L f kc ks := by
  subst hn
  exact fun p e R s m args below meth c H locs cells slots ls A mc ms hM hE hR hl hP => lv_ifnull hM.1 hM.2.1 hd (k p e R s m args below meth c H locs cells slots ls A mc ms hM hE hR hl hP)
theorem tf_ifnull_n  {off : Int} (tgt : Nat) (hd : decode i.2.1 pc = .ok (.ifnull off, 3)) (ht : (pc : Int) + off = (tgt : Int)) (k : tf_W l G EX QB d i tgt lv st L f kc ks) : tf_W l G EX QB d i pc lv (.null :: st) L f kc ks :=
  fun p e R s m args below meth c H locs cells slots ls A mc ms hM hE hR hl hP => lv_ifnullN hM.1 hM.2.1 hd ht (k p e R s m args below meth c H locs cells slots ls A mc ms hM hE hR hl hP)
theorem tf_ifnonnull_r {x : Nat} {off : Int} (tgt : Nat) (hd : decode i.2.1 pc = .ok (.ifnonnull off, 3)) (ht : (pc : Int) + off = (tgt : Int)) (k : tf_W l G EX QB d i tgt lv st L f kc ks) : tf_W l G EX QB d i pc lv (.ref x :: st) L f kc ks :=
  fun p e R s m args below meth c H locs cells slots ls A mc ms hM hE hR hl hP => lv_ifnonnull hM.1 hM.2.1 hd ht (k p e R s m args below meth c H locs cells slots ls A mc ms hM hE hR hl hP)
theorem tf_ifnonnull_n  {off : Int} (nxt : Nat) (hd : decode i.2.1 pc = .ok (.ifnonnull off, 3)) (hn : pc + 3 = nxt) (k : tf_W l G EX QB d i nxt lv st L f kc ks) : tf_W l G EX QB d i pc lv (.null :: st) L f kc ks := by
  subst hn
  exact fun p e R s m args below meth c H locs cells slots ls A mc ms hM hE hR hl hP => lv_ifnonnullN hM.1 hM.2.1 hd (k p e R s m args below meth c H locs cells slots ls A mc ms hM hE hR hl hP)
theorem tf_idiv {x y : Int32} (nxt : Nat) (hd : decode i.2.1 pc = .ok (.idiv, 1)) (hn : pc + 1 = nxt) (hy : ¬ y = 0) (k : tf_W l G EX QB d i nxt lv (.int (x / y) :: st) L f kc ks) : tf_W l G EX QB d i pc lv (.int y :: .int x :: st) L f kc ks := by
  subst hn
  exact fun p e R s m args below meth c H locs cells slots ls A mc ms hM hE hR hl hP => lv_idiv hM.1 hM.2.1 hd hy (k p e R s m args below meth c H locs cells slots ls A mc ms hM hE hR hl hP)
theorem tf_irem {x y : Int32} (nxt : Nat) (hd : decode i.2.1 pc = .ok (.irem, 1)) (hn : pc + 1 = nxt) (hy : ¬ y = 0) (k : tf_W l G EX QB d i nxt lv (.int (x - x / y * y) :: st) L f kc ks) : tf_W l G EX QB d i pc lv (.int y :: .int x :: st) L f kc ks := by
  subst hn
  exact fun p e R s m args below meth c H locs cells slots ls A mc ms hM hE hR hl hP => lv_irem hM.1 hM.2.1 hd hy (k p e R s m args below meth c H locs cells slots ls A mc ms hM hE hR hl hP)
theorem tf_ldiv {x y : Int64} (nxt : Nat) (hd : decode i.2.1 pc = .ok (.ldiv, 1)) (hn : pc + 1 = nxt) (hy : ¬ y = 0) (k : tf_W l G EX QB d i nxt lv (.long (x / y) :: st) L f kc ks) : tf_W l G EX QB d i pc lv (.long y :: .long x :: st) L f kc ks := by
  subst hn
  exact fun p e R s m args below meth c H locs cells slots ls A mc ms hM hE hR hl hP => lv_ldiv hM.1 hM.2.1 hd hy (k p e R s m args below meth c H locs cells slots ls A mc ms hM hE hR hl hP)
theorem tf_lrem {x y : Int64} (nxt : Nat) (hd : decode i.2.1 pc = .ok (.lrem, 1)) (hn : pc + 1 = nxt) (hy : ¬ y = 0) (k : tf_W l G EX QB d i nxt lv (.long (x - x / y * y) :: st) L f kc ks) : tf_W l G EX QB d i pc lv (.long y :: .long x :: st) L f kc ks := by
  subst hn
  exact fun p e R s m args below meth c H locs cells slots ls A mc ms hM hE hR hl hP => lv_lrem hM.1 hM.2.1 hd hy (k p e R s m args below meth c H locs cells slots ls A mc ms hM hE hR hl hP)
theorem tf_tabOut {dflt lo hi : Int} {offs : Array Int} {len : Nat} {x : Int32} (tgt : Nat) (hd : decode i.2.1 pc = .ok (.tableswitch dflt lo hi offs, len)) (h : x.toInt < lo ∨ hi < x.toInt) (ht : (pc : Int) + dflt = (tgt : Int)) (k : tf_W l G EX QB d i tgt lv st L f kc ks) : tf_W l G EX QB d i pc lv (.int x :: st) L f kc ks :=
  fun p e R s m args below meth c H locs cells slots ls A mc ms hM hE hR hl hP => lv_tableOut hM.1 hM.2.1 hd h ht (k p e R s m args below meth c H locs cells slots ls A mc ms hM hE hR hl hP)
theorem tf_tabIn {dflt lo hi : Int} {offs : Array Int} {len : Nat} {x : Int32} {off : Int} (tgt : Nat) (hd : decode i.2.1 pc = .ok (.tableswitch dflt lo hi offs, len)) (h1 : ¬ x.toInt < lo) (h2 : ¬ hi < x.toInt) (ho : offs[(x.toInt - lo).toNat]? = some off) (ht : (pc : Int) + off = (tgt : Int)) (k : tf_W l G EX QB d i tgt lv st L f kc ks) : tf_W l G EX QB d i pc lv (.int x :: st) L f kc ks :=
  fun p e R s m args below meth c H locs cells slots ls A mc ms hM hE hR hl hP => lv_tableIn hM.1 hM.2.1 hd h1 h2 ho ht (k p e R s m args below meth c H locs cells slots ls A mc ms hM hE hR hl hP)
theorem tf_look {dflt : Int} {ps : Array (Int × Int)} {len : Nat} {x : Int32} {off : Int} (tgt : Nat) (hd : decode i.2.1 pc = .ok (.lookupswitch dflt ps, len)) (hp : (ps.toList.zip (ps.toList.drop 1)).all (fun (a, next) => a.1 < next.1) = true) (ho : Op.lookupswitch.offset ps.toList dflt x.toInt = off) (ht : (pc : Int) + off = (tgt : Int)) (k : tf_W l G EX QB d i tgt lv st L f kc ks) : tf_W l G EX QB d i pc lv (.int x :: st) L f kc ks :=
  fun p e R s m args below meth c H locs cells slots ls A mc ms hM hE hR hl hP => lv_lookup hM.1 hM.2.1 hd hp ho ht (k p e R s m args below meth c H locs cells slots ls A mc ms hM hE hR hl hP)
theorem tf_ldc {ix : Nat} {v : Int32} (nxt : Nat) (hd : decode i.2.1 pc = .ok (.ldc ix, 2)) (hn : pc + 2 = nxt) (hc : Jvm.Cond.constant i.1.cls ix v ∈ G.2.2.2.1) (k : tf_W l G EX QB d i nxt lv (.int v :: st) L f kc ks) : tf_W l G EX QB d i pc lv st L f kc ks := by
  subst hn
  exact fun p e R s m args below meth c H locs cells slots ls A mc ms hM hE hR hl hP => lv_ldc hM.1 hM.2.1 hM.2.2.2.1 (hM.2.2.2.2.1 _ hc) hd (k p e R s m args below meth c H locs cells slots ls A mc ms hM hE hR hl hP)
theorem tf_ldcw {ix : Nat} {v : Int32} (nxt : Nat) (hd : decode i.2.1 pc = .ok (.ldc_w ix, 3)) (hn : pc + 3 = nxt) (hc : Jvm.Cond.constant i.1.cls ix v ∈ G.2.2.2.1) (k : tf_W l G EX QB d i nxt lv (.int v :: st) L f kc ks) : tf_W l G EX QB d i pc lv st L f kc ks := by
  subst hn
  exact fun p e R s m args below meth c H locs cells slots ls A mc ms hM hE hR hl hP => lv_ldcw hM.1 hM.2.1 hM.2.2.2.1 (hM.2.2.2.2.1 _ hc) hd (k p e R s m args below meth c H locs cells slots ls A mc ms hM hE hR hl hP)
theorem tf_ldc2 {ix : Nat} {v : Int64} (nxt : Nat) (hd : decode i.2.1 pc = .ok (.ldc2_w ix, 3)) (hn : pc + 3 = nxt) (hc : Jvm.Cond.constantLong i.1.cls ix v ∈ G.2.2.2.1) (k : tf_W l G EX QB d i nxt lv (.long v :: st) L f kc ks) : tf_W l G EX QB d i pc lv st L f kc ks := by
  subst hn
  exact fun p e R s m args below meth c H locs cells slots ls A mc ms hM hE hR hl hP => lv_ldc2 hM.1 hM.2.1 hM.2.2.2.1 (hM.2.2.2.2.1 _ hc) hd (k p e R s m args below meth c H locs cells slots ls A mc ms hM hE hR hl hP)
end
