def tf_sm (b : Nat) : Int → Bool
  | .ofNat n => Nat.blt n b
  | .negSucc n => Nat.blt n b
theorem tf_sm_ok {b : Nat} {a : Int} (h : tf_sm b a = true) : -(b : Int) ≤ a ∧ a < b := by
  cases a with
  | ofNat n =>
    have : n < b := by simpa [tf_sm] using h
    simp only [Int.ofNat_eq_natCast]
    omega
  | negSucc n =>
    have : n < b := by simpa [tf_sm] using h
    omega
theorem tf_k8 {a : Int} (h : tf_sm 128 a = true) : (Int8.ofInt a).toInt32 = Int32.ofInt a := by
  have := tf_sm_ok h
  apply Int32.toInt_inj.mp
  rw [Int8.toInt_toInt32, Int8.toInt_ofInt, Int32.toInt_ofInt]
  simp only [Int.bmod, Int8.size, Int16.size, Int32.size]
  omega
theorem tf_k16 {a : Int} (h : tf_sm 32768 a = true) : (Int16.ofInt a).toInt32 = Int32.ofInt a := by
  have := tf_sm_ok h
  apply Int32.toInt_inj.mp
  rw [Int16.toInt_toInt32, Int16.toInt_ofInt, Int32.toInt_ofInt]
  simp only [Int.bmod, Int8.size, Int16.size, Int32.size]
  omega
/-- what an instruction that asks nothing of the heap does to locals and stack -/
def tf_op (nL : Nat) (ins : Instr) (n : Nat) (lv : tf_V) (st : List Value) : Option (tf_V × List Value) :=
  match ins, n, st with
  | .iconst a, 1, st => some (lv, .int (Int32.ofInt a) :: st)
  | .bipush a, 2, st => match tf_sm 128 a with | true => some (lv, .int (Int32.ofInt a) :: st) | false => none
  | .sipush a, 3, st => match tf_sm 32768 a with | true => some (lv, .int (Int32.ofInt a) :: st) | false => none
  | .lconst a, 1, st => some (lv, .long (Int64.ofNat a.val) :: st)
  | .aconst_null, 1, st => some (lv, .null :: st)
  | .iadd, 1, .int y :: .int x :: st => some (lv, .int (x + y) :: st)
  | .isub, 1, .int y :: .int x :: st => some (lv, .int (x - y) :: st)
  | .imul, 1, .int y :: .int x :: st => some (lv, .int (x * y) :: st)
  | .iand, 1, .int y :: .int x :: st => some (lv, .int (x &&& y) :: st)
  | .ior, 1, .int y :: .int x :: st => some (lv, .int (x ||| y) :: st)
  | .ixor, 1, .int y :: .int x :: st => some (lv, .int (x ^^^ y) :: st)
  | .ineg, 1, .int x :: st => some (lv, .int (-x) :: st)
  | .ladd, 1, .long y :: .long x :: st => some (lv, .long (x + y) :: st)
  | .lsub, 1, .long y :: .long x :: st => some (lv, .long (x - y) :: st)
  | .lmul, 1, .long y :: .long x :: st => some (lv, .long (x * y) :: st)
  | .land, 1, .long y :: .long x :: st => some (lv, .long (x &&& y) :: st)
  | .lor, 1, .long y :: .long x :: st => some (lv, .long (x ||| y) :: st)
  | .lxor, 1, .long y :: .long x :: st => some (lv, .long (x ^^^ y) :: st)
  | .lneg, 1, .long x :: st => some (lv, .long (-x) :: st)
  | .ishl, 1, .int y :: .int x :: st => some (lv, .int (x <<< (y &&& 31)) :: st)
  | .ishr, 1, .int y :: .int x :: st => some (lv, .int (x >>> (y &&& 31)) :: st)
  | .iushr, 1, .int y :: .int x :: st => some (lv, .int (x.toUInt32 >>> (y.toUInt32 &&& Int32.toUInt32 31)).toInt32 :: st)
  | .lshl, 1, .int y :: .long x :: st => some (lv, .long (x <<< (y.toInt64 &&& 63)) :: st)
  | .lshr, 1, .int y :: .long x :: st => some (lv, .long (x >>> (y.toInt64 &&& 63)) :: st)
  | .lushr, 1, .int y :: .long x :: st => some (lv, .long (x.toUInt64 >>> (y.toInt64.toUInt64 &&& Int64.toUInt64 63)).toInt64 :: st)
  | .i2l, 1, .int x :: st => some (lv, .long x.toInt64 :: st)
  | .l2i, 1, .long x :: st => some (lv, .int x.toInt32 :: st)
  | .lcmp, 1, .long y :: .long x :: st => some (lv, .int (lg_cmp x y) :: st)
  | .i2b, 1, .int x :: st => some (lv, .int x.toInt8.toInt32 :: st)
  | .i2s, 1, .int x :: st => some (lv, .int x.toInt16.toInt32 :: st)
  | .dup, 1, .int x :: st => some (lv, .int x :: .int x :: st)
  | .pop, 1, .int x :: st => some (lv, st)
  | .dup, 1, .ref x :: st => some (lv, .ref x :: .ref x :: st)
  | .pop, 1, .ref x :: st => some (lv, st)
  | .dup, 1, .null :: st => some (lv, .null :: .null :: st)
  | .pop, 1, .null :: st => some (lv, st)
  | .dup_x1, 1, .int x :: .int y :: st => some (lv, .int x :: .int y :: .int x :: st)
  | .dup2, 1, .int x :: .int y :: st => some (lv, .int x :: .int y :: .int x :: .int y :: st)
  | .dup_x1, 1, .int x :: .ref y :: st => some (lv, .int x :: .ref y :: .int x :: st)
  | .dup2, 1, .int x :: .ref y :: st => some (lv, .int x :: .ref y :: .int x :: .ref y :: st)
  | .dup_x1, 1, .ref x :: .int y :: st => some (lv, .ref x :: .int y :: .ref x :: st)
  | .dup2, 1, .ref x :: .int y :: st => some (lv, .ref x :: .int y :: .ref x :: .int y :: st)
  | .dup_x1, 1, .ref x :: .ref y :: st => some (lv, .ref x :: .ref y :: .ref x :: st)
  | .dup2, 1, .ref x :: .ref y :: st => some (lv, .ref x :: .ref y :: .ref x :: .ref y :: st)
  | .dup2, 1, .long x :: st => some (lv, .long x :: .long x :: st)
  | .dup_x2, 1, .int x :: .int y :: .ref z :: st => some (lv, .int x :: .int y :: .ref z :: .int x :: st)
  | .istore a, 2, .int x :: st => if a < nL then some (tf_s1 lv a (.int x), st) else none
  | .istore_n a, 1, .int x :: st => if a.val < nL then some (tf_s1 lv a.val (.int x), st) else none
  | .lstore a, 2, .long x :: st => if a + 1 < nL then some (tf_s2 lv a (.long x), st) else none
  | .lstore_n a, 1, .long x :: st => if a.val + 1 < nL then some (tf_s2 lv a.val (.long x), st) else none
  | .astore a, 2, .ref x :: st => if a < nL then some (tf_s1 lv a (.ref x), st) else none
  | .astore_n a, 1, .ref x :: st => if a.val < nL then some (tf_s1 lv a.val (.ref x), st) else none
  | .astore a, 2, .null :: st => if a < nL then some (tf_s1 lv a (.null), st) else none
  | .astore_n a, 1, .null :: st => if a.val < nL then some (tf_s1 lv a.val (.null), st) else none
  | .iload a, 2, st => match tf_lk lv a with | some (.int x) => some (lv, .int x :: st) | _ => none
  | .iload_n a, 1, st => match tf_lk lv a.val with | some (.int x) => some (lv, .int x :: st) | _ => none
  | .lload a, 2, st => match tf_lk lv a with | some (.long x) => some (lv, .long x :: st) | _ => none
  | .lload_n a, 1, st => match tf_lk lv a.val with | some (.long x) => some (lv, .long x :: st) | _ => none
  | .aload a, 2, st => match tf_lk lv a with | some (.ref x) => some (lv, .ref x :: st) | some .null => some (lv, .null :: st) | _ => none
  | .aload_n a, 1, st => match tf_lk lv a.val with | some (.ref x) => some (lv, .ref x :: st) | some .null => some (lv, .null :: st) | _ => none
  | .iinc a b, 3, st => match tf_lk lv a with | some (.int x) => if a < nL then some (tf_s1 lv a (.int (x + Int32.ofInt b)), st) else none | _ => none
  | _, _, _ => none
set_option maxHeartbeats 4000000 in
theorem tf_op_ok {p : Program} {l : Launch} {e : Env} {R : Room} {s : State} {m : MethodId} {args : Array Value} {below : List Frame} {meth : Method} {c : Code} {H : Heap} {locs : List Loc} {cells slots : Nat} {Q : State → Prop} {cc : ByteArray} {pc nL n : Nat} {ls : Array Slot} {ins : Instr} {lv lv2 : tf_V} {st st2 : List Value}
    (hx : p.tables.exec = Jvm.exec) (hb : c.code = cc) (hd : decode cc pc = .ok (ins, n)) (hl : lv_has ls nL lv) (h : tf_op nL ins n lv st = some (lv2, st2))
    (k : ∀ ls2 : Array Slot, lv_has ls2 nL lv2 → W p l e R s m args below meth c H locs cells slots Q (F0 m (pc + n) ls2 st2)) : W p l e R s m args below meth c H locs cells slots Q (F0 m pc ls st) := by
  unfold tf_op at h
  split at h
  · cases h; exact lv_iconst hx hb hd rfl (k ls hl)
  · split at h
    · rename_i hs; cases h; exact lv_bipush hx hb hd (tf_k8 hs) (k ls hl)
    · cases h
  · split at h
    · rename_i hs; cases h; exact lv_sipush hx hb hd (tf_k16 hs) (k ls hl)
    · cases h
  · cases h; exact lv_lconst hx hb hd rfl (k ls hl)
  · cases h; exact lv_null hx hb hd (k ls hl)
  · cases h; exact lv_iadd hx hb hd (k ls hl)
  · cases h; exact lv_isub hx hb hd (k ls hl)
  · cases h; exact lv_imul hx hb hd (k ls hl)
  · cases h; exact lv_iand hx hb hd (k ls hl)
  · cases h; exact lv_ior hx hb hd (k ls hl)
  · cases h; exact lv_ixor hx hb hd (k ls hl)
  · cases h; exact lv_ineg hx hb hd (k ls hl)
  · cases h; exact lv_ladd hx hb hd (k ls hl)
  · cases h; exact lv_lsub hx hb hd (k ls hl)
  · cases h; exact lv_lmul hx hb hd (k ls hl)
  · cases h; exact lv_land hx hb hd (k ls hl)
  · cases h; exact lv_lor hx hb hd (k ls hl)
  · cases h; exact lv_lxor hx hb hd (k ls hl)
  · cases h; exact lv_lneg hx hb hd (k ls hl)
  · cases h; exact lv_ishl hx hb hd (k ls hl)
  · cases h; exact lv_ishr hx hb hd (k ls hl)
  · cases h; exact lv_iushr hx hb hd rfl (k ls hl)
  · cases h; exact lv_lshl hx hb hd rfl (k ls hl)
  · cases h; exact lv_lshr hx hb hd rfl (k ls hl)
  · cases h; exact lv_lushr hx hb hd rfl (k ls hl)
  · cases h; exact lv_i2l hx hb hd rfl (k ls hl)
  · cases h; exact lv_l2i hx hb hd rfl (k ls hl)
  · cases h; exact W.lcmp hx hb hd (k ls hl)
  · cases h; exact lv_i2b hx hb hd rfl (k ls hl)
  · cases h; exact lv_i2s hx hb hd rfl (k ls hl)
  · cases h; exact lv_dup hx hb hd rfl (k ls hl)
  · cases h; exact lv_pop hx hb hd rfl (k ls hl)
  · cases h; exact lv_dup hx hb hd rfl (k ls hl)
  · cases h; exact lv_pop hx hb hd rfl (k ls hl)
  · cases h; exact lv_dup hx hb hd rfl (k ls hl)
  · cases h; exact lv_pop hx hb hd rfl (k ls hl)
  · cases h; exact lv_dup_x1 hx hb hd rfl rfl (k ls hl)
  · cases h; exact lv_dup2_11 hx hb hd rfl rfl (k ls hl)
  · cases h; exact lv_dup_x1 hx hb hd rfl rfl (k ls hl)
  · cases h; exact lv_dup2_11 hx hb hd rfl rfl (k ls hl)
  · cases h; exact lv_dup_x1 hx hb hd rfl rfl (k ls hl)
  · cases h; exact lv_dup2_11 hx hb hd rfl rfl (k ls hl)
  · cases h; exact lv_dup_x1 hx hb hd rfl rfl (k ls hl)
  · cases h; exact lv_dup2_11 hx hb hd rfl rfl (k ls hl)
  · cases h; exact lv_dup2_2 hx hb hd rfl (k ls hl)
  · cases h; exact lv_dup_x2 hx hb hd rfl rfl rfl (k ls hl)
  · split at h
    · rename_i hn; cases h; exact lv_istore hx hb hd hl hn rfl (fun ls2 h2 => k ls2 (tf_has h2))
    · cases h
  · split at h
    · rename_i hn; cases h; exact lv_istore_n hx hb hd rfl hl hn rfl (fun ls2 h2 => k ls2 (tf_has h2))
    · cases h
  · split at h
    · rename_i hn; cases h; exact lv_lstore hx hb hd hl hn rfl (fun ls2 h2 => k ls2 (tf_has h2))
    · cases h
  · split at h
    · rename_i hn; cases h; exact lv_lstore_n hx hb hd rfl hl hn rfl (fun ls2 h2 => k ls2 (tf_has h2))
    · cases h
  · split at h
    · rename_i hn; cases h; exact lv_astore hx hb hd hl hn rfl (fun ls2 h2 => k ls2 (tf_has h2))
    · cases h
  · split at h
    · rename_i hn; cases h; exact lv_astore_n hx hb hd rfl hl hn rfl (fun ls2 h2 => k ls2 (tf_has h2))
    · cases h
  · split at h
    · rename_i hn; cases h; exact lv_astoreN hx hb hd hl hn rfl (fun ls2 h2 => k ls2 (tf_has h2))
    · cases h
  · split at h
    · rename_i hn; cases h; exact lv_astore_nN hx hb hd rfl hl hn rfl (fun ls2 h2 => k ls2 (tf_has h2))
    · cases h
  · split at h
    · rename_i hk; cases h; exact lv_iload hx hb hd (tf_at hl hk) (k ls hl)
    · cases h
  · split at h
    · rename_i hk; cases h; exact lv_iload_n hx hb hd rfl (tf_at hl hk) (k ls hl)
    · cases h
  · split at h
    · rename_i hk; cases h; exact lv_lload hx hb hd (tf_at hl hk) (k ls hl)
    · cases h
  · split at h
    · rename_i hk; cases h; exact lv_lload_n hx hb hd rfl (tf_at hl hk) (k ls hl)
    · cases h
  · split at h
    · rename_i hk; cases h; exact lv_aload hx hb hd (tf_at hl hk) (k ls hl)
    · rename_i hk; cases h; exact lv_aloadN hx hb hd (tf_at hl hk) (k ls hl)
    · cases h
  · split at h
    · rename_i hk; cases h; exact lv_aload_n hx hb hd rfl (tf_at hl hk) (k ls hl)
    · rename_i hk; cases h; exact lv_aload_nN hx hb hd rfl (tf_at hl hk) (k ls hl)
    · cases h
  · split at h
    · rename_i hk; split at h
      · rename_i hn; cases h
        obtain ⟨j, hj⟩ := List.getElem?_of_mem (tf_lk_mem hk)
        exact lv_iinc hx hb hd hl hj rfl hn rfl (fun ls2 h2 => k ls2 (tf_has h2))
      · cases h
    · cases h
  · cases h
