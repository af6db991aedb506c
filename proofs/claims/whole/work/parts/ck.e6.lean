/-! rules: the words -/
theorem bv_byte (x : BitVec 64) {s : Nat} (hs : s + 8 ≤ 64) : x.sshiftRight s &&& 255#64 = (x >>> s) &&& 255#64 := by
  apply BitVec.eq_of_getLsbD_eq
  intro i hi
  rw [BitVec.getLsbD_and, BitVec.getLsbD_and, BitVec.getLsbD_sshiftRight, BitVec.getLsbD_ushiftRight]
  by_cases h : i < 8
  · rw [if_pos (by omega), decide_eq_false (by omega)]
    rfl
  · have e : (255#64).getLsbD i = false := by
      rw [BitVec.getLsbD_ofNat, show 255 = 2 ^ 8 - 1 from rfl, Nat.testBit_two_pow_sub_one, decide_eq_false h, Bool.and_false]
    rw [e, Bool.and_false, Bool.and_false]
theorem sh_c (k : Nat) (h : k < 4) : ((kI 8 * nI k).toInt64 &&& 63).toBitVec.smod 64 = BitVec.ofNat 64 (8 * k) ∧ (((kI 8 * nI k).toInt64.toUInt64 &&& Int64.toUInt64 63).toBitVec % 64) = BitVec.ofNat 64 (8 * k) := by
  rcases (show k = 0 ∨ k = 1 ∨ k = 2 ∨ k = 3 by omega) with rfl | rfl | rfl | rfl <;> decide
/-- byte k of a long -/
def byt (t : Int64) (k : Nat) : Nat := (t.toBitVec.toNat >>> (8 * k)) % 256
theorem tm_by_i (t : Int64) {k : Nat} (hk : k < 4) : (tm_by t (nI k)).toInt = byt t k := by
  have h1 : (tm_by t (nI k)).toBitVec = (t.toBitVec >>> (8 * k)) &&& 255#64 := by
    unfold tm_by
    rw [Int64.toBitVec_and, Int64.toBitVec_shiftRight, (sh_c k hk).1]
    show t.toBitVec.sshiftRight (BitVec.ofNat 64 (8 * k)).toNat &&& 255#64 = _
    rw [BitVec.toNat_ofNat, Nat.mod_eq_of_lt (by omega), bv_byte _ (by omega)]
  have h2 : (tm_by t (nI k)).toBitVec.toNat = byt t k := by
    rw [h1, BitVec.toNat_and, BitVec.toNat_ushiftRight, BitVec.toNat_ofNat, show 255 % 2 ^ 64 = 2 ^ 8 - 1 from rfl, Nat.and_two_pow_sub_one_eq_mod]
    rfl
  have h3 : byt t k < 256 := Nat.mod_lt _ (by decide)
  show (tm_by t (nI k)).toBitVec.toInt = _
  rw [BitVec.toInt_eq_toNat_of_lt (by rw [h2]; omega), h2]
theorem tw_ga_i (x : Int64) {k : Nat} (hk : k < 4) : (tw_ga x (nI k)).toInt = (byt x k : Int) - 1 := by
  have h1 : ((x.toUInt64 >>> ((kI 8 * nI k).toInt64.toUInt64 &&& Int64.toUInt64 63)).toInt64 &&& 255).toBitVec = (x.toBitVec >>> (8 * k)) &&& 255#64 := by
    rw [Int64.toBitVec_and]
    show (x.toUInt64 >>> ((kI 8 * nI k).toInt64.toUInt64 &&& Int64.toUInt64 63)).toBitVec &&& 255#64 = _
    rw [UInt64.toBitVec_shiftRight, (sh_c k hk).2]
    show x.toBitVec >>> (BitVec.ofNat 64 (8 * k)).toNat &&& 255#64 = _
    rw [BitVec.toNat_ofNat, Nat.mod_eq_of_lt (by omega)]
  have h3 : byt x k < 256 := Nat.mod_lt _ (by decide)
  have h2 : ((x.toUInt64 >>> ((kI 8 * nI k).toInt64.toUInt64 &&& Int64.toUInt64 63)).toInt64 &&& 255).toInt = byt x k := by
    have : ((x.toUInt64 >>> ((kI 8 * nI k).toInt64.toUInt64 &&& Int64.toUInt64 63)).toInt64 &&& 255).toBitVec.toNat = byt x k := by
      rw [h1, BitVec.toNat_and, BitVec.toNat_ushiftRight, BitVec.toNat_ofNat, show 255 % 2 ^ 64 = 2 ^ 8 - 1 from rfl, Nat.and_two_pow_sub_one_eq_mod]
      rfl
    show BitVec.toInt _ = _
    rw [BitVec.toInt_eq_toNat_of_lt (by rw [this]; omega), this]
  unfold tw_ga
  generalize (x.toUInt64 >>> ((kI 8 * nI k).toInt64.toUInt64 &&& Int64.toUInt64 63)).toInt64 &&& 255 = u at h2 ⊢
  have e : u.toInt32.toInt = byt x k := by rw [i3_of (by rw [h2]; omega) (by rw [h2]; omega), h2]
  rw [i3_sub (by rw [e, k1_i]; omega) (by rw [e, k1_i]; omega), e, k1_i]
theorem ga_by {t x : Int64} {k : Nat} (hk : k < 4) (h : byt t k = byt x k) : (tm_by t (nI k)).toInt32 - kI 1 = tw_ga x (nI k) ∧ (lg_cmp (tm_by t (nI k)) 0 = 0 ↔ tw_ga x (nI k) = kI (-1)) := by
  have e1 := tm_by_i t hk
  have e2 := tw_ga_i x hk
  have h3 : byt x k < 256 := Nat.mod_lt _ (by decide)
  rw [h] at e1
  have e3 : (tm_by t (nI k)).toInt32.toInt = byt x k := by rw [i3_of (by rw [e1]; omega) (by rw [e1]; omega), e1]
  have em : (kI (-1)).toInt = -1 := by decide
  refine ⟨i3_ext (by rw [i3_sub (by rw [e3, k1_i]; omega) (by rw [e3, k1_i]; omega), e3, k1_i, e2]), ?_⟩
  have e0 : (0 : Int64).toInt = 0 := by decide
  have hz : lg_cmp (tm_by t (nI k)) 0 = 0 ↔ byt x k = 0 := by
    unfold lg_cmp
    by_cases c : tm_by t (nI k) > 0
    · rw [if_pos c]
      have c2 : (0 : Int64) < tm_by t (nI k) := c
      rw [Int64.lt_iff_toInt_lt, e0, e1] at c2
      exact ⟨fun z => absurd z (by decide), fun z => by omega⟩
    · rw [if_neg c]
      have c2 : ¬ (0 : Int64) < tm_by t (nI k) := c
      rw [Int64.lt_iff_toInt_lt, e0, e1] at c2
      have c3 : tm_by t (nI k) = 0 := i6_ext (by rw [e1, e0]; omega)
      rw [if_pos c3]
      exact ⟨fun _ => by omega, fun _ => rfl⟩
  rw [hz]
  constructor
  · intro z
    exact i3_ext (by rw [e2, em, z]; rfl)
  · intro z
    rw [z, em] at e2
    omega
theorem tm_go_i {t x : Int64} {k w : Nat} (hk : k ≤ w) (hw : w ≤ 4) (hb : ∀ j, j < w → byt t j = byt x j) (hno : ∀ j, j < k → ¬ tw_ga x (nI j) = kI (-1)) : ∀ m j, j + m = k → tm_go t k w m j = if k < w then tw_ga x (nI k) else kI (-1) := by
  intro m
  induction m with
  | zero =>
    intro j hj
    show (if k < w then (tm_by t (nI k)).toInt32 - kI 1 else kI (-1)) = _
    by_cases c : k < w
    · rw [if_pos c, if_pos c, (ga_by (by omega) (hb k c)).1]
    · rw [if_neg c, if_neg c]
  | succ m ih =>
    intro j hj
    have h1 := (ga_by (t := t) (x := x) (k := j) (by omega) (hb j (by omega))).2
    rw [show tm_go t k w (m + 1) j = tm_go t k w m (j + 1) from if_neg (fun z => hno j (by omega) (h1.mp z))]
    exact ih (j + 1) (by omega)
theorem ga_neg {x : Int64} {k : Nat} (hk : k < 4) : tw_ga x (nI k) < 0 ↔ tw_ga x (nI k) = kI (-1) := by
  have e2 := tw_ga_i x hk
  have em : (kI (-1)).toInt = -1 := by decide
  rw [lt3, i3_0, e2]
  constructor
  · intro z; exact i3_ext (by rw [e2, em]; omega)
  · intro z; rw [z, em] at e2; omega
theorem len_eq {t x : Int64} {w : Nat} (hw : w ≤ 4) (hb : ∀ j, j < w → byt t j = byt x j) : ∀ m n, n + m = w → (∀ j, j < n → ¬ tw_ga x (nI j) = kI (-1)) → tm_ln t w m n = tw_len x m n := by
  intro m
  induction m with
  | zero => intro n _ _; rfl
  | succ m ih =>
    intro n hn hno
    have hg : tm_gof t n w = tw_ga x (nI n) := by
      show tm_go t n w n 0 = _
      rw [tm_go_i (by omega) hw hb hno n 0 (by omega), if_pos (by omega)]
    show (if tm_gof t n w < 0 then n else tm_ln t w m (n + 1)) = if tw_ga x (nI n) = kI (-1) then n else tw_len x m (n + 1)
    rw [hg]
    by_cases c : tw_ga x (nI n) = kI (-1)
    · rw [if_pos ((ga_neg (by omega)).mpr c), if_pos c]
    · rw [if_neg (fun z => c ((ga_neg (by omega)).mp z)), if_neg c]
      exact ih (n + 1) (by omega) (fun j hj => by
        by_cases e : j = n
        · rw [e]; exact c
        · exact hno j (by omega))
theorem tw_len_i (x : Int64) : ∀ m k, k ≤ tw_len x m k ∧ tw_len x m k ≤ k + m ∧ ∀ j, k ≤ j → j < tw_len x m k → ¬ tw_ga x (nI j) = kI (-1) := by
  intro m
  induction m with
  | zero => intro k; exact ⟨Nat.le_refl _, Nat.le_refl _, fun j h1 h2 => by have e : tw_len x 0 k = k := rfl; omega⟩
  | succ m ih =>
    intro k
    by_cases c : tw_ga x (nI k) = kI (-1)
    · rw [show tw_len x (m + 1) k = k from if_pos c]
      exact ⟨Nat.le_refl _, by omega, fun j h1 h2 => by omega⟩
    · rw [show tw_len x (m + 1) k = tw_len x m (k + 1) from if_neg c]
      obtain ⟨a, b, d⟩ := ih (k + 1)
      refine ⟨by omega, by omega, fun j h1 h2 => ?_⟩
      by_cases e : j = k
      · rw [e]; exact c
      · exact d j (by omega) h2
/-- a told row has the same length and the same glyphs on both sides -/
theorem word_eq {t x : Int64} {w : Nat} (hw : w ≤ 4) (hb : ∀ j, j < w → byt t j = byt x j) : tm_len t w = tw_len x w 0 ∧ tw_len x w 0 ≤ w ∧ ∀ k, k < tw_len x w 0 → tm_gof t k w = tw_ga x (nI k) ∧ ∃ v : Nat, tw_ga x (nI k) = nI v ∧ v < 256 := by
  obtain ⟨a, b, c⟩ := tw_len_i x w 0
  refine ⟨len_eq hw hb w 0 (by omega) (fun j hj => by omega), by omega, fun k hk => ⟨?_, ?_⟩⟩
  · show tm_go t k w k 0 = _
    rw [tm_go_i (by omega) hw hb (fun j hj => c j (by omega) (by omega)) k 0 (by omega), if_pos (by omega)]
  · have e2 := tw_ga_i x (show k < 4 by omega)
    have em : (kI (-1)).toInt = -1 := by decide
    have h3 : byt x k < 256 := Nat.mod_lt _ (by decide)
    have hz : ¬ byt x k = 0 := fun z => c k (by omega) hk (i3_ext (by rw [e2, em, z]; rfl))
    exact ⟨byt x k - 1, nI_tie (by omega) (by rw [e2]; omega), by omega⟩
theorem byt_and {x m : Int64} {b : Nat} (hm : m.toBitVec.toNat = 2 ^ b - 1) {k : Nat} (hk : 8 * k + 8 ≤ b) : byt (x &&& m) k = byt x k := by
  unfold byt
  rw [Int64.toBitVec_and, BitVec.toNat_and, hm, Nat.and_two_pow_sub_one_eq_mod]
  apply Nat.eq_of_testBit_eq
  intro i
  rw [show 256 = 2 ^ 8 from rfl, Nat.testBit_mod_two_pow, Nat.testBit_mod_two_pow, Nat.testBit_shiftRight, Nat.testBit_shiftRight, Nat.testBit_mod_two_pow]
  by_cases c : i < 8
  · rw [decide_eq_true (show 8 * k + i < b by omega), Bool.true_and]
  · rw [decide_eq_false c, Bool.false_and, Bool.false_and]
theorem byt_in (ip : Int64) : ∀ j, j < 4 → byt (ip &&& 4294967295) j = byt ip j := fun j hj => byt_and (b := 32) (by decide) (by omega)
theorem byt_be (be : Int64) : ∀ j, j < 2 → byt (be &&& 65535).toInt32.toInt64 j = byt be j := by
  intro j hj
  have h : (be &&& 65535).toInt32.toInt64 = be &&& 65535 := by
    have e : (be &&& 65535).toBitVec.toNat = be.toBitVec.toNat % 2 ^ 16 := by
      rw [Int64.toBitVec_and, BitVec.toNat_and, show (65535 : Int64).toBitVec.toNat = 2 ^ 16 - 1 by decide, Nat.and_two_pow_sub_one_eq_mod]
    have e2 := Nat.mod_lt be.toBitVec.toNat (show 0 < 2 ^ 16 by decide)
    have e3 : (be &&& 65535).toInt = (be.toBitVec.toNat % 2 ^ 16 : Nat) := by
      show BitVec.toInt _ = _
      rw [BitVec.toInt_eq_toNat_of_lt (by rw [e]; omega), e]
    refine i6_ext ?_
    rw [i6_of, i3_of (by rw [e3]; omega) (by rw [e3]; omega)]
  rw [h]
  exact byt_and (b := 16) (by decide) (by omega)
theorem row_eq {J : Nat → Int32} {n : Nat} (hn : n ≤ 40) (h2 : J 2 = nI n) {x : Int64} {w : Nat} (hw : w ≤ 4) : ∀ m k b, k + m = tw_len x w 0 → tm_row J x w m k b = (b && tw_isOf (nI n) x m k) := by
  obtain ⟨a, b0, c⟩ := word_eq (t := x) (x := x) hw (fun _ _ => rfl)
  intro m
  induction m with
  | zero => intro k b _; exact (Bool.and_true b).symm
  | succ m ih =>
    intro k b hk
    obtain ⟨d1, v, d2, d3⟩ := c k (by omega)
    show tm_row J x w m (k + 1) (b && tm_isG J (tm_gof x k w)) = (b && (if tw_ga x (nI k) < nI n then tw_isOf (nI n) x m (k + 1) else false))
    rw [ih (k + 1) _ (by omega), d1, Bool.and_assoc]
    congr 1
    by_cases e : tw_ga x (nI k) < nI n
    · rw [if_pos e]
      rw [d2, nI_ltI (by omega) (by omega)] at e
      rw [d2, (tm_isG_nI hn h2 (nI v)).mpr ⟨v, e, rfl⟩, Bool.true_and]
    · rw [if_neg e]
      rw [d2, nI_ltI (by omega) (by omega)] at e
      rw [d2, (tm_isG_no hn h2 (nI v)).mpr (fun i hi z => by rw [nI_eq (by omega) (by omega)] at z; omega), Bool.false_and]
/-- a rule may be told: asked alike -/
theorem made_eq {S : tc_S} {J : Nat → Int32} {A : Nat → Nat → Int32} {R : Nat → Int64} (h : RR S J A R) (be ip af : Int64) (ou : Int32) : tc_made be ip af ou S = true ↔ (tm_isG J ou = true ∧ ¬ nI (tm_len ip 4) ≤ 0 ∧ tm_row J be 2 (tm_len be 2) 0 true = true ∧ tm_row J ip 4 (tm_len ip 4) 0 true = true ∧ tm_row J af 2 (tm_len af 2) 0 true = true) := by
  have hn := h.2.1.1
  have h2 := h.2.1.2.1
  obtain ⟨a1, a2, _⟩ := word_eq (t := be) (x := be) (w := 2) (by omega) (fun _ _ => rfl)
  obtain ⟨b1, b2, _⟩ := word_eq (t := ip) (x := ip) (w := 4) (by omega) (fun _ _ => rfl)
  obtain ⟨c1, c2, _⟩ := word_eq (t := af) (x := af) (w := 2) (by omega) (fun _ _ => rfl)
  rw [a1, b1, c1, row_eq hn h2 (by omega) _ _ _ (Nat.zero_add _), row_eq hn h2 (by omega) _ _ _ (Nat.zero_add _), row_eq hn h2 (by omega) _ _ _ (Nat.zero_add _), Bool.true_and, Bool.true_and, Bool.true_and]
  have ho : tw_in ou (kI 0) (nI S.n - kI 1) = true ↔ tm_isG J ou = true := by
    rw [tm_isG_nI hn h2]
    have hM : (nI S.n).toInt = S.n := nI_toInt (by omega)
    have hm1 : (nI S.n - kI 1).toInt = S.n - 1 := by rw [i3_sub (by rw [hM, k1_i]; omega) (by rw [hM, k1_i]; omega), hM, k1_i]
    unfold tw_in
    rw [Bool.and_eq_true, decide_eq_true_eq, decide_eq_true_eq, le3, le3, kt0, hm1]
    constructor
    · intro q
      exact ⟨ou.toInt.toNat, by omega, nI_tie (by omega) (by omega)⟩
    · rintro ⟨i, hi, e⟩
      rw [e, nI_toInt (by omega)]
      omega
  have hl : (0 : Int32) < nI (tw_len ip 4 0) ↔ ¬ nI (tw_len ip 4 0) ≤ 0 := by rw [lt3, le3]; omega
  unfold tc_made
  rw [Bool.and_eq_true, Bool.and_eq_true, Bool.and_eq_true, Bool.and_eq_true, decide_eq_true_eq, ho, hl]
  constructor
  · rintro ⟨q1, q2, q3, q4, q5⟩
    exact ⟨q5, q1, q2, q3, q4⟩
  · rintro ⟨q5, q1, q2, q3, q4⟩
    exact ⟨q1, q2, q3, q4, q5⟩
theorem q_rule {S : tc_S} {J : Nat → Int32} {A : Nat → Nat → Int32} {R : Nat → Int64} (h : RR S J A R) (lo : Int32) {be ip af : Int64} {ou : Int32} (hm : tc_made be ip af ou S = true) (h40 : S.rn < 40) : RR (tc_ruleS lo be ip af ou S) (upd (upd J 0 (kI 0)) 47 (nI S.rn + kI 1)) (va_up (va_up (va_up (va_up A 42 (upd (A 42) S.rn lo)) 43 (upd (A 43) S.rn ou)) 44 (upd (A 44) S.rn (be &&& 65535).toInt32)) 46 (upd (A 46) S.rn (af &&& 65535).toInt32)) (vp_updL R S.rn (ip &&& 4294967295)) := by
  obtain ⟨m1, m2, _⟩ := (made_eq h be ip af ou).mp hm
  obtain ⟨o, ho, eo⟩ := (tm_isG_nI h.2.1.1 h.2.1.2.1 ou).mp m1
  obtain ⟨b1, b2, _⟩ := word_eq (t := ip) (x := ip) (w := 4) (by omega) (fun _ _ => rfl)
  rw [b1] at m2
  have hl : 1 ≤ tw_len ip 4 0 := by
    rcases Nat.eq_zero_or_pos (tw_len ip 4 0) with z | z
    · rw [z] at m2; exact absurd (by decide) m2
    · exact z
  obtain ⟨h1, h2, h3, h4, h5, h6, ⟨r1, r2, r3⟩, h8⟩ := h
  refine ⟨h1, h2, h3, h4, h5, h6, ⟨?_, ?_, fun j hj => ?_⟩, h8⟩
  · show S.rn + 1 ≤ 40
    omega
  · show nI S.rn + kI 1 = nI (S.rn + 1)
    exact (nI_succ _).symm
  · have hj2 : j < S.rn + 1 := hj
    show upd (A 42) S.rn lo j = (va_up S.R S.rn (lo, be, ip, af, ou) j).1 ∧ upd (A 43) S.rn ou j = (va_up S.R S.rn (lo, be, ip, af, ou) j).2.2.2.2 ∧ upd (A 44) S.rn (be &&& 65535).toInt32 j = ((va_up S.R S.rn (lo, be, ip, af, ou) j).2.1 &&& 65535).toInt32 ∧ vp_updL R S.rn (ip &&& 4294967295) j = (va_up S.R S.rn (lo, be, ip, af, ou) j).2.2.1 &&& 4294967295 ∧ upd (A 46) S.rn (af &&& 65535).toInt32 j = ((va_up S.R S.rn (lo, be, ip, af, ou) j).2.2.2.1 &&& 65535).toInt32 ∧ 1 ≤ tw_len (va_up S.R S.rn (lo, be, ip, af, ou) j).2.2.1 4 0 ∧ ∃ o, o < S.n ∧ (va_up S.R S.rn (lo, be, ip, af, ou) j).2.2.2.2 = nI o
    by_cases e : j = S.rn
    · subst e
      rw [va_up_self]
      exact ⟨if_pos rfl, if_pos rfl, if_pos rfl, if_pos rfl, if_pos rfl, hl, o, ho, eo⟩
    · rw [va_up_ne _ _ e]
      obtain ⟨a1, a2, a3, a4, a5, a6⟩ := r3 j (by omega)
      exact ⟨(if_neg e).trans a1, (if_neg e).trans a2, (if_neg e).trans a3, (if_neg e).trans a4, (if_neg e).trans a5, a6⟩
