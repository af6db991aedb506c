/-! both states: outline -/
theorem pk_nat {a b : Nat} (ha : a < 2 ^ 15) (hb : b < 2 ^ 16) : (nI a <<< (kI 16 &&& 31) ||| nI b).toBitVec.toNat = 65536 * a + b := by
  have e1 : (nI a).toBitVec.toNat = a := by
    show (BitVec.ofNat 32 a).toNat = a
    rw [BitVec.toNat_ofNat, Nat.mod_eq_of_lt (by omega)]
  have e2 : (nI b).toBitVec.toNat = b := by
    show (BitVec.ofNat 32 b).toNat = b
    rw [BitVec.toNat_ofNat, Nat.mod_eq_of_lt (by omega)]
  rw [Int32.toBitVec_or, Int32.toBitVec_shiftLeft, show (kI 16 &&& 31).toBitVec.smod 32 = 16#32 by decide, BitVec.toNat_or, e2]
  have e3 : ((nI a).toBitVec <<< 16#32).toNat = 2 ^ 16 * a := by
    show ((nI a).toBitVec <<< 16).toNat = _
    rw [BitVec.toNat_shiftLeft, e1, Nat.shiftLeft_eq, Nat.mod_eq_of_lt (by omega), Nat.mul_comm]
  rw [e3, ← Nat.two_pow_add_eq_or_of_lt hb]
theorem sft_nI {x : Int32} (h : tm_isP x = true) : ∃ a : Nat, x + kI 8192 = nI a ∧ a < 2 ^ 15 ∧ x.toInt = (a : Int) - 8192 := by
  have hx := isP_i.mp h
  have e8 : (kI 8192).toInt = 8192 := by decide
  have e : (x + kI 8192).toInt = x.toInt + 8192 := by rw [i3_add (by rw [e8]; omega) (by rw [e8]; omega), e8]
  exact ⟨(x.toInt + 8192).toNat, nI_tie (by omega) (by rw [e]; omega), by omega, by omega⟩
theorem unpk {x y : Int32} (hx : tm_isP x = true) (hy : tm_isP y = true) : ((tm_pk x y).toUInt32 >>> ((kI 16).toUInt32 &&& Int32.toUInt32 31)).toInt32 - kI 8192 = x ∧ (tm_pk x y &&& 65535) - kI 8192 = y := by
  obtain ⟨a, ea, ha, ta⟩ := sft_nI hx
  obtain ⟨b, eb, hb, tb⟩ := sft_nI hy
  have e8 : (kI 8192).toInt = 8192 := by decide
  have hv := pk_nat ha (show b < 2 ^ 16 by omega)
  unfold tm_pk
  rw [ea, eb]
  generalize nI a <<< (kI 16 &&& 31) ||| nI b = v at hv
  constructor
  · have h1 : (v.toUInt32 >>> ((kI 16).toUInt32 &&& Int32.toUInt32 31)).toInt32.toInt = a := by
      have h2 : (v.toUInt32 >>> ((kI 16).toUInt32 &&& Int32.toUInt32 31)).toBitVec.toNat = a := by
        rw [UInt32.toBitVec_shiftRight, show ((kI 16).toUInt32 &&& Int32.toUInt32 31).toBitVec % 32 = 16#32 by decide]
        show (v.toBitVec >>> 16).toNat = a
        rw [BitVec.toNat_ushiftRight, hv, Nat.shiftRight_eq_div_pow]
        omega
      show BitVec.toInt _ = _
      rw [BitVec.toInt_eq_toNat_of_lt (by rw [show (v.toUInt32 >>> ((kI 16).toUInt32 &&& Int32.toUInt32 31)).toInt32.toBitVec = (v.toUInt32 >>> ((kI 16).toUInt32 &&& Int32.toUInt32 31)).toBitVec from rfl, h2]; omega)]
      rw [show (v.toUInt32 >>> ((kI 16).toUInt32 &&& Int32.toUInt32 31)).toInt32.toBitVec = (v.toUInt32 >>> ((kI 16).toUInt32 &&& Int32.toUInt32 31)).toBitVec from rfl, h2]
    exact i3_ext (by rw [i3_sub (by rw [h1, e8]; omega) (by rw [h1, e8]; omega), h1, e8, ta])
  · have h1 : (v &&& 65535).toInt = b := by
      have h2 : (v &&& 65535).toBitVec.toNat = b := by
        rw [Int32.toBitVec_and, BitVec.toNat_and, hv, show (65535 : Int32).toBitVec.toNat = 2 ^ 16 - 1 by decide, Nat.and_two_pow_sub_one_eq_mod]
        omega
      show BitVec.toInt _ = _
      rw [BitVec.toInt_eq_toNat_of_lt (by rw [h2]; omega), h2]
    exact i3_ext (by rw [i3_sub (by rw [h1, e8]; omega) (by rw [h1, e8]; omega), h1, e8, tb])
/-- a point in the instance -/
theorem pnt_eq {S : tc_S} {J : Nat → Int32} {A : Nat → Nat → Int32} {R : Nat → Int64} (h : RR S J A R) {g i : Nat} (hg : g < S.n) (hi : i < (S.T g).pt) : tm_pnt J (A 3) (40 * g + i) = (tw_X (nI S.mm) S.u S.w (S.T g).X i, tw_X (nI S.mm) S.u S.w (S.T g).Y i) := by
  obtain ⟨h1, ⟨g1, g2, g3, g4⟩, h3⟩ := h
  obtain ⟨p1, p2, p3, p4, p5⟩ := (g3 g hg).1
  have hmm := h1.1
  have hp : ∀ k, k < S.mm → A 3 (4 * (40 * g + i) + k) = tm_pk ((S.T g).X (i * S.mm + k)) ((S.T g).Y (i * S.mm + k)) ∧ tm_isP ((S.T g).X (i * S.mm + k)) = true ∧ tm_isP ((S.T g).Y (i * S.mm + k)) = true := by
    intro k hk
    have := p3 i hi k hk
    rw [show 160 * g + 4 * i + k = 4 * (40 * g + i) + k by omega] at this
    exact this
  have hx : ∀ k, k < S.mm → tm_xo (A 3) (40 * g + i) k = (S.T g).X (i * S.mm + k) ∧ tm_yo (A 3) (40 * g + i) k = (S.T g).Y (i * S.mm + k) := by
    intro k hk
    obtain ⟨a, b, c⟩ := hp k hk
    unfold tm_xo tm_yo
    rw [a]
    exact unpk b c
  have hB : ∀ k, k < S.mm → iB 10000 ((S.T g).X (i * S.mm + k)) ∧ iB 10000 ((S.T g).Y (i * S.mm + k)) := by
    intro k hk
    obtain ⟨_, b, c⟩ := hp k hk
    have b' := isP_i.mp b
    have c' := isP_i.mp c
    exact ⟨⟨by omega, by omega⟩, by omega, by omega⟩
  have hm1 : 0 < S.mm := by rcases hmm with z | z | z <;> omega
  have h1m : ¬ S.mm = 1 → 1 < S.mm := fun hm => by rcases hmm with z | z | z <;> omega
  unfold tm_pnt tw_X
  have e1 := blend_eq h1 (p := i) (by omega) (g := (S.T g).X) (a := tm_xo (A 3) (40 * g + i) 0) (b := tm_xo (A 3) (40 * g + i) 1) (c := tm_xo (A 3) (40 * g + i) 2) (e := tm_xo (A 3) (40 * g + i) 3) (hx 0 hm1).1.symm (fun hm => ⟨(hx 1 (h1m hm)).1.symm, by rw [(hx 1 (h1m hm)).1]; exact (hB 1 (h1m hm)).1⟩) (fun hm => ⟨(hx 2 (by omega)).1.symm, (hx 3 (by omega)).1.symm⟩)
  have e2 := blend_eq h1 (p := i) (by omega) (g := (S.T g).Y) (a := tm_yo (A 3) (40 * g + i) 0) (b := tm_yo (A 3) (40 * g + i) 1) (c := tm_yo (A 3) (40 * g + i) 2) (e := tm_yo (A 3) (40 * g + i) 3) (hx 0 hm1).2.symm (fun hm => ⟨(hx 1 (h1m hm)).2.symm, by rw [(hx 1 (h1m hm)).2]; exact (hB 1 (h1m hm)).2⟩) (fun hm => ⟨(hx 2 (by omega)).2.symm, (hx 3 (by omega)).2.symm⟩)
  rw [e1, e2]
def rPn (S : tc_S) (g : Nat) : Nat := if g < S.n then (S.T g).pc else 0
def rPc (S : tc_S) (g k : Nat) : Nat := if g < S.n then (S.T g).src k else 0
def rTr (S : tc_S) (g k : Nat) : Nat := if g < S.n then (S.T g).tu k else 0
def rHt (S : tc_S) (g : Nat) : Nat := if g < S.n then (S.T g).dp else 0
def rKc (S : tc_S) (g : Nat) : Nat := if g < S.n then (S.T g).cp else 0
def rCc (S : tc_S) (g : Nat) : Nat := if g < S.n then (S.T g).ct else 0
theorem mark_i : ∀ v : Nat, v < 64 → tm_mc (nI v) = nI (v / 2) ∧ tm_mo (nI v) = nI (v % 2) := by decide
theorem o_rel {S : tc_S} {J : Nat → Int32} {A : Nat → Nat → Int32} {R : Nat → Int64} (h : RR S J A R) : oRel S J A (rPn S) (rPc S) (rTr S) (rKc S) (rCc S) := by
  refine ⟨fun g hg => if_pos hg, fun g hg k hk => ?_, fun g hg => ⟨if_pos hg, if_pos hg⟩, fun g hg i hi => ?_, fun g hg c hc k hk => ?_⟩
  · obtain ⟨_, ⟨_, _, g3, _⟩, _⟩ := h
    obtain ⟨a1, a2, a3, a4, _⟩ := (g3 g hg).2.2.1 k hk
    exact ⟨if_pos hg, if_pos hg, a2, a3⟩
  · obtain ⟨p1, p2, p3, p4, p5⟩ := (h.2.1.2.2.1 g hg).1
    refine ⟨pnt_eq h hg (by omega), ?_⟩
    obtain ⟨c, o, q1, q2, q3, q4, _⟩ := p4 i (by omega)
    have hct := (h.2.1.2.2.1 g hg).2.2.2.2.1.1
    rw [q3, q4, (mark_i (2 * c + o) (by omega)).2]
    congr 1
    omega
  · obtain ⟨p1, p2, p3, p4, p5⟩ := (h.2.1.2.2.1 g hg).1
    obtain ⟨c2, o, q1, q2, q3, q4, q5, q6⟩ := p4 k (by omega)
    have hct := (h.2.1.2.2.1 g hg).2.2.2.2.1.1
    rw [q3, (mark_i (2 * c2 + o) (by omega)).1, nI_eq (by omega) (by omega), show (2 * c2 + o) / 2 = c2 by omega]
    constructor
    · intro e
      subst e
      exact ⟨fun c0 hc0 => q5 c0 (by omega), q6 c2 (Nat.le_refl _) hc⟩
    · rintro ⟨z1, z2⟩
      rcases Nat.lt_trichotomy c2 c with z | z | z
      · have := z1 (c - 1) (by omega)
        have := q6 (c - 1) (by omega) (by omega)
        omega
      · exact z
      · have := q5 c z
        omega
theorem t_tree {S : tc_S} {J : Nat → Int32} {A : Nat → Nat → Int32} {R : Nat → Int64} (h : RR S J A R) : tm_tree A (rPn S) (rPc S) (rTr S) (rHt S) (rKc S) (rCc S) := by
  intro g hg40
  obtain ⟨_, ⟨g1, _, g3, g4⟩, _⟩ := h
  unfold rPn rKc rCc rHt
  by_cases hg : g < S.n
  · obtain ⟨⟨p1, p2, _⟩, ⟨n5, n6, n7, n9, n10, n11, n12⟩, c, _, o1, o2, o3, o4⟩ := g3 g hg
    rw [if_pos hg, if_pos hg, if_pos hg, if_pos hg]
    refine ⟨n12, o2.1, n6, by omega, n7, by have := o1.1; omega, o3, fun k hk => ?_⟩
    obtain ⟨a1, a2, a3, a4, _⟩ := c k hk
    obtain ⟨b1, b2, b3⟩ := o2.2.1 k hk
    have e1 : rPc S g k = (S.T g).src k := if_pos hg
    have e2 : rTr S g k = (S.T g).tu k := if_pos hg
    rw [e1, e2, if_pos b1]
    exact ⟨a1, by omega, b2, a4, b3⟩
  · obtain ⟨v5, v6, v7, v9, v10, v11, v12, v8⟩ := g4 g (by omega) hg40
    rw [if_neg hg, if_neg hg, if_neg hg, if_neg hg]
    exact ⟨v12, by omega, v6, by omega, v7, by omega, by omega, fun k hk => absurd hk (Nat.not_lt_zero _)⟩
/-- the outline, as the contracts ask for it -/
theorem q_out {S : tc_S} {J : Nat → Int32} {A : Nat → Nat → Int32} {R : Nat → Int64} (h : RR S J A R) {g : Nat} (hg : g < S.n) {xe : tm_OU} (hxe : xe = tm_sub (rPn S) (rPc S) (tm_tc J A (rTr S) (rKc S) (rCc S)) 5 0 (fun _ => g) (fun _ => 0) (A 19, A 20, A 21, A 22, 0, 0)) : xe.2.2.2.2.1 = (tc_out S g).1 ∧ xe.2.2.2.2.2 = (tc_out S g).2.1 ∧ (tc_out S g).1 = tc_op (S.T g) ∧ (tc_out S g).2.1 = tc_oc (S.T g) ∧ tc_op (S.T g) ≤ 160 ∧ ∀ z, z < (tc_out S g).1 → xe.1 z = (tc_out S g).2.2 0 z ∧ xe.2.1 z = (tc_out S g).2.2 1 z ∧ xe.2.2.1 z = (tc_out S g).2.2 2 z ∧ xe.2.2.2.1 z = (tc_out S g).2.2 4 z := by
  obtain ⟨a, b, c, d, e⟩ := out_eq (o_rel h) (rGl_G h) (rGl_O h) hg (h.2.1.2.2.1 g hg).2.2.2.2.2.2.1 h.2.2.2.2.2.2.2.2.2.2 (A 19, A 20, A 21, A 22, 0, 0) ⟨rfl, rfl⟩
  rw [← hxe] at a b e
  have o := (h.2.1.2.2.1 g hg).2.2.2.2
  refine ⟨a, b, c, d, ?_, e⟩
  have := o.1.2.1
  have := o.2.1.2.2.2.2
  unfold tc_op
  omega
theorem q_out3 {S : tc_S} {J : Nat → Int32} {A : Nat → Nat → Int32} {R : Nat → Int64} (h : RR S J A R) {g : Nat} (hg : g < S.n) : (tc_out S g).2.2 3 0 = nI 0 := by
  obtain ⟨st, s1, s2, s3, s4⟩ := out_st (rGl_G h) (rGl_O h) hg (h.2.1.2.2.1 g hg).2.2.2.2.2.2.1 h.2.2.2.2.2.2.2.2.2.2
  rw [(s3 0 (Nat.zero_le _)).1, s1]
/-- what tell writes concerns nobody -/
theorem RR_o3 {S : tc_S} {J J3 : Nat → Int32} {A A3 : Nat → Nat → Int32} {R : Nat → Int64} (h : RR S J A R) (h3 : tm_o3 J A J3 A3) {os : ou_ST} (ho : os.2.2 3 0 = nI 0) : RR (tc_wO S os) J3 A3 R ∧ RR S J3 A3 R := by
  obtain ⟨hJ, hA⟩ := h3
  have j1 := hJ 1 (by decide) (by decide) (by decide) (by decide) (by decide)
  have j2 := hJ 2 (by decide) (by decide) (by decide) (by decide) (by decide)
  have j17 := hJ 17 (by decide) (by decide) (by decide) (by decide) (by decide)
  have j18 := hJ 18 (by decide) (by decide) (by decide) (by decide) (by decide)
  have j30 := hJ 30 (by decide) (by decide) (by decide) (by decide) (by decide)
  have j32 := hJ 32 (by decide) (by decide) (by decide) (by decide) (by decide)
  have j41 := hJ 41 (by decide) (by decide) (by decide) (by decide) (by decide)
  have j47 := hJ 47 (by decide) (by decide) (by decide) (by decide) (by decide)
  have j48 := hJ 48 (by decide) (by decide) (by decide) (by decide) (by decide)
  have j50 := hJ 50 (by decide) (by decide) (by decide) (by decide) (by decide)
  have j52 := hJ 52 (by decide) (by decide) (by decide) (by decide) (by decide)
  have a : ∀ k, k ≠ 19 → k ≠ 20 → k ≠ 21 → k ≠ 22 → k ≠ 25 → k ≠ 26 → A3 k = A k := hA
  have a3 := hA 3 (by decide) (by decide) (by decide) (by decide) (by decide) (by decide)
  have a4 := hA 4 (by decide) (by decide) (by decide) (by decide) (by decide) (by decide)
  have a5 := hA 5 (by decide) (by decide) (by decide) (by decide) (by decide) (by decide)
  have a6 := hA 6 (by decide) (by decide) (by decide) (by decide) (by decide) (by decide)
  have a7 := hA 7 (by decide) (by decide) (by decide) (by decide) (by decide) (by decide)
  have a8 := hA 8 (by decide) (by decide) (by decide) (by decide) (by decide) (by decide)
  have a9 := hA 9 (by decide) (by decide) (by decide) (by decide) (by decide) (by decide)
  have a10 := hA 10 (by decide) (by decide) (by decide) (by decide) (by decide) (by decide)
  have a11 := hA 11 (by decide) (by decide) (by decide) (by decide) (by decide) (by decide)
  have a12 := hA 12 (by decide) (by decide) (by decide) (by decide) (by decide) (by decide)
  have a13 := hA 13 (by decide) (by decide) (by decide) (by decide) (by decide) (by decide)
  have a14 := hA 14 (by decide) (by decide) (by decide) (by decide) (by decide) (by decide)
  have a15 := hA 15 (by decide) (by decide) (by decide) (by decide) (by decide) (by decide)
  have a16 := hA 16 (by decide) (by decide) (by decide) (by decide) (by decide) (by decide)
  have a29 := hA 29 (by decide) (by decide) (by decide) (by decide) (by decide) (by decide)
  have a31 := hA 31 (by decide) (by decide) (by decide) (by decide) (by decide) (by decide)
  have a35 := hA 35 (by decide) (by decide) (by decide) (by decide) (by decide) (by decide)
  have a36 := hA 36 (by decide) (by decide) (by decide) (by decide) (by decide) (by decide)
  have a37 := hA 37 (by decide) (by decide) (by decide) (by decide) (by decide) (by decide)
  have a38 := hA 38 (by decide) (by decide) (by decide) (by decide) (by decide) (by decide)
  have a39 := hA 39 (by decide) (by decide) (by decide) (by decide) (by decide) (by decide)
  have a40 := hA 40 (by decide) (by decide) (by decide) (by decide) (by decide) (by decide)
  have a42 := hA 42 (by decide) (by decide) (by decide) (by decide) (by decide) (by decide)
  have a43 := hA 43 (by decide) (by decide) (by decide) (by decide) (by decide) (by decide)
  have a44 := hA 44 (by decide) (by decide) (by decide) (by decide) (by decide) (by decide)
  have a46 := hA 46 (by decide) (by decide) (by decide) (by decide) (by decide) (by decide)
  have a49 := hA 49 (by decide) (by decide) (by decide) (by decide) (by decide) (by decide)
  have a51 := hA 51 (by decide) (by decide) (by decide) (by decide) (by decide) (by decide)
  obtain ⟨h1, ⟨g1, g2, g3, g4⟩, h3, h4, h5, h6, h7, h8, h9, h10, h11⟩ := h
  have hall : rBl S.mm S.u S.w (J3 1) (J3 17) (J3 18) ∧ rGl S (J3 2) A3 ∧ rH S.hn S.hy (J3 30) (A3 29) ∧ rC S.ca S.ce (J3 32) (A3 31) ∧ rK S.kl S.kr S.kc (A3 35) (A3 36) (A3 37) (A3 38) ∧ rP S.n S.kp S.kL S.kR S.kO (J3 41) (A3 39) (A3 40) ∧ rR S.n S.rn S.R (J3 47) (A3 42) (A3 43) (A3 44) (A3 46) R ∧ rT S.n S.ts S.tx (J3 50) (A3 49) ∧ rT S.n S.rs S.row (J3 52) (A3 51) ∧ J3 48 = S.pu := by
    rw [j1, j2, j17, j18, j30, j32, j41, j47, j48, j50, j52, a29, a31, a35, a36, a37, a38, a39, a40, a42, a43, a44, a46, a49, a51]
    refine ⟨h1, ⟨g1, g2, fun g hg => ?_, fun g q1 q2 => ?_⟩, h3, h4, h5, h6, h7, h8, h9, h10⟩
    · rw [a3, a4, a5, a6, a7, a8, a9, a10, a11, a12, a13, a14, a15, a16]; exact g3 g hg
    · rw [a5, a6, a7, a8, a9, a10, a11, a12]; exact g4 g q1 q2
  obtain ⟨q1, q2, q3, q4, q5, q6, q7, q8, q9, q10⟩ := hall
  exact ⟨⟨q1, q2, q3, q4, q5, q6, q7, q8, q9, q10, ho⟩, ⟨q1, q2, q3, q4, q5, q6, q7, q8, q9, q10, h11⟩⟩
theorem outv_eq {S : tc_S} {J : Nat → Int32} {A : Nat → Nat → Int32} {R : Nat → Int64} (h : RR S J A R) {g : Nat} (hg : g < S.n) {xe : tm_OU} (hxe : xe = tm_sub (rPn S) (rPc S) (tm_tc J A (rTr S) (rKc S) (rCc S)) 5 0 (fun _ => g) (fun _ => 0) (A 19, A 20, A 21, A 22, 0, 0)) {j : Nat} (hj : j < xe.2.2.2.2.1) (w : Int32) : tc_outv (tc_out S g) j w = (if w = 0 then xe.1 j else if w = kI 1 then xe.2.1 j else if w = kI 2 then (if xe.2.2.1 j = 0 then kI 0 else kI 1) else xe.2.2.2.1 j) := by
  obtain ⟨a, b, c, d, e, f⟩ := q_out h hg hxe
  rw [a] at hj
  obtain ⟨f0, f1, f2, f4⟩ := f j hj
  unfold tc_outv
  rw [f0, f1, f2, f4, show kI 0 = 0 from rfl]
  by_cases w0 : w = 0
  · rw [if_pos w0, if_pos w0]
  rw [if_neg w0, if_neg w0]
  by_cases w1 : w = kI 1
  · rw [if_pos w1, if_pos w1]
  rw [if_neg w1, if_neg w1]
  by_cases w2 : w = kI 2
  · rw [if_pos w2, if_pos w2]
    by_cases z : (tc_out S g).2.2 2 j = 0
    · rw [if_pos z, decide_eq_false (fun q => q z)]; rfl
    · rw [if_neg z, decide_eq_true z]; rfl
  · rw [if_neg w2, if_neg w2]
theorem outw_eq {S : tc_S} {J : Nat → Int32} {A : Nat → Nat → Int32} {R : Nat → Int64} (h : RR S J A R) {g : Nat} (hg : g < S.n) {xe : tm_OU} (hxe : xe = tm_sub (rPn S) (rPc S) (tm_tc J A (rTr S) (rKc S) (rCc S)) 5 0 (fun _ => g) (fun _ => 0) (A 19, A 20, A 21, A 22, 0, 0)) (w : Int32) : tc_outw S g w = (if w = 0 then nI xe.2.2.2.2.1 else if w = kI 1 then nI xe.2.2.2.2.2 else if w = kI 2 then tm_wid J A g else A 10 g) := by
  obtain ⟨a, b, c, d, e, f⟩ := q_out h hg hxe
  have n := (h.2.1.2.2.1 g hg).2.1
  unfold tc_outw
  rw [a, b, c, d, wid_eq h hg, n.2.2.2.2.1, nI_add, nI_add, show kI 0 = 0 from rfl]
  rfl
