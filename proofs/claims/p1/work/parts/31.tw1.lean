/-! the reference: small methods -/
/-- what a method of the reference leaves: its answer, its world -/
abbrev tm_to (q : Nat → ClassId) (ad : Nat → Nat) (m : Nat) (W0 : tf_F) (L : List Nat) (v : Option Value) (J : Nat → Int32) (A : Nat → Nat → Int32) (R : Nat → Int64) : tf_O := fun w L2 f2 => w = v ∧ L2 = L ∧ tm_at q ad m W0 L J A R f2
def tm_isG (J : Nat → Int32) (g : Int32) : Bool := decide (¬ g < 0) && decide (¬ J 2 ≤ g)
def tm_glyph (J : Nat → Int32) : Int32 × (Nat → Int32) := if J 2 = kI 40 then (kI 0, upd J 0 (kI 1)) else (J 2 + kI 1 - kI 1, upd (upd J 0 (kI 0)) 2 (J 2 + kI 1))
def tw_i0 (x b : Int32) : Bool := decide (¬ x < 0) && decide (¬ b < x)
def tm_inst (J : Nat → Int32) (a b : Int32) : Bool × (Nat → Int32) := if (tw_i0 a (kI 1024) && tw_i0 b (kI 1024)) = true then (true, upd (upd (upd J 0 (kI 0)) 17 a) 18 b) else (false, upd J 0 (kI 0))
def tm_count (J : Nat → Int32) (k : Int32) : Int32 := if k = kI 0 then J 2 else if k = kI 1 then J 47 else if k = kI 2 then J 30 else if k = kI 3 then J 50 else if k = kI 4 then J 52 else if k = kI 5 then J 41 else if k = kI 6 then J 48 else kI (-1)
theorem tw_out7 (k : Int32) (h0 : ¬ k = kI 0) (h1 : ¬ k = kI 1) (h2 : ¬ k = kI 2) (h3 : ¬ k = kI 3) (h4 : ¬ k = kI 4) (h5 : ¬ k = kI 5) (h6 : ¬ k = kI 6) : k.toInt < 0 ∨ 6 < k.toInt := by
  have e : ∀ n : Int, 0 ≤ n → n ≤ 6 → k.toInt = n → k = kI n := fun n a b h => by
    apply Int32.toInt_inj.mp
    rw [h, Int32.toInt_ofInt]
    simp only [Int.bmod, Int32.size]
    omega
  by_cases a : k.toInt < 0
  · exact Or.inl a
  · refine Or.inr ?_
    by_cases b : 6 < k.toInt
    · exact b
    · exfalso
      rcases (show k.toInt = 0 ∨ k.toInt = 1 ∨ k.toInt = 2 ∨ k.toInt = 3 ∨ k.toInt = 4 ∨ k.toInt = 5 ∨ k.toInt = 6 by omega) with h | h | h | h | h | h | h
      · exact h0 (e 0 (by omega) (by omega) h)
      · exact h1 (e 1 (by omega) (by omega) h)
      · exact h2 (e 2 (by omega) (by omega) h)
      · exact h3 (e 3 (by omega) (by omega) h)
      · exact h4 (e 4 (by omega) (by omega) h)
      · exact h5 (e 5 (by omega) (by omega) h)
      · exact h6 (e 6 (by omega) (by omega) h)
def tm_isP (x : Int32) : Bool := decide (¬ x < kI (-2000)) && decide (¬ kI 4000 < x)
def tm_isS (x : Int32) : Bool := decide (¬ x < kI (-4000)) && decide (¬ kI 4000 < x)
def tm_isK (x : Int32) : Bool := decide (¬ x < kI (-1000)) && decide (¬ kI 1000 < x)
def tm_pk (x y : Int32) : Int32 := (x + kI 8192) <<< (kI 16 &&& 31) ||| (y + kI 8192)
section
variable (l : Launch) (D : va_G) (q : Nat → ClassId) (d : Nat) (L : List Nat) (f : tf_F) {ad : Nat → Nat} {m : Nat} {W0 : tf_F} {J : Nat → Int32} {A : Nat → Nat → Int32} {R : Nat → Int64}
set_option maxHeartbeats 4000000 in
set_option maxRecDepth 100000 in
theorem c_Mod_thrown (hT : tm_at q ad m W0 L J A R f)  : tf_C l (tf_H D q) d i_Mod_thrown [.ref m] L f 0 0 (tf_rd (.int (J 0)) L f) := by
  refine tf_C.of (tf_gok _ _) (by decide) w_1298 (Nat.le_of_ble_eq_true rfl) ?_
  refine tf_blk _ b_Mod_thrown_0 rfl ?_
  refine tm_get 4 d_Mod_thrown_1 rfl fl_Mod_123 hT rfl ?_
  refine tf_iret d_Mod_thrown_4 rfl ?_
  exact ⟨rfl, rfl, rfl⟩
set_option maxHeartbeats 4000000 in
set_option maxRecDepth 100000 in
theorem c_Mod_isGlyph (hT : tm_at q ad m W0 L J A R f) (g : Int32) : tf_C l (tf_H D q) d i_Mod_isGlyph [.ref m, .int g] L f 0 0 (tf_rd (.int (bI (tm_isG J g))) L f) := by
  refine tf_C.of (tf_gok _ _) (by decide) w_1310 (Nat.le_of_ble_eq_true rfl) ?_
  refine tf_blk _ b_Mod_isGlyph_0 rfl ?_
  refine tf_if_lt 16 4 d_Mod_isGlyph_1 rfl rfl (fun h1 => ?_) (fun h1 => ?_)
  · refine tf_blk _ b_Mod_isGlyph_16 rfl ?_
    refine tf_zret d_Mod_isGlyph_17 rfl (rfl) ?_
    exact ⟨by (simp only [tm_isG, h1, (Int32.not_le.mpr h1), not_true_eq_false, not_false_eq_true, decide_true, decide_false, Bool.false_and, Bool.and_false, Bool.true_and, Bool.and_true, Bool.or_false, Bool.false_or, Bool.or_true, Bool.true_or]; try rfl), rfl, rfl⟩
  · refine tf_blk _ b_Mod_isGlyph_4 rfl ?_
    refine tm_get 9 d_Mod_isGlyph_6 rfl fl_Mod_145 hT rfl ?_
    refine tf_ic_ge 16 12 d_Mod_isGlyph_9 rfl rfl (fun h9 => ?_) (fun h9 => ?_)
    · refine tf_blk _ b_Mod_isGlyph_16 rfl ?_
      refine tf_zret d_Mod_isGlyph_17 rfl (rfl) ?_
      exact ⟨by (simp only [tm_isG, h1, (Int32.not_lt.mp h1), h9, (Int32.not_lt.mpr h9), not_true_eq_false, not_false_eq_true, decide_true, decide_false, Bool.false_and, Bool.and_false, Bool.true_and, Bool.and_true, Bool.or_false, Bool.false_or, Bool.or_true, Bool.true_or]; try rfl), rfl, rfl⟩
    · refine tf_blk _ b_Mod_isGlyph_12 rfl ?_
      refine tf_goto 17 d_Mod_isGlyph_13 rfl ?_
      refine tf_zret d_Mod_isGlyph_17 rfl (rfl) ?_
      exact ⟨by (simp only [tm_isG, h1, (Int32.not_lt.mp h1), h9, (Int32.not_le.mp h9), not_true_eq_false, not_false_eq_true, decide_true, decide_false, Bool.false_and, Bool.and_false, Bool.true_and, Bool.and_true, Bool.or_false, Bool.false_or, Bool.or_true, Bool.true_or]; try rfl), rfl, rfl⟩
set_option maxHeartbeats 4000000 in
set_option maxRecDepth 100000 in
theorem c_Mod_isPlace (x : Int32) : tf_C l (tf_H D q) d i_Mod_isPlace [.int x] L f 0 0 (tf_rd (.int (bI (tm_isP x))) L f) := by
  refine tf_C.of (tf_gok _ _) (by decide) w_1313 (Nat.le_of_ble_eq_true rfl) ?_
  refine tf_blk _ b_Mod_isPlace_0 rfl ?_
  refine tf_ic_lt 18 7 d_Mod_isPlace_4 rfl rfl (fun h4 => ?_) (fun h4 => ?_)
  · refine tf_blk _ b_Mod_isPlace_18 rfl ?_
    refine tf_zret d_Mod_isPlace_19 rfl (rfl) ?_
    exact ⟨by (simp only [tm_isP, h4, (Int32.not_le.mpr h4), not_true_eq_false, not_false_eq_true, decide_true, decide_false, Bool.false_and, Bool.and_false, Bool.true_and, Bool.and_true, Bool.or_false, Bool.false_or, Bool.or_true, Bool.true_or]; try rfl), rfl, rfl⟩
  · refine tf_blk _ b_Mod_isPlace_7 rfl ?_
    refine tf_ic_gt 18 14 d_Mod_isPlace_11 rfl rfl (fun h11 => ?_) (fun h11 => ?_)
    · refine tf_blk _ b_Mod_isPlace_18 rfl ?_
      refine tf_zret d_Mod_isPlace_19 rfl (rfl) ?_
      exact ⟨by (simp only [tm_isP, h4, (Int32.not_lt.mp h4), h11, (Int32.not_le.mpr h11), not_true_eq_false, not_false_eq_true, decide_true, decide_false, Bool.false_and, Bool.and_false, Bool.true_and, Bool.and_true, Bool.or_false, Bool.false_or, Bool.or_true, Bool.true_or]; try rfl), rfl, rfl⟩
    · refine tf_blk _ b_Mod_isPlace_14 rfl ?_
      refine tf_goto 19 d_Mod_isPlace_15 rfl ?_
      refine tf_zret d_Mod_isPlace_19 rfl (rfl) ?_
      exact ⟨by (simp only [tm_isP, h4, (Int32.not_lt.mp h4), h11, (Int32.not_lt.mp h11), not_true_eq_false, not_false_eq_true, decide_true, decide_false, Bool.false_and, Bool.and_false, Bool.true_and, Bool.and_true, Bool.or_false, Bool.false_or, Bool.or_true, Bool.true_or]; try rfl), rfl, rfl⟩
set_option maxHeartbeats 4000000 in
set_option maxRecDepth 100000 in
theorem c_Mod_isShift (x : Int32) : tf_C l (tf_H D q) d i_Mod_isShift [.int x] L f 0 0 (tf_rd (.int (bI (tm_isS x))) L f) := by
  refine tf_C.of (tf_gok _ _) (by decide) w_1331 (Nat.le_of_ble_eq_true rfl) ?_
  refine tf_blk _ b_Mod_isShift_0 rfl ?_
  refine tf_ic_lt 18 7 d_Mod_isShift_4 rfl rfl (fun h4 => ?_) (fun h4 => ?_)
  · refine tf_blk _ b_Mod_isShift_18 rfl ?_
    refine tf_zret d_Mod_isShift_19 rfl (rfl) ?_
    exact ⟨by (simp only [tm_isS, h4, (Int32.not_le.mpr h4), not_true_eq_false, not_false_eq_true, decide_true, decide_false, Bool.false_and, Bool.and_false, Bool.true_and, Bool.and_true, Bool.or_false, Bool.false_or, Bool.or_true, Bool.true_or]; try rfl), rfl, rfl⟩
  · refine tf_blk _ b_Mod_isShift_7 rfl ?_
    refine tf_ic_gt 18 14 d_Mod_isShift_11 rfl rfl (fun h11 => ?_) (fun h11 => ?_)
    · refine tf_blk _ b_Mod_isShift_18 rfl ?_
      refine tf_zret d_Mod_isShift_19 rfl (rfl) ?_
      exact ⟨by (simp only [tm_isS, h4, (Int32.not_lt.mp h4), h11, (Int32.not_le.mpr h11), not_true_eq_false, not_false_eq_true, decide_true, decide_false, Bool.false_and, Bool.and_false, Bool.true_and, Bool.and_true, Bool.or_false, Bool.false_or, Bool.or_true, Bool.true_or]; try rfl), rfl, rfl⟩
    · refine tf_blk _ b_Mod_isShift_14 rfl ?_
      refine tf_goto 19 d_Mod_isShift_15 rfl ?_
      refine tf_zret d_Mod_isShift_19 rfl (rfl) ?_
      exact ⟨by (simp only [tm_isS, h4, (Int32.not_lt.mp h4), h11, (Int32.not_lt.mp h11), not_true_eq_false, not_false_eq_true, decide_true, decide_false, Bool.false_and, Bool.and_false, Bool.true_and, Bool.and_true, Bool.or_false, Bool.false_or, Bool.or_true, Bool.true_or]; try rfl), rfl, rfl⟩
set_option maxHeartbeats 4000000 in
set_option maxRecDepth 100000 in
theorem c_Mod_isKern (x : Int32) : tf_C l (tf_H D q) d i_Mod_isKern [.int x] L f 0 0 (tf_rd (.int (bI (tm_isK x))) L f) := by
  refine tf_C.of (tf_gok _ _) (by decide) w_1452 (Nat.le_of_ble_eq_true rfl) ?_
  refine tf_blk _ b_Mod_isKern_0 rfl ?_
  refine tf_ic_lt 18 7 d_Mod_isKern_4 rfl rfl (fun h4 => ?_) (fun h4 => ?_)
  · refine tf_blk _ b_Mod_isKern_18 rfl ?_
    refine tf_zret d_Mod_isKern_19 rfl (rfl) ?_
    exact ⟨by (simp only [tm_isK, h4, (Int32.not_le.mpr h4), not_true_eq_false, not_false_eq_true, decide_true, decide_false, Bool.false_and, Bool.and_false, Bool.true_and, Bool.and_true, Bool.or_false, Bool.false_or, Bool.or_true, Bool.true_or]; try rfl), rfl, rfl⟩
  · refine tf_blk _ b_Mod_isKern_7 rfl ?_
    refine tf_ic_gt 18 14 d_Mod_isKern_11 rfl rfl (fun h11 => ?_) (fun h11 => ?_)
    · refine tf_blk _ b_Mod_isKern_18 rfl ?_
      refine tf_zret d_Mod_isKern_19 rfl (rfl) ?_
      exact ⟨by (simp only [tm_isK, h4, (Int32.not_lt.mp h4), h11, (Int32.not_le.mpr h11), not_true_eq_false, not_false_eq_true, decide_true, decide_false, Bool.false_and, Bool.and_false, Bool.true_and, Bool.and_true, Bool.or_false, Bool.false_or, Bool.or_true, Bool.true_or]; try rfl), rfl, rfl⟩
    · refine tf_blk _ b_Mod_isKern_14 rfl ?_
      refine tf_goto 19 d_Mod_isKern_15 rfl ?_
      refine tf_zret d_Mod_isKern_19 rfl (rfl) ?_
      exact ⟨by (simp only [tm_isK, h4, (Int32.not_lt.mp h4), h11, (Int32.not_lt.mp h11), not_true_eq_false, not_false_eq_true, decide_true, decide_false, Bool.false_and, Bool.and_false, Bool.true_and, Bool.and_true, Bool.or_false, Bool.false_or, Bool.or_true, Bool.true_or]; try rfl), rfl, rfl⟩
set_option maxHeartbeats 4000000 in
set_option maxRecDepth 100000 in
theorem c_Mod_packed (x y : Int32) : tf_C l (tf_H D q) d i_Mod_packed [.int x, .int y] L f 0 0 (tf_rd (.int (tm_pk x y)) L f) := by
  refine tf_C.of (tf_gok _ _) (by decide) w_1316 (Nat.le_of_ble_eq_true rfl) ?_
  refine tf_blk _ b_Mod_packed_0 rfl ?_
  refine tf_iret d_Mod_packed_14 rfl ?_
  exact ⟨rfl, rfl, rfl⟩
set_option maxHeartbeats 4000000 in
set_option maxRecDepth 100000 in
theorem c_Mod_glyph (hT : tm_at q ad m W0 L J A R f)  : tf_C l (tf_H D q) d i_Mod_glyph [.ref m] L f 0 0 (tm_to q ad m W0 L (some (.int (tm_glyph J).1)) ((tm_glyph J).2) (A) (R)) := by
  refine tf_C.of (tf_gok _ _) (by decide) w_1302 (Nat.le_of_ble_eq_true rfl) ?_
  refine tf_blk _ b_Mod_glyph_0 rfl ?_
  refine tm_get 5 d_Mod_glyph_2 rfl fl_Mod_145 hT rfl ?_
  refine tf_blk _ b_Mod_glyph_5 rfl ?_
  refine tf_ic_ne 14 10 d_Mod_glyph_7 rfl rfl (fun h7 => ?_) (fun h7 => ?_)
  · refine tf_blk _ b_Mod_glyph_14 rfl ?_
    refine tm_put 18 d_Mod_glyph_15 rfl fw_Mod_123 hT (by decide) rfl rfl rfl (fun f hT => ?_)
    refine tf_blk _ b_Mod_glyph_18 rfl ?_
    refine tm_get 22 d_Mod_glyph_19 rfl fl_Mod_123 hT rfl ?_
    refine tf_if_le 27 25 d_Mod_glyph_22 rfl rfl (fun h22 => ?_) (fun h22 => absurd (show kI 0 ≤ 0 by decide) h22)
    refine tf_blk _ b_Mod_glyph_27 rfl ?_
    refine tm_get 32 d_Mod_glyph_29 rfl fl_Mod_145 hT rfl ?_
    refine tf_blk _ b_Mod_glyph_32 rfl ?_
    refine tm_put 37 d_Mod_glyph_34 rfl fw_Mod_145 hT (by decide) rfl rfl rfl (fun f hT => ?_)
    refine tf_blk _ b_Mod_glyph_37 rfl ?_
    refine tm_get 41 d_Mod_glyph_38 rfl fl_Mod_145 hT rfl ?_
    refine tf_blk _ b_Mod_glyph_41 rfl ?_
    refine tf_iret d_Mod_glyph_43 rfl ?_
    rw [tm_glyph, if_neg h7]
    exact ⟨rfl, rfl, hT⟩
  · refine tf_blk _ b_Mod_glyph_10 rfl ?_
    refine tf_goto 15 d_Mod_glyph_11 rfl ?_
    refine tm_put 18 d_Mod_glyph_15 rfl fw_Mod_123 hT (by decide) rfl rfl rfl (fun f hT => ?_)
    refine tf_blk _ b_Mod_glyph_18 rfl ?_
    refine tm_get 22 d_Mod_glyph_19 rfl fl_Mod_123 hT rfl ?_
    refine tf_if_le 27 25 d_Mod_glyph_22 rfl rfl (fun h22 => absurd h22 (show ¬ kI 1 ≤ 0 by decide)) (fun h22 => ?_)
    refine tf_blk _ b_Mod_glyph_25 rfl ?_
    refine tf_iret d_Mod_glyph_26 rfl ?_
    rw [tm_glyph, if_pos h7]
    exact ⟨rfl, rfl, hT⟩
set_option maxHeartbeats 4000000 in
set_option maxRecDepth 100000 in
theorem c_Mod_instance (hT : tm_at q ad m W0 L J A R f) (a b : Int32) : tf_C l (tf_H D q) d i_Mod_instance [.ref m, .int a, .int b] L f 0 0 (tm_to q ad m W0 L (some (.int (bI (tm_inst J a b).1))) ((tm_inst J a b).2) (A) (R)) := by
  refine tf_C.of (tf_gok _ _) (by decide) w_1343 (Nat.le_of_ble_eq_true rfl) ?_
  refine tf_blk _ b_Mod_instance_0 rfl ?_
  refine tm_put 5 d_Mod_instance_2 rfl fw_Mod_123 hT (by decide) rfl rfl rfl (fun f hT => ?_)
  refine tf_blk _ b_Mod_instance_5 rfl ?_
  refine tf_if_lt 27 9 d_Mod_instance_6 rfl rfl (fun h6 => ?_) (fun h6 => ?_)
  · refine tf_blk _ b_Mod_instance_27 rfl ?_
    refine tf_zret d_Mod_instance_28 rfl (rfl) ?_
    simp only [tm_inst, tw_i0, h6, (Int32.not_le.mpr h6), not_true_eq_false, not_false_eq_true, decide_true, decide_false, Bool.false_and, Bool.and_false, Bool.true_and, Bool.and_true, Bool.or_false, Bool.false_or, Bool.or_true, Bool.true_or, if_true, if_false, Bool.false_eq_true]
    exact ⟨rfl, rfl, hT⟩
  · refine tf_blk _ b_Mod_instance_9 rfl ?_
    refine tf_ic_gt 27 16 d_Mod_instance_13 rfl rfl (fun h13 => ?_) (fun h13 => ?_)
    · refine tf_blk _ b_Mod_instance_27 rfl ?_
      refine tf_zret d_Mod_instance_28 rfl (rfl) ?_
      simp only [tm_inst, tw_i0, h6, (Int32.not_lt.mp h6), h13, (Int32.not_le.mpr h13), not_true_eq_false, not_false_eq_true, decide_true, decide_false, Bool.false_and, Bool.and_false, Bool.true_and, Bool.and_true, Bool.or_false, Bool.false_or, Bool.or_true, Bool.true_or, if_true, if_false, Bool.false_eq_true]
      exact ⟨rfl, rfl, hT⟩
    · refine tf_blk _ b_Mod_instance_16 rfl ?_
      refine tf_if_lt 27 20 d_Mod_instance_17 rfl rfl (fun h17 => ?_) (fun h17 => ?_)
      · refine tf_blk _ b_Mod_instance_27 rfl ?_
        refine tf_zret d_Mod_instance_28 rfl (rfl) ?_
        simp only [tm_inst, tw_i0, h6, (Int32.not_lt.mp h6), h13, (Int32.not_lt.mp h13), h17, (Int32.not_le.mpr h17), not_true_eq_false, not_false_eq_true, decide_true, decide_false, Bool.false_and, Bool.and_false, Bool.true_and, Bool.and_true, Bool.or_false, Bool.false_or, Bool.or_true, Bool.true_or, if_true, if_false, Bool.false_eq_true]
        exact ⟨rfl, rfl, hT⟩
      · refine tf_blk _ b_Mod_instance_20 rfl ?_
        refine tf_ic_le 29 27 d_Mod_instance_24 rfl rfl (fun h24 => ?_) (fun h24 => ?_)
        · refine tf_blk _ b_Mod_instance_29 rfl ?_
          refine tm_put 34 d_Mod_instance_31 rfl fw_Mod_132 hT (by decide) rfl rfl rfl (fun f hT => ?_)
          refine tf_blk _ b_Mod_instance_34 rfl ?_
          refine tm_put 39 d_Mod_instance_36 rfl fw_Mod_135 hT (by decide) rfl rfl rfl (fun f hT => ?_)
          refine tf_blk _ b_Mod_instance_39 rfl ?_
          refine tf_zret d_Mod_instance_40 rfl (rfl) ?_
          simp only [tm_inst, tw_i0, h6, (Int32.not_lt.mp h6), h13, (Int32.not_lt.mp h13), h17, (Int32.not_lt.mp h17), h24, (Int32.not_lt.mpr h24), not_true_eq_false, not_false_eq_true, decide_true, decide_false, Bool.false_and, Bool.and_false, Bool.true_and, Bool.and_true, Bool.or_false, Bool.false_or, Bool.or_true, Bool.true_or, if_true, if_false, Bool.false_eq_true]
          exact ⟨rfl, rfl, hT⟩
        · refine tf_blk _ b_Mod_instance_27 rfl ?_
          refine tf_zret d_Mod_instance_28 rfl (rfl) ?_
          simp only [tm_inst, tw_i0, h6, (Int32.not_lt.mp h6), h13, (Int32.not_lt.mp h13), h17, (Int32.not_lt.mp h17), h24, (Int32.not_le.mp h24), not_true_eq_false, not_false_eq_true, decide_true, decide_false, Bool.false_and, Bool.and_false, Bool.true_and, Bool.and_true, Bool.or_false, Bool.false_or, Bool.or_true, Bool.true_or, if_true, if_false, Bool.false_eq_true]
          exact ⟨rfl, rfl, hT⟩
set_option maxHeartbeats 4000000 in
set_option maxRecDepth 100000 in
theorem c_Mod_count (hT : tm_at q ad m W0 L J A R f) (k : Int32) : tf_C l (tf_H D q) d i_Mod_count [.ref m, .int k] L f 0 0 (tm_to q ad m W0 L (some (.int (tm_count J k))) (upd J 0 (kI 0)) (A) (R)) := by
  refine tf_C.of (tf_gok _ _) (by decide) w_1512 (Nat.le_of_ble_eq_true rfl) ?_
  refine tf_blk _ b_Mod_count_0 rfl ?_
  refine tm_put 5 d_Mod_count_2 rfl fw_Mod_123 hT (by decide) rfl rfl rfl (fun f hT => ?_)
  refine tf_blk _ b_Mod_count_5 rfl ?_
  by_cases s6_0 : k = kI 0
  · refine tf_tabIn 48 d_Mod_count_6 (by rw [s6_0]; decide) (by rw [s6_0]; decide) (by rw [s6_0]; rfl) rfl ?_
    refine tf_blk _ b_Mod_count_48 rfl ?_
    refine tm_get 52 d_Mod_count_49 rfl fl_Mod_145 hT rfl ?_
    refine tf_iret d_Mod_count_52 rfl ?_
    simp only [tm_count, s6_0, if_true, if_false]
    exact ⟨rfl, rfl, hT⟩
  by_cases s6_1 : k = kI 1
  · refine tf_tabIn 53 d_Mod_count_6 (by rw [s6_1]; decide) (by rw [s6_1]; decide) (by rw [s6_1]; rfl) rfl ?_
    refine tf_blk _ b_Mod_count_53 rfl ?_
    refine tm_get 57 d_Mod_count_54 rfl fl_Mod_282 hT rfl ?_
    refine tf_iret d_Mod_count_57 rfl ?_
    simp only [tm_count, s6_0, s6_1, if_true, if_false]
    exact ⟨rfl, rfl, hT⟩
  by_cases s6_2 : k = kI 2
  · refine tf_tabIn 58 d_Mod_count_6 (by rw [s6_2]; decide) (by rw [s6_2]; decide) (by rw [s6_2]; rfl) rfl ?_
    refine tf_blk _ b_Mod_count_58 rfl ?_
    refine tm_get 62 d_Mod_count_59 rfl fl_Mod_203 hT rfl ?_
    refine tf_iret d_Mod_count_62 rfl ?_
    simp only [tm_count, s6_0, s6_1, s6_2, if_true, if_false]
    exact ⟨rfl, rfl, hT⟩
  by_cases s6_3 : k = kI 3
  · refine tf_tabIn 63 d_Mod_count_6 (by rw [s6_3]; decide) (by rw [s6_3]; decide) (by rw [s6_3]; rfl) rfl ?_
    refine tf_blk _ b_Mod_count_63 rfl ?_
    refine tm_get 67 d_Mod_count_64 rfl fl_Mod_289 hT rfl ?_
    refine tf_iret d_Mod_count_67 rfl ?_
    simp only [tm_count, s6_0, s6_1, s6_2, s6_3, if_true, if_false]
    exact ⟨rfl, rfl, hT⟩
  by_cases s6_4 : k = kI 4
  · refine tf_tabIn 68 d_Mod_count_6 (by rw [s6_4]; decide) (by rw [s6_4]; decide) (by rw [s6_4]; rfl) rfl ?_
    refine tf_blk _ b_Mod_count_68 rfl ?_
    refine tm_get 72 d_Mod_count_69 rfl fl_Mod_292 hT rfl ?_
    refine tf_iret d_Mod_count_72 rfl ?_
    simp only [tm_count, s6_0, s6_1, s6_2, s6_3, s6_4, if_true, if_false]
    exact ⟨rfl, rfl, hT⟩
  by_cases s6_5 : k = kI 5
  · refine tf_tabIn 73 d_Mod_count_6 (by rw [s6_5]; decide) (by rw [s6_5]; decide) (by rw [s6_5]; rfl) rfl ?_
    refine tf_blk _ b_Mod_count_73 rfl ?_
    refine tm_get 77 d_Mod_count_74 rfl fl_Mod_264 hT rfl ?_
    refine tf_iret d_Mod_count_77 rfl ?_
    simp only [tm_count, s6_0, s6_1, s6_2, s6_3, s6_4, s6_5, if_true, if_false]
    exact ⟨rfl, rfl, hT⟩
  by_cases s6_6 : k = kI 6
  · refine tf_tabIn 78 d_Mod_count_6 (by rw [s6_6]; decide) (by rw [s6_6]; decide) (by rw [s6_6]; rfl) rfl ?_
    refine tf_blk _ b_Mod_count_78 rfl ?_
    refine tm_get 82 d_Mod_count_79 rfl fl_Mod_303 hT rfl ?_
    refine tf_iret d_Mod_count_82 rfl ?_
    simp only [tm_count, s6_0, s6_1, s6_2, s6_3, s6_4, s6_5, s6_6, if_true, if_false]
    exact ⟨rfl, rfl, hT⟩
  refine tf_tabOut 83 d_Mod_count_6 (tw_out7 k s6_0 s6_1 s6_2 s6_3 s6_4 s6_5 s6_6) rfl ?_
  refine tf_blk _ b_Mod_count_83 rfl ?_
  refine tf_iret d_Mod_count_84 rfl ?_
  simp only [tm_count, s6_0, s6_1, s6_2, s6_3, s6_4, s6_5, s6_6, if_true, if_false]
  exact ⟨rfl, rfl, hT⟩
end
