/-! Glyph, Part, Setter, Rule: small methods -/
theorem tf_n1 {f : tf_F} {a b : Nat} {x : Nat × List Value} {y : ClassId × vp_A} (h1 : f a = .inr x) (h2 : f b = .inl y) : a ≠ b := fun e => by rw [e, h2] at h1; cases h1
theorem tf_n2 {f : tf_F} {a b : Nat} {x : Nat × List Value} {y : ClassId × vp_A} (h1 : f a = .inl y) (h2 : f b = .inr x) : a ≠ b := fun e => by rw [e, h2] at h1; cases h1
section
variable (l : Launch) (D : va_G) (q : Nat → ClassId) (d : Nat) (L : List Nat) (f : tf_F)
set_option maxHeartbeats 4000000 in
set_option maxRecDepth 100000 in
theorem c_Glyph_outlinePoints {a : Nat} {v0 v1 v2 v3 v4 v5 v14 : Value} {pt ct dp lk ms cp pc pp ps : Int32} (ha : a ∈ L) (fa : f a = to 3 [v0, v1, v2, v3, v4, v5, .int pt, .int ct, .int dp, .int lk, .int ms, .int cp, .int pc, .int pp, .int ps]) : tf_C l (tf_H D q) d i_Glyph_outlinePoints [.ref a] L f 0 0 (tf_rd (.int (cp + pp)) L f) := by
  refine tf_C.of (tf_gok _ _) (by decide) w_590 (Nat.le_of_ble_eq_true rfl) ?_
  refine tf_blk _ b_Glyph_outlinePoints_0 rfl ?_
  refine tf_get (fs := ?fs_1_1) (v := ?v_1_1) 4 d_Glyph_outlinePoints_1 rfl fl_Glyph_49 ?ha_1_1 ?hf_1_1 ?hv_1_1 ?kk_1_1
  case ha_1_1 => first | assumption | (simp only [List.mem_append, List.mem_singleton]; simp [*])
  case hf_1_1 => first | assumption | exact va_up_self _ _ _ | (refine tf_u (by first | assumption | (apply Ne.symm; assumption) | (intro hh; subst hh; contradiction) | exact tf_n1 (by assumption) (by assumption) | exact tf_n2 (by assumption) (by assumption)) ?_; first | assumption | exact va_up_self _ _ _ | (refine tf_u (by first | assumption | (apply Ne.symm; assumption) | (intro hh; subst hh; contradiction) | exact tf_n1 (by assumption) (by assumption) | exact tf_n2 (by assumption) (by assumption)) ?_; first | assumption | exact va_up_self _ _ _ | (refine tf_u (by first | assumption | (apply Ne.symm; assumption) | (intro hh; subst hh; contradiction) | exact tf_n1 (by assumption) (by assumption) | exact tf_n2 (by assumption) (by assumption)) ?_; first | assumption | exact va_up_self _ _ _ | (refine tf_u (by first | assumption | (apply Ne.symm; assumption) | (intro hh; subst hh; contradiction) | exact tf_n1 (by assumption) (by assumption) | exact tf_n2 (by assumption) (by assumption)) ?_; first | assumption | exact va_up_self _ _ _ | (refine tf_u (by first | assumption | (apply Ne.symm; assumption) | (intro hh; subst hh; contradiction) | exact tf_n1 (by assumption) (by assumption) | exact tf_n2 (by assumption) (by assumption)) ?_; first | assumption | exact va_up_self _ _ _)))))
  case hv_1_1 => rfl
  refine tf_blk _ b_Glyph_outlinePoints_4 rfl ?_
  refine tf_get (fs := ?fs_5_2) (v := ?v_5_2) 8 d_Glyph_outlinePoints_5 rfl fl_Glyph_61 ?ha_5_2 ?hf_5_2 ?hv_5_2 ?kk_5_2
  case ha_5_2 => first | assumption | (simp only [List.mem_append, List.mem_singleton]; simp [*])
  case hf_5_2 => first | assumption | exact va_up_self _ _ _ | (refine tf_u (by first | assumption | (apply Ne.symm; assumption) | (intro hh; subst hh; contradiction) | exact tf_n1 (by assumption) (by assumption) | exact tf_n2 (by assumption) (by assumption)) ?_; first | assumption | exact va_up_self _ _ _ | (refine tf_u (by first | assumption | (apply Ne.symm; assumption) | (intro hh; subst hh; contradiction) | exact tf_n1 (by assumption) (by assumption) | exact tf_n2 (by assumption) (by assumption)) ?_; first | assumption | exact va_up_self _ _ _ | (refine tf_u (by first | assumption | (apply Ne.symm; assumption) | (intro hh; subst hh; contradiction) | exact tf_n1 (by assumption) (by assumption) | exact tf_n2 (by assumption) (by assumption)) ?_; first | assumption | exact va_up_self _ _ _ | (refine tf_u (by first | assumption | (apply Ne.symm; assumption) | (intro hh; subst hh; contradiction) | exact tf_n1 (by assumption) (by assumption) | exact tf_n2 (by assumption) (by assumption)) ?_; first | assumption | exact va_up_self _ _ _ | (refine tf_u (by first | assumption | (apply Ne.symm; assumption) | (intro hh; subst hh; contradiction) | exact tf_n1 (by assumption) (by assumption) | exact tf_n2 (by assumption) (by assumption)) ?_; first | assumption | exact va_up_self _ _ _)))))
  case hv_5_2 => rfl
  refine tf_blk _ b_Glyph_outlinePoints_8 rfl ?_
  refine tf_iret d_Glyph_outlinePoints_9 rfl ?_
  exact ⟨rfl, rfl, rfl⟩
set_option maxHeartbeats 4000000 in
set_option maxRecDepth 100000 in
theorem c_Glyph_outlineContours {a : Nat} {v0 v1 v2 v3 v4 v5 v14 : Value} {pt ct dp lk ms cp pc pp ps : Int32} (ha : a ∈ L) (fa : f a = to 3 [v0, v1, v2, v3, v4, v5, .int pt, .int ct, .int dp, .int lk, .int ms, .int cp, .int pc, .int pp, .int ps]) : tf_C l (tf_H D q) d i_Glyph_outlineContours [.ref a] L f 0 0 (tf_rd (.int (ct + ps)) L f) := by
  refine tf_C.of (tf_gok _ _) (by decide) w_623 (Nat.le_of_ble_eq_true rfl) ?_
  refine tf_blk _ b_Glyph_outlineContours_0 rfl ?_
  refine tf_get (fs := ?fs_1_4) (v := ?v_1_4) 4 d_Glyph_outlineContours_1 rfl fl_Glyph_52 ?ha_1_4 ?hf_1_4 ?hv_1_4 ?kk_1_4
  case ha_1_4 => first | assumption | (simp only [List.mem_append, List.mem_singleton]; simp [*])
  case hf_1_4 => first | assumption | exact va_up_self _ _ _ | (refine tf_u (by first | assumption | (apply Ne.symm; assumption) | (intro hh; subst hh; contradiction) | exact tf_n1 (by assumption) (by assumption) | exact tf_n2 (by assumption) (by assumption)) ?_; first | assumption | exact va_up_self _ _ _ | (refine tf_u (by first | assumption | (apply Ne.symm; assumption) | (intro hh; subst hh; contradiction) | exact tf_n1 (by assumption) (by assumption) | exact tf_n2 (by assumption) (by assumption)) ?_; first | assumption | exact va_up_self _ _ _ | (refine tf_u (by first | assumption | (apply Ne.symm; assumption) | (intro hh; subst hh; contradiction) | exact tf_n1 (by assumption) (by assumption) | exact tf_n2 (by assumption) (by assumption)) ?_; first | assumption | exact va_up_self _ _ _ | (refine tf_u (by first | assumption | (apply Ne.symm; assumption) | (intro hh; subst hh; contradiction) | exact tf_n1 (by assumption) (by assumption) | exact tf_n2 (by assumption) (by assumption)) ?_; first | assumption | exact va_up_self _ _ _ | (refine tf_u (by first | assumption | (apply Ne.symm; assumption) | (intro hh; subst hh; contradiction) | exact tf_n1 (by assumption) (by assumption) | exact tf_n2 (by assumption) (by assumption)) ?_; first | assumption | exact va_up_self _ _ _)))))
  case hv_1_4 => rfl
  refine tf_blk _ b_Glyph_outlineContours_4 rfl ?_
  refine tf_get (fs := ?fs_5_5) (v := ?v_5_5) 8 d_Glyph_outlineContours_5 rfl fl_Glyph_72 ?ha_5_5 ?hf_5_5 ?hv_5_5 ?kk_5_5
  case ha_5_5 => first | assumption | (simp only [List.mem_append, List.mem_singleton]; simp [*])
  case hf_5_5 => first | assumption | exact va_up_self _ _ _ | (refine tf_u (by first | assumption | (apply Ne.symm; assumption) | (intro hh; subst hh; contradiction) | exact tf_n1 (by assumption) (by assumption) | exact tf_n2 (by assumption) (by assumption)) ?_; first | assumption | exact va_up_self _ _ _ | (refine tf_u (by first | assumption | (apply Ne.symm; assumption) | (intro hh; subst hh; contradiction) | exact tf_n1 (by assumption) (by assumption) | exact tf_n2 (by assumption) (by assumption)) ?_; first | assumption | exact va_up_self _ _ _ | (refine tf_u (by first | assumption | (apply Ne.symm; assumption) | (intro hh; subst hh; contradiction) | exact tf_n1 (by assumption) (by assumption) | exact tf_n2 (by assumption) (by assumption)) ?_; first | assumption | exact va_up_self _ _ _ | (refine tf_u (by first | assumption | (apply Ne.symm; assumption) | (intro hh; subst hh; contradiction) | exact tf_n1 (by assumption) (by assumption) | exact tf_n2 (by assumption) (by assumption)) ?_; first | assumption | exact va_up_self _ _ _ | (refine tf_u (by first | assumption | (apply Ne.symm; assumption) | (intro hh; subst hh; contradiction) | exact tf_n1 (by assumption) (by assumption) | exact tf_n2 (by assumption) (by assumption)) ?_; first | assumption | exact va_up_self _ _ _)))))
  case hv_5_5 => rfl
  refine tf_blk _ b_Glyph_outlineContours_8 rfl ?_
  refine tf_iret d_Glyph_outlineContours_9 rfl ?_
  exact ⟨rfl, rfl, rfl⟩
set_option maxHeartbeats 4000000 in
set_option maxRecDepth 100000 in
theorem c_Part_isMirrored {a : Nat} {s : Value} {x y t : Int32} (ha : a ∈ L) (fa : f a = to 7 [s, .int x, .int y, .int t]) : tf_C l (tf_H D q) d i_Part_isMirrored [.ref a] L f 0 0 (tf_rd (.int (bI (decide (¬ t < kI 4)))) L f) := by
  refine tf_C.of (tf_gok _ _) (by decide) w_675 (Nat.le_of_ble_eq_true rfl) ?_
  refine tf_blk _ b_Part_isMirrored_0 rfl ?_
  refine tf_get (fs := ?fs_1_7) (v := ?v_1_7) 4 d_Part_isMirrored_1 rfl fl_Part_22 ?ha_1_7 ?hf_1_7 ?hv_1_7 ?kk_1_7
  case ha_1_7 => first | assumption | (simp only [List.mem_append, List.mem_singleton]; simp [*])
  case hf_1_7 => first | assumption | exact va_up_self _ _ _ | (refine tf_u (by first | assumption | (apply Ne.symm; assumption) | (intro hh; subst hh; contradiction) | exact tf_n1 (by assumption) (by assumption) | exact tf_n2 (by assumption) (by assumption)) ?_; first | assumption | exact va_up_self _ _ _ | (refine tf_u (by first | assumption | (apply Ne.symm; assumption) | (intro hh; subst hh; contradiction) | exact tf_n1 (by assumption) (by assumption) | exact tf_n2 (by assumption) (by assumption)) ?_; first | assumption | exact va_up_self _ _ _ | (refine tf_u (by first | assumption | (apply Ne.symm; assumption) | (intro hh; subst hh; contradiction) | exact tf_n1 (by assumption) (by assumption) | exact tf_n2 (by assumption) (by assumption)) ?_; first | assumption | exact va_up_self _ _ _ | (refine tf_u (by first | assumption | (apply Ne.symm; assumption) | (intro hh; subst hh; contradiction) | exact tf_n1 (by assumption) (by assumption) | exact tf_n2 (by assumption) (by assumption)) ?_; first | assumption | exact va_up_self _ _ _ | (refine tf_u (by first | assumption | (apply Ne.symm; assumption) | (intro hh; subst hh; contradiction) | exact tf_n1 (by assumption) (by assumption) | exact tf_n2 (by assumption) (by assumption)) ?_; first | assumption | exact va_up_self _ _ _)))))
  case hv_1_7 => rfl
  refine tf_blk _ b_Part_isMirrored_4 rfl ?_
  refine tf_ic_lt 12 8 d_Part_isMirrored_5 rfl rfl (fun h5 => ?_) (fun h5 => ?_)
  · refine tf_blk _ b_Part_isMirrored_12 rfl ?_
    refine tf_zret d_Part_isMirrored_13 rfl (rfl) ?_
    exact ⟨by (simp only [bI, h5, (Int32.not_le.mpr h5), not_true_eq_false, not_false_eq_true, decide_true, decide_false, Bool.false_and, Bool.and_false, Bool.true_and, Bool.and_true, Bool.or_false, Bool.false_or, Bool.or_true, Bool.true_or]; try rfl), rfl, rfl⟩
  · refine tf_blk _ b_Part_isMirrored_8 rfl ?_
    refine tf_goto 13 d_Part_isMirrored_9 rfl ?_
    refine tf_zret d_Part_isMirrored_13 rfl (rfl) ?_
    exact ⟨by (simp only [bI, h5, (Int32.not_lt.mp h5), not_true_eq_false, not_false_eq_true, decide_true, decide_false, Bool.false_and, Bool.and_false, Bool.true_and, Bool.and_true, Bool.or_false, Bool.false_or, Bool.or_true, Bool.true_or]; try rfl), rfl, rfl⟩
set_option maxHeartbeats 4000000 in
set_option maxRecDepth 100000 in
theorem c_Part_init (hd : 1 ≤ d) {a s : Nat} (x y t : Int32) (ha : a ∈ L) (fa : f a = to 7 [.null, .int 0, .int 0, .int 0]) : tf_C l (tf_H D q) d i_Part_init [.ref a, .ref s, .int x, .int y, .int t] L f 0 0 (fun v L2 f2 => v = none ∧ L2 = L ∧ f2 = va_up f a (to 7 [.ref s, .int x, .int y, .int t])) := by
  refine tf_C.of (tf_gok _ _) (by decide) w_596 (Nat.le_of_ble_eq_true rfl) ?_
  refine tf_blk _ b_Part_init_0 rfl ?_
  refine tf_obj 4 d_Part_init_1 rfl w_597 wi_obj wc_obj (by omega) (by decide) ?_
  refine tf_blk _ b_Part_init_4 rfl ?_
  refine tf_putF (fs := ?fs_6_11) 9 d_Part_init_6 rfl ff_Part_9 rfl ?ha_6_11 ?hf_6_11 ?hl_6_11 ?hn_6_11 ?ht_6_11 ?kk_6_11
  case ha_6_11 => first | assumption | (simp only [List.mem_append, List.mem_singleton]; simp [*])
  case hf_6_11 => first | assumption | exact va_up_self _ _ _ | (refine tf_u (by first | assumption | (apply Ne.symm; assumption) | (intro hh; subst hh; contradiction) | exact tf_n1 (by assumption) (by assumption) | exact tf_n2 (by assumption) (by assumption)) ?_; first | assumption | exact va_up_self _ _ _ | (refine tf_u (by first | assumption | (apply Ne.symm; assumption) | (intro hh; subst hh; contradiction) | exact tf_n1 (by assumption) (by assumption) | exact tf_n2 (by assumption) (by assumption)) ?_; first | assumption | exact va_up_self _ _ _ | (refine tf_u (by first | assumption | (apply Ne.symm; assumption) | (intro hh; subst hh; contradiction) | exact tf_n1 (by assumption) (by assumption) | exact tf_n2 (by assumption) (by assumption)) ?_; first | assumption | exact va_up_self _ _ _ | (refine tf_u (by first | assumption | (apply Ne.symm; assumption) | (intro hh; subst hh; contradiction) | exact tf_n1 (by assumption) (by assumption) | exact tf_n2 (by assumption) (by assumption)) ?_; first | assumption | exact va_up_self _ _ _ | (refine tf_u (by first | assumption | (apply Ne.symm; assumption) | (intro hh; subst hh; contradiction) | exact tf_n1 (by assumption) (by assumption) | exact tf_n2 (by assumption) (by assumption)) ?_; first | assumption | exact va_up_self _ _ _)))))
  case hl_6_11 => exact Nat.le_of_ble_eq_true rfl
  case hn_6_11 => rfl
  case ht_6_11 => rfl
  refine tf_blk _ b_Part_init_9 rfl ?_
  refine tf_putF (fs := ?fs_11_12) 14 d_Part_init_11 rfl ff_Part_15 rfl ?ha_11_12 ?hf_11_12 ?hl_11_12 ?hn_11_12 ?ht_11_12 ?kk_11_12
  case ha_11_12 => first | assumption | (simp only [List.mem_append, List.mem_singleton]; simp [*])
  case hf_11_12 => first | assumption | exact va_up_self _ _ _ | (refine tf_u (by first | assumption | (apply Ne.symm; assumption) | (intro hh; subst hh; contradiction) | exact tf_n1 (by assumption) (by assumption) | exact tf_n2 (by assumption) (by assumption)) ?_; first | assumption | exact va_up_self _ _ _ | (refine tf_u (by first | assumption | (apply Ne.symm; assumption) | (intro hh; subst hh; contradiction) | exact tf_n1 (by assumption) (by assumption) | exact tf_n2 (by assumption) (by assumption)) ?_; first | assumption | exact va_up_self _ _ _ | (refine tf_u (by first | assumption | (apply Ne.symm; assumption) | (intro hh; subst hh; contradiction) | exact tf_n1 (by assumption) (by assumption) | exact tf_n2 (by assumption) (by assumption)) ?_; first | assumption | exact va_up_self _ _ _ | (refine tf_u (by first | assumption | (apply Ne.symm; assumption) | (intro hh; subst hh; contradiction) | exact tf_n1 (by assumption) (by assumption) | exact tf_n2 (by assumption) (by assumption)) ?_; first | assumption | exact va_up_self _ _ _ | (refine tf_u (by first | assumption | (apply Ne.symm; assumption) | (intro hh; subst hh; contradiction) | exact tf_n1 (by assumption) (by assumption) | exact tf_n2 (by assumption) (by assumption)) ?_; first | assumption | exact va_up_self _ _ _)))))
  case hl_11_12 => exact Nat.le_of_ble_eq_true rfl
  case hn_11_12 => rfl
  case ht_11_12 => rfl
  refine tf_blk _ b_Part_init_14 rfl ?_
  refine tf_putF (fs := ?fs_16_13) 19 d_Part_init_16 rfl ff_Part_19 rfl ?ha_16_13 ?hf_16_13 ?hl_16_13 ?hn_16_13 ?ht_16_13 ?kk_16_13
  case ha_16_13 => first | assumption | (simp only [List.mem_append, List.mem_singleton]; simp [*])
  case hf_16_13 => first | assumption | exact va_up_self _ _ _ | (refine tf_u (by first | assumption | (apply Ne.symm; assumption) | (intro hh; subst hh; contradiction) | exact tf_n1 (by assumption) (by assumption) | exact tf_n2 (by assumption) (by assumption)) ?_; first | assumption | exact va_up_self _ _ _ | (refine tf_u (by first | assumption | (apply Ne.symm; assumption) | (intro hh; subst hh; contradiction) | exact tf_n1 (by assumption) (by assumption) | exact tf_n2 (by assumption) (by assumption)) ?_; first | assumption | exact va_up_self _ _ _ | (refine tf_u (by first | assumption | (apply Ne.symm; assumption) | (intro hh; subst hh; contradiction) | exact tf_n1 (by assumption) (by assumption) | exact tf_n2 (by assumption) (by assumption)) ?_; first | assumption | exact va_up_self _ _ _ | (refine tf_u (by first | assumption | (apply Ne.symm; assumption) | (intro hh; subst hh; contradiction) | exact tf_n1 (by assumption) (by assumption) | exact tf_n2 (by assumption) (by assumption)) ?_; first | assumption | exact va_up_self _ _ _ | (refine tf_u (by first | assumption | (apply Ne.symm; assumption) | (intro hh; subst hh; contradiction) | exact tf_n1 (by assumption) (by assumption) | exact tf_n2 (by assumption) (by assumption)) ?_; first | assumption | exact va_up_self _ _ _)))))
  case hl_16_13 => exact Nat.le_of_ble_eq_true rfl
  case hn_16_13 => rfl
  case ht_16_13 => rfl
  refine tf_blk _ b_Part_init_19 rfl ?_
  refine tf_putF (fs := ?fs_22_14) 25 d_Part_init_22 rfl ff_Part_22 rfl ?ha_22_14 ?hf_22_14 ?hl_22_14 ?hn_22_14 ?ht_22_14 ?kk_22_14
  case ha_22_14 => first | assumption | (simp only [List.mem_append, List.mem_singleton]; simp [*])
  case hf_22_14 => first | assumption | exact va_up_self _ _ _ | (refine tf_u (by first | assumption | (apply Ne.symm; assumption) | (intro hh; subst hh; contradiction) | exact tf_n1 (by assumption) (by assumption) | exact tf_n2 (by assumption) (by assumption)) ?_; first | assumption | exact va_up_self _ _ _ | (refine tf_u (by first | assumption | (apply Ne.symm; assumption) | (intro hh; subst hh; contradiction) | exact tf_n1 (by assumption) (by assumption) | exact tf_n2 (by assumption) (by assumption)) ?_; first | assumption | exact va_up_self _ _ _ | (refine tf_u (by first | assumption | (apply Ne.symm; assumption) | (intro hh; subst hh; contradiction) | exact tf_n1 (by assumption) (by assumption) | exact tf_n2 (by assumption) (by assumption)) ?_; first | assumption | exact va_up_self _ _ _ | (refine tf_u (by first | assumption | (apply Ne.symm; assumption) | (intro hh; subst hh; contradiction) | exact tf_n1 (by assumption) (by assumption) | exact tf_n2 (by assumption) (by assumption)) ?_; first | assumption | exact va_up_self _ _ _ | (refine tf_u (by first | assumption | (apply Ne.symm; assumption) | (intro hh; subst hh; contradiction) | exact tf_n1 (by assumption) (by assumption) | exact tf_n2 (by assumption) (by assumption)) ?_; first | assumption | exact va_up_self _ _ _)))))
  case hl_22_14 => exact Nat.le_of_ble_eq_true rfl
  case hn_22_14 => rfl
  case ht_22_14 => rfl
  refine tf_vret d_Part_init_25 rfl ?_
  exact ⟨rfl, rfl, by (rw [bx_uu, bx_uu, bx_uu]; try rfl)⟩
set_option maxHeartbeats 4000000 in
set_option maxRecDepth 100000 in
theorem c_Setter_addToText {a tx n : Nat} {ro rs rc pu ru : Value} {g : Nat → Int32} (y : Int32) (hn : n ≤ 60) (ha : a ∈ L) (fa : f a = to 10 [ro, rs, .int (nI n), rc, pu, .ref tx, ru]) (htx : tx ∈ L) (ftx : f tx = ti q 60 g) : tf_C l (tf_H D q) d i_Setter_addToText [.ref a, .int y] L f 0 0 (fun v L2 f2 => L2 = L ∧ ((n < 60 ∧ v = some (.int (kI 1)) ∧ f2 = va_up (va_up f tx (ti q 60 (upd g n y))) a (to 10 [ro, rs, .int (nI n + kI 1), rc, pu, .ref tx, ru])) ∨ (n = 60 ∧ v = some (.int (kI 0)) ∧ f2 = f))) := by
  refine tf_C.of (tf_gok _ _) (by decide) w_324 (Nat.le_of_ble_eq_true rfl) ?_
  refine tf_blk _ b_Setter_addToText_0 rfl ?_
  refine tf_get (fs := ?fs_1_16) (v := ?v_1_16) 4 d_Setter_addToText_1 rfl fl_Setter_28 ?ha_1_16 ?hf_1_16 ?hv_1_16 ?kk_1_16
  case ha_1_16 => first | assumption | (simp only [List.mem_append, List.mem_singleton]; simp [*])
  case hf_1_16 => first | assumption | exact va_up_self _ _ _ | (refine tf_u (by first | assumption | (apply Ne.symm; assumption) | (intro hh; subst hh; contradiction) | exact tf_n1 (by assumption) (by assumption) | exact tf_n2 (by assumption) (by assumption)) ?_; first | assumption | exact va_up_self _ _ _ | (refine tf_u (by first | assumption | (apply Ne.symm; assumption) | (intro hh; subst hh; contradiction) | exact tf_n1 (by assumption) (by assumption) | exact tf_n2 (by assumption) (by assumption)) ?_; first | assumption | exact va_up_self _ _ _ | (refine tf_u (by first | assumption | (apply Ne.symm; assumption) | (intro hh; subst hh; contradiction) | exact tf_n1 (by assumption) (by assumption) | exact tf_n2 (by assumption) (by assumption)) ?_; first | assumption | exact va_up_self _ _ _ | (refine tf_u (by first | assumption | (apply Ne.symm; assumption) | (intro hh; subst hh; contradiction) | exact tf_n1 (by assumption) (by assumption) | exact tf_n2 (by assumption) (by assumption)) ?_; first | assumption | exact va_up_self _ _ _ | (refine tf_u (by first | assumption | (apply Ne.symm; assumption) | (intro hh; subst hh; contradiction) | exact tf_n1 (by assumption) (by assumption) | exact tf_n2 (by assumption) (by assumption)) ?_; first | assumption | exact va_up_self _ _ _)))))
  case hv_1_16 => rfl
  refine tf_blk _ b_Setter_addToText_4 rfl ?_
  refine tf_ic_lt 11 9 d_Setter_addToText_6 rfl rfl (fun h6 => ?_) (fun h6 => ?_)
  · refine tf_blk _ b_Setter_addToText_11 rfl ?_
    refine tf_get (fs := ?fs_12_17) (v := ?v_12_17) 15 d_Setter_addToText_12 rfl fl_Setter_15 ?ha_12_17 ?hf_12_17 ?hv_12_17 ?kk_12_17
    case ha_12_17 => first | assumption | (simp only [List.mem_append, List.mem_singleton]; simp [*])
    case hf_12_17 => first | assumption | exact va_up_self _ _ _ | (refine tf_u (by first | assumption | (apply Ne.symm; assumption) | (intro hh; subst hh; contradiction) | exact tf_n1 (by assumption) (by assumption) | exact tf_n2 (by assumption) (by assumption)) ?_; first | assumption | exact va_up_self _ _ _ | (refine tf_u (by first | assumption | (apply Ne.symm; assumption) | (intro hh; subst hh; contradiction) | exact tf_n1 (by assumption) (by assumption) | exact tf_n2 (by assumption) (by assumption)) ?_; first | assumption | exact va_up_self _ _ _ | (refine tf_u (by first | assumption | (apply Ne.symm; assumption) | (intro hh; subst hh; contradiction) | exact tf_n1 (by assumption) (by assumption) | exact tf_n2 (by assumption) (by assumption)) ?_; first | assumption | exact va_up_self _ _ _ | (refine tf_u (by first | assumption | (apply Ne.symm; assumption) | (intro hh; subst hh; contradiction) | exact tf_n1 (by assumption) (by assumption) | exact tf_n2 (by assumption) (by assumption)) ?_; first | assumption | exact va_up_self _ _ _ | (refine tf_u (by first | assumption | (apply Ne.symm; assumption) | (intro hh; subst hh; contradiction) | exact tf_n1 (by assumption) (by assumption) | exact tf_n2 (by assumption) (by assumption)) ?_; first | assumption | exact va_up_self _ _ _)))))
    case hv_12_17 => rfl
    refine tf_blk _ b_Setter_addToText_15 rfl ?_
    refine tf_get (fs := ?fs_16_18) (v := ?v_16_18) 19 d_Setter_addToText_16 rfl fl_Setter_28 ?ha_16_18 ?hf_16_18 ?hv_16_18 ?kk_16_18
    case ha_16_18 => first | assumption | (simp only [List.mem_append, List.mem_singleton]; simp [*])
    case hf_16_18 => first | assumption | exact va_up_self _ _ _ | (refine tf_u (by first | assumption | (apply Ne.symm; assumption) | (intro hh; subst hh; contradiction) | exact tf_n1 (by assumption) (by assumption) | exact tf_n2 (by assumption) (by assumption)) ?_; first | assumption | exact va_up_self _ _ _ | (refine tf_u (by first | assumption | (apply Ne.symm; assumption) | (intro hh; subst hh; contradiction) | exact tf_n1 (by assumption) (by assumption) | exact tf_n2 (by assumption) (by assumption)) ?_; first | assumption | exact va_up_self _ _ _ | (refine tf_u (by first | assumption | (apply Ne.symm; assumption) | (intro hh; subst hh; contradiction) | exact tf_n1 (by assumption) (by assumption) | exact tf_n2 (by assumption) (by assumption)) ?_; first | assumption | exact va_up_self _ _ _ | (refine tf_u (by first | assumption | (apply Ne.symm; assumption) | (intro hh; subst hh; contradiction) | exact tf_n1 (by assumption) (by assumption) | exact tf_n2 (by assumption) (by assumption)) ?_; first | assumption | exact va_up_self _ _ _ | (refine tf_u (by first | assumption | (apply Ne.symm; assumption) | (intro hh; subst hh; contradiction) | exact tf_n1 (by assumption) (by assumption) | exact tf_n2 (by assumption) (by assumption)) ?_; first | assumption | exact va_up_self _ _ _)))))
    case hv_16_18 => rfl
    refine tf_blk _ b_Setter_addToText_19 rfl ?_
    refine tf_iast (n := ?n_20_19) (g := ?g_20_19) 21 0 d_Setter_addToText_20 rfl rfl ?ha_20_19 ?hf_20_19 ?hi_20_19 ?kk_20_19
    case ha_20_19 => first | assumption | (simp only [List.mem_append, List.mem_singleton]; simp [*])
    case hf_20_19 => first | assumption | exact va_up_self _ _ _ | (refine tf_u (by first | assumption | (apply Ne.symm; assumption) | (intro hh; subst hh; contradiction) | exact tf_n1 (by assumption) (by assumption) | exact tf_n2 (by assumption) (by assumption)) ?_; first | assumption | exact va_up_self _ _ _ | (refine tf_u (by first | assumption | (apply Ne.symm; assumption) | (intro hh; subst hh; contradiction) | exact tf_n1 (by assumption) (by assumption) | exact tf_n2 (by assumption) (by assumption)) ?_; first | assumption | exact va_up_self _ _ _ | (refine tf_u (by first | assumption | (apply Ne.symm; assumption) | (intro hh; subst hh; contradiction) | exact tf_n1 (by assumption) (by assumption) | exact tf_n2 (by assumption) (by assumption)) ?_; first | assumption | exact va_up_self _ _ _ | (refine tf_u (by first | assumption | (apply Ne.symm; assumption) | (intro hh; subst hh; contradiction) | exact tf_n1 (by assumption) (by assumption) | exact tf_n2 (by assumption) (by assumption)) ?_; first | assumption | exact va_up_self _ _ _ | (refine tf_u (by first | assumption | (apply Ne.symm; assumption) | (intro hh; subst hh; contradiction) | exact tf_n1 (by assumption) (by assumption) | exact tf_n2 (by assumption) (by assumption)) ?_; first | assumption | exact va_up_self _ _ _)))))
    case hi_20_19 => exact vp_in_nI (by have := (nI_ltI (a := n) (b := 60) (by omega) (by omega)).mp h6; omega) (by omega)
    refine tf_blk _ b_Setter_addToText_21 rfl ?_
    refine tf_get (fs := ?fs_23_20) (v := ?v_23_20) 26 d_Setter_addToText_23 rfl fl_Setter_28 ?ha_23_20 ?hf_23_20 ?hv_23_20 ?kk_23_20
    case ha_23_20 => first | assumption | (simp only [List.mem_append, List.mem_singleton]; simp [*])
    case hf_23_20 => first | assumption | exact va_up_self _ _ _ | (refine tf_u (by first | assumption | (apply Ne.symm; assumption) | (intro hh; subst hh; contradiction) | exact tf_n1 (by assumption) (by assumption) | exact tf_n2 (by assumption) (by assumption)) ?_; first | assumption | exact va_up_self _ _ _ | (refine tf_u (by first | assumption | (apply Ne.symm; assumption) | (intro hh; subst hh; contradiction) | exact tf_n1 (by assumption) (by assumption) | exact tf_n2 (by assumption) (by assumption)) ?_; first | assumption | exact va_up_self _ _ _ | (refine tf_u (by first | assumption | (apply Ne.symm; assumption) | (intro hh; subst hh; contradiction) | exact tf_n1 (by assumption) (by assumption) | exact tf_n2 (by assumption) (by assumption)) ?_; first | assumption | exact va_up_self _ _ _ | (refine tf_u (by first | assumption | (apply Ne.symm; assumption) | (intro hh; subst hh; contradiction) | exact tf_n1 (by assumption) (by assumption) | exact tf_n2 (by assumption) (by assumption)) ?_; first | assumption | exact va_up_self _ _ _ | (refine tf_u (by first | assumption | (apply Ne.symm; assumption) | (intro hh; subst hh; contradiction) | exact tf_n1 (by assumption) (by assumption) | exact tf_n2 (by assumption) (by assumption)) ?_; first | assumption | exact va_up_self _ _ _)))))
    case hv_23_20 => rfl
    refine tf_blk _ b_Setter_addToText_26 rfl ?_
    refine tf_put (fs := ?fs_28_21) 31 d_Setter_addToText_28 rfl fw_Setter_28 ?ha_28_21 ?hf_28_21 ?hl_28_21 ?hn_28_21 ?ht_28_21 ?kk_28_21
    case ha_28_21 => first | assumption | (simp only [List.mem_append, List.mem_singleton]; simp [*])
    case hf_28_21 => first | assumption | exact va_up_self _ _ _ | (refine tf_u (by first | assumption | (apply Ne.symm; assumption) | (intro hh; subst hh; contradiction) | exact tf_n1 (by assumption) (by assumption) | exact tf_n2 (by assumption) (by assumption)) ?_; first | assumption | exact va_up_self _ _ _ | (refine tf_u (by first | assumption | (apply Ne.symm; assumption) | (intro hh; subst hh; contradiction) | exact tf_n1 (by assumption) (by assumption) | exact tf_n2 (by assumption) (by assumption)) ?_; first | assumption | exact va_up_self _ _ _ | (refine tf_u (by first | assumption | (apply Ne.symm; assumption) | (intro hh; subst hh; contradiction) | exact tf_n1 (by assumption) (by assumption) | exact tf_n2 (by assumption) (by assumption)) ?_; first | assumption | exact va_up_self _ _ _ | (refine tf_u (by first | assumption | (apply Ne.symm; assumption) | (intro hh; subst hh; contradiction) | exact tf_n1 (by assumption) (by assumption) | exact tf_n2 (by assumption) (by assumption)) ?_; first | assumption | exact va_up_self _ _ _ | (refine tf_u (by first | assumption | (apply Ne.symm; assumption) | (intro hh; subst hh; contradiction) | exact tf_n1 (by assumption) (by assumption) | exact tf_n2 (by assumption) (by assumption)) ?_; first | assumption | exact va_up_self _ _ _)))))
    case hl_28_21 => exact Nat.le_of_ble_eq_true rfl
    case hn_28_21 => rfl
    case ht_28_21 => rfl
    refine tf_blk _ b_Setter_addToText_31 rfl ?_
    refine tf_zret d_Setter_addToText_32 rfl (rfl) ?_
    exact ⟨rfl, Or.inl ⟨(nI_ltI (a := n) (b := 60) (by omega) (by omega)).mp h6, rfl, by rw [nI_clamp (show n < 2 ^ 31 by omega)]; rfl⟩⟩
  · refine tf_blk _ b_Setter_addToText_9 rfl ?_
    refine tf_zret d_Setter_addToText_10 rfl (rfl) ?_
    exact ⟨rfl, Or.inr ⟨by have := mt (nI_ltI (a := n) (b := 60) (by omega) (by omega)).mpr h6; omega, rfl, rfl⟩⟩
end
def tw_ga (x : Int64) (k : Int32) : Int32 := ((x.toUInt64 >>> ((kI 8 * k).toInt64.toUInt64 &&& Int64.toUInt64 63)).toInt64 &&& 255).toInt32 - kI 1
/-- how many glyphs stand from k on, m at most -/
def tw_len (x : Int64) : Nat → Nat → Nat
  | 0, k => k
  | m + 1, k => if tw_ga x (nI k) = kI (-1) then k else tw_len x m (k + 1)
theorem tw_len_le (x : Int64) : ∀ m k, k ≤ tw_len x m k ∧ tw_len x m k ≤ k + m := by
  intro m
  induction m with
  | zero => intro k; exact ⟨Nat.le_refl _, Nat.le_refl _⟩
  | succ m ih =>
    intro k
    unfold tw_len
    split
    · exact ⟨Nat.le_refl _, by omega⟩
    · have := ih (k + 1)
      omega
/-- all glyphs from k on, m of them, are below n -/
def tw_isOf (n : Int32) (x : Int64) : Nat → Nat → Bool
  | 0, _ => true
  | m + 1, k => if tw_ga x (nI k) < n then tw_isOf n x m (k + 1) else false
/-- the row g holds, from p on, the glyphs of x from k on, m of them -/
def tw_st (g : Nat → Int32) (p : Nat) (x : Int64) : Nat → Nat → Bool
  | 0, _ => true
  | m + 1, k => if g (p + k) = tw_ga x (nI k) then tw_st g p x m (k + 1) else false
section
variable (l : Launch) (D : va_G) (q : Nat → ClassId) (d : Nat) (L : List Nat) (f : tf_F)
set_option maxHeartbeats 4000000 in
set_option maxRecDepth 100000 in
theorem c_Rule_glyphAt (x : Int64) (k : Int32) : tf_C l (tf_H D q) d i_Rule_glyphAt [.long x, .int k] L f 0 0 (tf_rd (.int (tw_ga x k)) L f) := by
  refine tf_C.of (tf_gok _ _) (by decide) w_357 (Nat.le_of_ble_eq_true rfl) ?_
  refine tf_blk _ b_Rule_glyphAt_0 rfl ?_
  refine tf_ldc2 9 d_Rule_glyphAt_6 rfl w_358 ?_
  refine tf_blk _ b_Rule_glyphAt_9 rfl ?_
  refine tf_iret d_Rule_glyphAt_13 rfl ?_
  exact ⟨rfl, rfl, rfl⟩
set_option maxHeartbeats 4000000 in
set_option maxRecDepth 100000 in
theorem t_Rule_lengthOf (hd : 1 ≤ d) (x : Int64) {n : Nat} (hn : n ≤ 8) : ∀ m k, k + m = n → tf_W l (tf_H D q) tf_T (tf_QM (tf_H D q) (tf_rd (.int (nI (tw_len x m k))) L f)) d i_Rule_lengthOf 2 [(0, .long x), (2, .int (nI n)), (3, .int (nI k))] [] L f 0 0 := by
  intro m
  induction m with
  | zero =>
    intro k hk
    refine tf_blk _ b_Rule_lengthOf_2 rfl ?_
    refine tf_ic_ge 22 7 d_Rule_lengthOf_4 rfl rfl (fun h4 => ?_) (fun h4 => absurd (nI_le (by omega) (by omega)) h4)
    refine tf_blk _ b_Rule_lengthOf_22 rfl ?_
    refine tf_iret d_Rule_lengthOf_23 rfl ?_
    exact ⟨rfl, rfl, rfl⟩
  | succ m ih =>
    intro k hk
    refine tf_blk _ b_Rule_lengthOf_2 rfl ?_
    refine tf_ic_ge 22 7 d_Rule_lengthOf_4 rfl rfl (fun h4 => absurd h4 (nI_ge (by omega) (by omega))) (fun h4 => ?_)
    refine tf_blk _ b_Rule_lengthOf_7 rfl ?_
    refine tf_cS (tf_gok _ _) (c_Rule_glyphAt l D q (d - 1) _ _ _ _) 12 d_Rule_lengthOf_9 rfl lk_Rule_53 cw_Rule_glyphAt (by rfl) sa_Rule_glyphAt (by omega) (by exact Nat.le_of_ble_eq_true rfl) rfl ?_
    rintro v9 L9 f9 ⟨rfl, rfl, rfl⟩
    refine tf_blk _ b_Rule_lengthOf_12 rfl ?_
    refine tf_ic_eq 22 16 d_Rule_lengthOf_13 rfl rfl (fun h13 => ?_) (fun h13 => ?_)
    · refine tf_blk _ b_Rule_lengthOf_22 rfl ?_
      refine tf_iret d_Rule_lengthOf_23 rfl ?_
      exact ⟨by rw [show tw_len x (m + 1) k = k from if_pos h13], rfl, rfl⟩
    · refine tf_blk _ b_Rule_lengthOf_16 rfl ?_
      refine tf_goto 2 d_Rule_lengthOf_19 rfl ?_
      have e1 : tw_len x (m + 1) k = tw_len x m (k + 1) := if_neg h13
      rw [e1]
      have h9 := ih (k + 1) (by omega)
      rw [nI_succ] at h9
      exact h9
set_option maxHeartbeats 4000000 in
set_option maxRecDepth 100000 in
theorem c_Rule_lengthOf (hd : 1 ≤ d) (x : Int64) {n : Nat} (hn : n ≤ 8) : tf_C l (tf_H D q) d i_Rule_lengthOf [.long x, .int (nI n)] L f 0 0 (tf_rd (.int (nI (tw_len x n 0))) L f) := by
  refine tf_C.of (tf_gok _ _) (by decide) w_1058 (Nat.le_of_ble_eq_true rfl) ?_
  refine tf_blk _ b_Rule_lengthOf_0 rfl ?_
  exact t_Rule_lengthOf l D q d L f hd x hn n 0 (by omega)
set_option maxHeartbeats 4000000 in
set_option maxRecDepth 100000 in
theorem t_Rule_isOf (hd : 1 ≤ d) (y : Int32) (x : Int64) {n : Nat} (hn : n ≤ 8) : ∀ m k, k + m = n → tf_W l (tf_H D q) tf_T (tf_QM (tf_H D q) (tf_rd (.int (bI (tw_isOf y x m k))) L f)) d i_Rule_isOf 3 [(0, .int y), (1, .long x), (3, .int (nI n)), (4, .int (nI k))] [] L f 0 0 := by
  intro m
  induction m with
  | zero =>
    intro k hk
    refine tf_blk _ b_Rule_isOf_3 rfl ?_
    refine tf_ic_ge 27 9 d_Rule_isOf_6 rfl rfl (fun h6 => ?_) (fun h6 => absurd (nI_le (by omega) (by omega)) h6)
    refine tf_blk _ b_Rule_isOf_27 rfl ?_
    refine tf_zret d_Rule_isOf_28 rfl (rfl) ?_
    exact ⟨rfl, rfl, rfl⟩
  | succ m ih =>
    intro k hk
    refine tf_blk _ b_Rule_isOf_3 rfl ?_
    refine tf_ic_ge 27 9 d_Rule_isOf_6 rfl rfl (fun h6 => absurd h6 (nI_ge (by omega) (by omega))) (fun h6 => ?_)
    refine tf_blk _ b_Rule_isOf_9 rfl ?_
    refine tf_cS (tf_gok _ _) (c_Rule_glyphAt l D q (d - 1) _ _ _ _) 15 d_Rule_isOf_12 rfl lk_Rule_53 cw_Rule_glyphAt (by rfl) sa_Rule_glyphAt (by omega) (by exact Nat.le_of_ble_eq_true rfl) rfl ?_
    rintro v12 L12 f12 ⟨rfl, rfl, rfl⟩
    refine tf_blk _ b_Rule_isOf_15 rfl ?_
    refine tf_ic_lt 21 19 d_Rule_isOf_16 rfl rfl (fun h16 => ?_) (fun h16 => ?_)
    · refine tf_blk _ b_Rule_isOf_21 rfl ?_
      refine tf_goto 3 d_Rule_isOf_24 rfl ?_
      have e1 : tw_isOf y x (m + 1) k = tw_isOf y x m (k + 1) := if_pos h16
      rw [e1]
      have h9 := ih (k + 1) (by omega)
      rw [nI_succ] at h9
      exact h9
    · refine tf_blk _ b_Rule_isOf_19 rfl ?_
      refine tf_zret d_Rule_isOf_20 rfl (rfl) ?_
      exact ⟨by rw [show tw_isOf y x (m + 1) k = false from if_neg h16]; rfl, rfl, rfl⟩
set_option maxHeartbeats 4000000 in
set_option maxRecDepth 100000 in
theorem c_Rule_isOf (hd : 1 ≤ d) (y : Int32) (x : Int64) {n : Nat} (hn : n ≤ 8) : tf_C l (tf_H D q) d i_Rule_isOf [.int y, .long x, .int (nI n)] L f 0 0 (tf_rd (.int (bI (tw_isOf y x n 0))) L f) := by
  refine tf_C.of (tf_gok _ _) (by decide) w_1093 (Nat.le_of_ble_eq_true rfl) ?_
  refine tf_blk _ b_Rule_isOf_0 rfl ?_
  exact t_Rule_isOf l D q d L f hd y x hn n 0 (by omega)
set_option maxHeartbeats 4000000 in
set_option maxRecDepth 100000 in
theorem t_Rule_stands (hd : 1 ≤ d) {b p : Nat} {g : Nat → Int32} (x : Int64) {n : Nat} (hn : n ≤ 8) (hp : p + n ≤ 60) (hb : b ∈ L) (fb : f b = ti q 60 g) : ∀ m k, k + m = n → tf_W l (tf_H D q) tf_T (tf_QM (tf_H D q) (tf_rd (.int (bI (tw_st g p x m k))) L f)) d i_Rule_stands 3 [(0, .ref b), (1, .int (nI p)), (2, .long x), (4, .int (nI n)), (5, .int (nI k))] [] L f 0 0 := by
  intro m
  induction m with
  | zero =>
    intro k hk
    refine tf_blk _ b_Rule_stands_3 rfl ?_
    refine tf_ic_ge 33 10 d_Rule_stands_7 rfl rfl (fun h7 => ?_) (fun h7 => absurd (nI_le (by omega) (by omega)) h7)
    refine tf_blk _ b_Rule_stands_33 rfl ?_
    refine tf_zret d_Rule_stands_34 rfl (rfl) ?_
    exact ⟨rfl, rfl, rfl⟩
  | succ m ih =>
    intro k hk
    have e0 : nI p + nI k = nI (p + k) := nI_add p k
    have hv : vp_in (nI p + nI k) 60 := by rw [e0]; exact vp_in_nI (by omega) (by omega)
    have hc : (nI p + nI k).toNatClampNeg = p + k := by rw [e0]; exact nI_clamp (by omega)
    refine tf_blk _ b_Rule_stands_3 rfl ?_
    refine tf_ic_ge 33 10 d_Rule_stands_7 rfl rfl (fun h7 => absurd h7 (nI_ge (by omega) (by omega))) (fun h7 => ?_)
    refine tf_blk _ b_Rule_stands_10 rfl ?_
    refine tf_iald (n := ?n_15_32) (g := ?g_15_32) 16 0 d_Rule_stands_15 rfl rfl ?ha_15_32 ?hf_15_32 ?hi_15_32 ?kk_15_32
    case ha_15_32 => first | assumption | (simp only [List.mem_append, List.mem_singleton]; simp [*])
    case hf_15_32 => first | assumption | exact va_up_self _ _ _ | (refine tf_u (by first | assumption | (apply Ne.symm; assumption) | (intro hh; subst hh; contradiction) | exact tf_n1 (by assumption) (by assumption) | exact tf_n2 (by assumption) (by assumption)) ?_; first | assumption | exact va_up_self _ _ _ | (refine tf_u (by first | assumption | (apply Ne.symm; assumption) | (intro hh; subst hh; contradiction) | exact tf_n1 (by assumption) (by assumption) | exact tf_n2 (by assumption) (by assumption)) ?_; first | assumption | exact va_up_self _ _ _ | (refine tf_u (by first | assumption | (apply Ne.symm; assumption) | (intro hh; subst hh; contradiction) | exact tf_n1 (by assumption) (by assumption) | exact tf_n2 (by assumption) (by assumption)) ?_; first | assumption | exact va_up_self _ _ _ | (refine tf_u (by first | assumption | (apply Ne.symm; assumption) | (intro hh; subst hh; contradiction) | exact tf_n1 (by assumption) (by assumption) | exact tf_n2 (by assumption) (by assumption)) ?_; first | assumption | exact va_up_self _ _ _ | (refine tf_u (by first | assumption | (apply Ne.symm; assumption) | (intro hh; subst hh; contradiction) | exact tf_n1 (by assumption) (by assumption) | exact tf_n2 (by assumption) (by assumption)) ?_; first | assumption | exact va_up_self _ _ _)))))
    case hi_15_32 => exact hv
    refine tf_blk _ b_Rule_stands_16 rfl ?_
    refine tf_cS (tf_gok _ _) (c_Rule_glyphAt l D q (d - 1) _ _ _ _) 22 d_Rule_stands_19 rfl lk_Rule_53 cw_Rule_glyphAt (by rfl) sa_Rule_glyphAt (by omega) (by exact Nat.le_of_ble_eq_true rfl) rfl ?_
    rintro v19 L19 f19 ⟨rfl, rfl, rfl⟩
    refine tf_ic_eq 27 25 d_Rule_stands_22 rfl rfl (fun h22 => ?_) (fun h22 => ?_)
    · refine tf_blk _ b_Rule_stands_27 rfl ?_
      refine tf_goto 3 d_Rule_stands_30 rfl ?_
      rw [hc] at h22
      have e1 : tw_st g p x (m + 1) k = tw_st g p x m (k + 1) := if_pos h22
      rw [e1]
      have h9 := ih (k + 1) (by omega)
      rw [nI_succ] at h9
      exact h9
    · refine tf_blk _ b_Rule_stands_25 rfl ?_
      refine tf_zret d_Rule_stands_26 rfl (rfl) ?_
      rw [hc] at h22
      exact ⟨by rw [show tw_st g p x (m + 1) k = false from if_neg h22]; rfl, rfl, rfl⟩
set_option maxHeartbeats 4000000 in
set_option maxRecDepth 100000 in
theorem c_Rule_stands (hd : 1 ≤ d) {b p : Nat} {g : Nat → Int32} (x : Int64) {n : Nat} (hn : n ≤ 8) (hp : p + n ≤ 60) (hb : b ∈ L) (fb : f b = ti q 60 g) : tf_C l (tf_H D q) d i_Rule_stands [.ref b, .int (nI p), .long x, .int (nI n)] L f 0 0 (tf_rd (.int (bI (tw_st g p x n 0))) L f) := by
  refine tf_C.of (tf_gok _ _) (by decide) w_354 (Nat.le_of_ble_eq_true rfl) ?_
  refine tf_blk _ b_Rule_stands_0 rfl ?_
  exact t_Rule_stands l D q d L f hd x hn hp hb fb n 0 (by omega)
end
