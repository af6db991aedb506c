/-! small classes: Blend, Kerning -/
section
variable (l : Launch) (D : va_G) (q : Nat → ClassId) (d : Nat) (L : List Nat) (f : tf_F)
set_option maxHeartbeats 4000000 in
set_option maxRecDepth 100000 in
theorem c_Blend_hasMaster (hd : 1 ≤ d) {a : Nat} {mm u w : Int32} (ha : a ∈ L) (fa : f a = to 1 [.int mm, .int u, .int w]) (k : Int32) : tf_C l (tf_H D q) d i_Blend_hasMaster [.ref a, .int k] L f 0 0 (tf_rd (.int (bI (tw_in k (kI 0) (mm - kI 1)))) L f) := by
  refine tf_C.of (tf_gok _ _) (by decide) w_256 (Nat.le_of_ble_eq_true rfl) ?_
  refine tf_blk _ b_Blend_hasMaster_0 rfl ?_
  refine tf_get (fs := ?fs_3_1) (v := ?v_3_1) 6 d_Blend_hasMaster_3 rfl fl_Blend_9 ?ha_3_1 ?hf_3_1 ?hv_3_1 ?kk_3_1
  case ha_3_1 => first | assumption | (simp only [List.mem_append, List.mem_singleton]; simp [*])
  case hf_3_1 => first | assumption | exact va_up_self _ _ _ | (refine tf_u (by first | assumption | (apply Ne.symm; assumption) | (intro hh; subst hh; contradiction)) ?_; first | assumption | exact va_up_self _ _ _ | (refine tf_u (by first | assumption | (apply Ne.symm; assumption) | (intro hh; subst hh; contradiction)) ?_; first | assumption | exact va_up_self _ _ _ | (refine tf_u (by first | assumption | (apply Ne.symm; assumption) | (intro hh; subst hh; contradiction)) ?_; first | assumption | exact va_up_self _ _ _ | (refine tf_u (by first | assumption | (apply Ne.symm; assumption) | (intro hh; subst hh; contradiction)) ?_; first | assumption | exact va_up_self _ _ _ | (refine tf_u (by first | assumption | (apply Ne.symm; assumption) | (intro hh; subst hh; contradiction)) ?_; first | assumption | exact va_up_self _ _ _)))))
  case hv_3_1 => rfl
  refine tf_blk _ b_Blend_hasMaster_6 rfl ?_
  refine tf_cSN (tf_gok _ _) (c_Tf_within l D q (d - 1) _ _ _ _ _) 11 d_Blend_hasMaster_8 rfl lk_Blend_15 cw_Tf_within (by rfl) sa_Tf_within (by omega) (by exact Nat.le_of_ble_eq_true rfl) rfl ?_
  rintro v8 L8 f8 ⟨rfl, rfl, rfl⟩
  refine tf_zret d_Blend_hasMaster_11 rfl (bI_n _) ?_
  exact ⟨rfl, rfl, rfl⟩
set_option maxHeartbeats 4000000 in
set_option maxRecDepth 100000 in
theorem c_Blend_set {a : Nat} {mm u w : Int32} (ha : a ∈ L) (fa : f a = to 1 [.int mm, .int u, .int w]) (x y : Int32) : tf_C l (tf_H D q) d i_Blend_set [.ref a, .int x, .int y] L f 0 0 (fun v L2 f2 => v = none ∧ L2 = L ∧ f2 = va_up f a (to 1 [.int mm, .int x, .int y])) := by
  refine tf_C.of (tf_gok _ _) (by decide) w_265 (Nat.le_of_ble_eq_true rfl) ?_
  refine tf_blk _ b_Blend_set_0 rfl ?_
  refine tf_put (fs := ?fs_2_4) 5 d_Blend_set_2 rfl fw_Blend_19 ?ha_2_4 ?hf_2_4 ?hl_2_4 ?hn_2_4 ?ht_2_4 ?kk_2_4
  case ha_2_4 => first | assumption | (simp only [List.mem_append, List.mem_singleton]; simp [*])
  case hf_2_4 => first | assumption | exact va_up_self _ _ _ | (refine tf_u (by first | assumption | (apply Ne.symm; assumption) | (intro hh; subst hh; contradiction)) ?_; first | assumption | exact va_up_self _ _ _ | (refine tf_u (by first | assumption | (apply Ne.symm; assumption) | (intro hh; subst hh; contradiction)) ?_; first | assumption | exact va_up_self _ _ _ | (refine tf_u (by first | assumption | (apply Ne.symm; assumption) | (intro hh; subst hh; contradiction)) ?_; first | assumption | exact va_up_self _ _ _ | (refine tf_u (by first | assumption | (apply Ne.symm; assumption) | (intro hh; subst hh; contradiction)) ?_; first | assumption | exact va_up_self _ _ _ | (refine tf_u (by first | assumption | (apply Ne.symm; assumption) | (intro hh; subst hh; contradiction)) ?_; first | assumption | exact va_up_self _ _ _)))))
  case hl_2_4 => exact Nat.le_of_ble_eq_true rfl
  case hn_2_4 => rfl
  case ht_2_4 => rfl
  refine tf_blk _ b_Blend_set_5 rfl ?_
  refine tf_put (fs := ?fs_7_5) 10 d_Blend_set_7 rfl fw_Blend_22 ?ha_7_5 ?hf_7_5 ?hl_7_5 ?hn_7_5 ?ht_7_5 ?kk_7_5
  case ha_7_5 => first | assumption | (simp only [List.mem_append, List.mem_singleton]; simp [*])
  case hf_7_5 => first | assumption | exact va_up_self _ _ _ | (refine tf_u (by first | assumption | (apply Ne.symm; assumption) | (intro hh; subst hh; contradiction)) ?_; first | assumption | exact va_up_self _ _ _ | (refine tf_u (by first | assumption | (apply Ne.symm; assumption) | (intro hh; subst hh; contradiction)) ?_; first | assumption | exact va_up_self _ _ _ | (refine tf_u (by first | assumption | (apply Ne.symm; assumption) | (intro hh; subst hh; contradiction)) ?_; first | assumption | exact va_up_self _ _ _ | (refine tf_u (by first | assumption | (apply Ne.symm; assumption) | (intro hh; subst hh; contradiction)) ?_; first | assumption | exact va_up_self _ _ _ | (refine tf_u (by first | assumption | (apply Ne.symm; assumption) | (intro hh; subst hh; contradiction)) ?_; first | assumption | exact va_up_self _ _ _)))))
  case hl_7_5 => exact Nat.le_of_ble_eq_true rfl
  case hn_7_5 => rfl
  case ht_7_5 => rfl
  refine tf_vret d_Blend_set_10 rfl ?_
  exact ⟨rfl, rfl, bx_uu _ _ _ _⟩
end
def tw_mix (x y : Int64) (s : Int32) : Int64 := x * (kI 1024 - s).toInt64 + y * s.toInt64
section
variable (l : Launch) (D : va_G) (q : Nat → ClassId) (d : Nat) (L : List Nat) (f : tf_F)
set_option maxHeartbeats 4000000 in
set_option maxRecDepth 100000 in
theorem c_Blend_mix (x y : Int64) (s : Int32) : tf_C l (tf_H D q) d i_Blend_mix [.long x, .long y, .int s] L f 0 0 (tf_rd (.long (tw_mix x y s)) L f) := by
  refine tf_C.of (tf_gok _ _) (by decide) w_645 (Nat.le_of_ble_eq_true rfl) ?_
  refine tf_blk _ b_Blend_mix_0 rfl ?_
  refine tf_lret d_Blend_mix_15 rfl ?_
  exact ⟨rfl, rfl, rfl⟩
end
def tw_val (mm u w : Int32) (g : Nat → Int32) (k : Int32) : Int32 :=
  if mm = kI 1 then g (k * mm).toNatClampNeg
  else if mm = kI 2 then hvU (tw_mix (g (k * mm).toNatClampNeg).toInt64 (g (k * mm + kI 1).toNatClampNeg).toInt64 u) 1024
  else hvU (tw_mix (tw_mix (g (k * mm).toNatClampNeg).toInt64 (g (k * mm + kI 1).toNatClampNeg).toInt64 u) (tw_mix (g (k * mm + kI 2).toNatClampNeg).toInt64 (g (k * mm + kI 3).toNatClampNeg).toInt64 u) w) 1048576
section
variable (l : Launch) (D : va_G) (q : Nat → ClassId) (d : Nat) (L : List Nat) (f : tf_F)
set_option maxHeartbeats 4000000 in
set_option maxRecDepth 100000 in
theorem c_Blend_valueOf (hd : 2 ≤ d) {a : Nat} {mm u w : Int32} (ha : a ∈ L) (fa : f a = to 1 [.int mm, .int u, .int w]) {b n : Nat} {g : Nat → Int32} (hb : b ∈ L) (fb : f b = ti q n g) (k : Int32) (h0 : vp_in (k * mm) n) (h1 : ¬ mm = kI 1 → vp_in (k * mm + kI 1) n) (h2 : ¬ mm = kI 1 → ¬ mm = kI 2 → vp_in (k * mm + kI 2) n) (h3 : ¬ mm = kI 1 → ¬ mm = kI 2 → vp_in (k * mm + kI 3) n) : tf_C l (tf_H D q) d i_Blend_valueOf [.ref a, .ref b, .int k] L f 0 0 (tf_rd (.int (tw_val mm u w g k)) L f) := by
  refine tf_C.of (tf_gok _ _) (by decide) w_642 (Nat.le_of_ble_eq_true rfl) ?_
  refine tf_blk _ b_Blend_valueOf_0 rfl ?_
  refine tf_get (fs := ?fs_2_8) (v := ?v_2_8) 5 d_Blend_valueOf_2 rfl fl_Blend_9 ?ha_2_8 ?hf_2_8 ?hv_2_8 ?kk_2_8
  case ha_2_8 => first | assumption | (simp only [List.mem_append, List.mem_singleton]; simp [*])
  case hf_2_8 => first | assumption | exact va_up_self _ _ _ | (refine tf_u (by first | assumption | (apply Ne.symm; assumption) | (intro hh; subst hh; contradiction)) ?_; first | assumption | exact va_up_self _ _ _ | (refine tf_u (by first | assumption | (apply Ne.symm; assumption) | (intro hh; subst hh; contradiction)) ?_; first | assumption | exact va_up_self _ _ _ | (refine tf_u (by first | assumption | (apply Ne.symm; assumption) | (intro hh; subst hh; contradiction)) ?_; first | assumption | exact va_up_self _ _ _ | (refine tf_u (by first | assumption | (apply Ne.symm; assumption) | (intro hh; subst hh; contradiction)) ?_; first | assumption | exact va_up_self _ _ _ | (refine tf_u (by first | assumption | (apply Ne.symm; assumption) | (intro hh; subst hh; contradiction)) ?_; first | assumption | exact va_up_self _ _ _)))))
  case hv_2_8 => rfl
  refine tf_blk _ b_Blend_valueOf_5 rfl ?_
  refine tf_get (fs := ?fs_8_9) (v := ?v_8_9) 11 d_Blend_valueOf_8 rfl fl_Blend_9 ?ha_8_9 ?hf_8_9 ?hv_8_9 ?kk_8_9
  case ha_8_9 => first | assumption | (simp only [List.mem_append, List.mem_singleton]; simp [*])
  case hf_8_9 => first | assumption | exact va_up_self _ _ _ | (refine tf_u (by first | assumption | (apply Ne.symm; assumption) | (intro hh; subst hh; contradiction)) ?_; first | assumption | exact va_up_self _ _ _ | (refine tf_u (by first | assumption | (apply Ne.symm; assumption) | (intro hh; subst hh; contradiction)) ?_; first | assumption | exact va_up_self _ _ _ | (refine tf_u (by first | assumption | (apply Ne.symm; assumption) | (intro hh; subst hh; contradiction)) ?_; first | assumption | exact va_up_self _ _ _ | (refine tf_u (by first | assumption | (apply Ne.symm; assumption) | (intro hh; subst hh; contradiction)) ?_; first | assumption | exact va_up_self _ _ _ | (refine tf_u (by first | assumption | (apply Ne.symm; assumption) | (intro hh; subst hh; contradiction)) ?_; first | assumption | exact va_up_self _ _ _)))))
  case hv_8_9 => rfl
  refine tf_blk _ b_Blend_valueOf_11 rfl ?_
  refine tf_ic_ne 19 15 d_Blend_valueOf_12 rfl rfl (fun h12 => ?_) (fun h12 => ?_)
  · refine tf_blk _ b_Blend_valueOf_19 rfl ?_
    refine tf_iald (n := ?n_21_10) (g := ?g_21_10) 22 0 d_Blend_valueOf_21 rfl rfl ?ha_21_10 ?hf_21_10 ?hi_21_10 ?kk_21_10
    case ha_21_10 => first | assumption | (simp only [List.mem_append, List.mem_singleton]; simp [*])
    case hf_21_10 => first | assumption | exact va_up_self _ _ _ | (refine tf_u (by first | assumption | (apply Ne.symm; assumption) | (intro hh; subst hh; contradiction)) ?_; first | assumption | exact va_up_self _ _ _ | (refine tf_u (by first | assumption | (apply Ne.symm; assumption) | (intro hh; subst hh; contradiction)) ?_; first | assumption | exact va_up_self _ _ _ | (refine tf_u (by first | assumption | (apply Ne.symm; assumption) | (intro hh; subst hh; contradiction)) ?_; first | assumption | exact va_up_self _ _ _ | (refine tf_u (by first | assumption | (apply Ne.symm; assumption) | (intro hh; subst hh; contradiction)) ?_; first | assumption | exact va_up_self _ _ _ | (refine tf_u (by first | assumption | (apply Ne.symm; assumption) | (intro hh; subst hh; contradiction)) ?_; first | assumption | exact va_up_self _ _ _)))))
    case hi_21_10 => exact h0
    refine tf_blk _ b_Blend_valueOf_22 rfl ?_
    refine tf_iald (n := ?n_27_11) (g := ?g_27_11) 28 0 d_Blend_valueOf_27 rfl rfl ?ha_27_11 ?hf_27_11 ?hi_27_11 ?kk_27_11
    case ha_27_11 => first | assumption | (simp only [List.mem_append, List.mem_singleton]; simp [*])
    case hf_27_11 => first | assumption | exact va_up_self _ _ _ | (refine tf_u (by first | assumption | (apply Ne.symm; assumption) | (intro hh; subst hh; contradiction)) ?_; first | assumption | exact va_up_self _ _ _ | (refine tf_u (by first | assumption | (apply Ne.symm; assumption) | (intro hh; subst hh; contradiction)) ?_; first | assumption | exact va_up_self _ _ _ | (refine tf_u (by first | assumption | (apply Ne.symm; assumption) | (intro hh; subst hh; contradiction)) ?_; first | assumption | exact va_up_self _ _ _ | (refine tf_u (by first | assumption | (apply Ne.symm; assumption) | (intro hh; subst hh; contradiction)) ?_; first | assumption | exact va_up_self _ _ _ | (refine tf_u (by first | assumption | (apply Ne.symm; assumption) | (intro hh; subst hh; contradiction)) ?_; first | assumption | exact va_up_self _ _ _)))))
    case hi_27_11 => exact h1 (by assumption)
    refine tf_blk _ b_Blend_valueOf_28 rfl ?_
    refine tf_get (fs := ?fs_30_12) (v := ?v_30_12) 33 d_Blend_valueOf_30 rfl fl_Blend_19 ?ha_30_12 ?hf_30_12 ?hv_30_12 ?kk_30_12
    case ha_30_12 => first | assumption | (simp only [List.mem_append, List.mem_singleton]; simp [*])
    case hf_30_12 => first | assumption | exact va_up_self _ _ _ | (refine tf_u (by first | assumption | (apply Ne.symm; assumption) | (intro hh; subst hh; contradiction)) ?_; first | assumption | exact va_up_self _ _ _ | (refine tf_u (by first | assumption | (apply Ne.symm; assumption) | (intro hh; subst hh; contradiction)) ?_; first | assumption | exact va_up_self _ _ _ | (refine tf_u (by first | assumption | (apply Ne.symm; assumption) | (intro hh; subst hh; contradiction)) ?_; first | assumption | exact va_up_self _ _ _ | (refine tf_u (by first | assumption | (apply Ne.symm; assumption) | (intro hh; subst hh; contradiction)) ?_; first | assumption | exact va_up_self _ _ _ | (refine tf_u (by first | assumption | (apply Ne.symm; assumption) | (intro hh; subst hh; contradiction)) ?_; first | assumption | exact va_up_self _ _ _)))))
    case hv_30_12 => rfl
    refine tf_cS (tf_gok _ _) (c_Blend_mix l D q (d - 1) _ _ _ _ _) 36 d_Blend_valueOf_33 rfl lk_Blend_25 cw_Blend_mix (by rfl) sa_Blend_mix (by omega) (by exact Nat.le_of_ble_eq_true rfl) rfl ?_
    rintro v33 L33 f33 ⟨rfl, rfl, rfl⟩
    refine tf_blk _ b_Blend_valueOf_36 rfl ?_
    refine tf_get (fs := ?fs_39_14) (v := ?v_39_14) 42 d_Blend_valueOf_39 rfl fl_Blend_9 ?ha_39_14 ?hf_39_14 ?hv_39_14 ?kk_39_14
    case ha_39_14 => first | assumption | (simp only [List.mem_append, List.mem_singleton]; simp [*])
    case hf_39_14 => first | assumption | exact va_up_self _ _ _ | (refine tf_u (by first | assumption | (apply Ne.symm; assumption) | (intro hh; subst hh; contradiction)) ?_; first | assumption | exact va_up_self _ _ _ | (refine tf_u (by first | assumption | (apply Ne.symm; assumption) | (intro hh; subst hh; contradiction)) ?_; first | assumption | exact va_up_self _ _ _ | (refine tf_u (by first | assumption | (apply Ne.symm; assumption) | (intro hh; subst hh; contradiction)) ?_; first | assumption | exact va_up_self _ _ _ | (refine tf_u (by first | assumption | (apply Ne.symm; assumption) | (intro hh; subst hh; contradiction)) ?_; first | assumption | exact va_up_self _ _ _ | (refine tf_u (by first | assumption | (apply Ne.symm; assumption) | (intro hh; subst hh; contradiction)) ?_; first | assumption | exact va_up_self _ _ _)))))
    case hv_39_14 => rfl
    refine tf_blk _ b_Blend_valueOf_42 rfl ?_
    refine tf_ic_ne 55 46 d_Blend_valueOf_43 rfl rfl (fun h43 => ?_) (fun h43 => ?_)
    · refine tf_blk _ b_Blend_valueOf_55 rfl ?_
      refine tf_iald (n := ?n_59_15) (g := ?g_59_15) 60 0 d_Blend_valueOf_59 rfl rfl ?ha_59_15 ?hf_59_15 ?hi_59_15 ?kk_59_15
      case ha_59_15 => first | assumption | (simp only [List.mem_append, List.mem_singleton]; simp [*])
      case hf_59_15 => first | assumption | exact va_up_self _ _ _ | (refine tf_u (by first | assumption | (apply Ne.symm; assumption) | (intro hh; subst hh; contradiction)) ?_; first | assumption | exact va_up_self _ _ _ | (refine tf_u (by first | assumption | (apply Ne.symm; assumption) | (intro hh; subst hh; contradiction)) ?_; first | assumption | exact va_up_self _ _ _ | (refine tf_u (by first | assumption | (apply Ne.symm; assumption) | (intro hh; subst hh; contradiction)) ?_; first | assumption | exact va_up_self _ _ _ | (refine tf_u (by first | assumption | (apply Ne.symm; assumption) | (intro hh; subst hh; contradiction)) ?_; first | assumption | exact va_up_self _ _ _ | (refine tf_u (by first | assumption | (apply Ne.symm; assumption) | (intro hh; subst hh; contradiction)) ?_; first | assumption | exact va_up_self _ _ _)))))
      case hi_59_15 => exact h2 (by assumption) (by assumption)
      refine tf_blk _ b_Blend_valueOf_60 rfl ?_
      refine tf_iald (n := ?n_65_16) (g := ?g_65_16) 66 0 d_Blend_valueOf_65 rfl rfl ?ha_65_16 ?hf_65_16 ?hi_65_16 ?kk_65_16
      case ha_65_16 => first | assumption | (simp only [List.mem_append, List.mem_singleton]; simp [*])
      case hf_65_16 => first | assumption | exact va_up_self _ _ _ | (refine tf_u (by first | assumption | (apply Ne.symm; assumption) | (intro hh; subst hh; contradiction)) ?_; first | assumption | exact va_up_self _ _ _ | (refine tf_u (by first | assumption | (apply Ne.symm; assumption) | (intro hh; subst hh; contradiction)) ?_; first | assumption | exact va_up_self _ _ _ | (refine tf_u (by first | assumption | (apply Ne.symm; assumption) | (intro hh; subst hh; contradiction)) ?_; first | assumption | exact va_up_self _ _ _ | (refine tf_u (by first | assumption | (apply Ne.symm; assumption) | (intro hh; subst hh; contradiction)) ?_; first | assumption | exact va_up_self _ _ _ | (refine tf_u (by first | assumption | (apply Ne.symm; assumption) | (intro hh; subst hh; contradiction)) ?_; first | assumption | exact va_up_self _ _ _)))))
      case hi_65_16 => exact h3 (by assumption) (by assumption)
      refine tf_blk _ b_Blend_valueOf_66 rfl ?_
      refine tf_get (fs := ?fs_68_17) (v := ?v_68_17) 71 d_Blend_valueOf_68 rfl fl_Blend_19 ?ha_68_17 ?hf_68_17 ?hv_68_17 ?kk_68_17
      case ha_68_17 => first | assumption | (simp only [List.mem_append, List.mem_singleton]; simp [*])
      case hf_68_17 => first | assumption | exact va_up_self _ _ _ | (refine tf_u (by first | assumption | (apply Ne.symm; assumption) | (intro hh; subst hh; contradiction)) ?_; first | assumption | exact va_up_self _ _ _ | (refine tf_u (by first | assumption | (apply Ne.symm; assumption) | (intro hh; subst hh; contradiction)) ?_; first | assumption | exact va_up_self _ _ _ | (refine tf_u (by first | assumption | (apply Ne.symm; assumption) | (intro hh; subst hh; contradiction)) ?_; first | assumption | exact va_up_self _ _ _ | (refine tf_u (by first | assumption | (apply Ne.symm; assumption) | (intro hh; subst hh; contradiction)) ?_; first | assumption | exact va_up_self _ _ _ | (refine tf_u (by first | assumption | (apply Ne.symm; assumption) | (intro hh; subst hh; contradiction)) ?_; first | assumption | exact va_up_self _ _ _)))))
      case hv_68_17 => rfl
      refine tf_cS (tf_gok _ _) (c_Blend_mix l D q (d - 1) _ _ _ _ _) 74 d_Blend_valueOf_71 rfl lk_Blend_25 cw_Blend_mix (by rfl) sa_Blend_mix (by omega) (by exact Nat.le_of_ble_eq_true rfl) rfl ?_
      rintro v71 L71 f71 ⟨rfl, rfl, rfl⟩
      refine tf_blk _ b_Blend_valueOf_74 rfl ?_
      refine tf_get (fs := ?fs_81_19) (v := ?v_81_19) 84 d_Blend_valueOf_81 rfl fl_Blend_22 ?ha_81_19 ?hf_81_19 ?hv_81_19 ?kk_81_19
      case ha_81_19 => first | assumption | (simp only [List.mem_append, List.mem_singleton]; simp [*])
      case hf_81_19 => first | assumption | exact va_up_self _ _ _ | (refine tf_u (by first | assumption | (apply Ne.symm; assumption) | (intro hh; subst hh; contradiction)) ?_; first | assumption | exact va_up_self _ _ _ | (refine tf_u (by first | assumption | (apply Ne.symm; assumption) | (intro hh; subst hh; contradiction)) ?_; first | assumption | exact va_up_self _ _ _ | (refine tf_u (by first | assumption | (apply Ne.symm; assumption) | (intro hh; subst hh; contradiction)) ?_; first | assumption | exact va_up_self _ _ _ | (refine tf_u (by first | assumption | (apply Ne.symm; assumption) | (intro hh; subst hh; contradiction)) ?_; first | assumption | exact va_up_self _ _ _ | (refine tf_u (by first | assumption | (apply Ne.symm; assumption) | (intro hh; subst hh; contradiction)) ?_; first | assumption | exact va_up_self _ _ _)))))
      case hv_81_19 => rfl
      refine tf_cS (tf_gok _ _) (c_Blend_mix l D q (d - 1) _ _ _ _ _) 87 d_Blend_valueOf_84 rfl lk_Blend_25 cw_Blend_mix (by rfl) sa_Blend_mix (by omega) (by exact Nat.le_of_ble_eq_true rfl) rfl ?_
      rintro v84 L84 f84 ⟨rfl, rfl, rfl⟩
      refine tf_ldc2 90 d_Blend_valueOf_87 rfl w_654 ?_
      refine tf_cSN (tf_gok _ _) (c_Tf_halvesUp l D q (d - 1) _ _ (by omega) (by decide)) 93 d_Blend_valueOf_90 rfl lk_Blend_31 cw_Tf_halvesUp (by rfl) sa_Tf_halvesUp (by omega) (by exact Nat.le_of_ble_eq_true rfl) rfl ?_
      rintro v90 L90 f90 ⟨rfl, rfl, rfl⟩
      refine tf_iret d_Blend_valueOf_93 rfl ?_
      exact ⟨by rw [tw_val, if_neg (by assumption), if_neg (by assumption)], rfl, rfl⟩
    · refine tf_blk _ b_Blend_valueOf_46 rfl ?_
      refine tf_ldc2 51 d_Blend_valueOf_48 rfl w_646 ?_
      refine tf_cSN (tf_gok _ _) (c_Tf_halvesUp l D q (d - 1) _ _ (by omega) (by decide)) 54 d_Blend_valueOf_51 rfl lk_Blend_31 cw_Tf_halvesUp (by rfl) sa_Tf_halvesUp (by omega) (by exact Nat.le_of_ble_eq_true rfl) rfl ?_
      rintro v51 L51 f51 ⟨rfl, rfl, rfl⟩
      refine tf_iret d_Blend_valueOf_54 rfl ?_
      exact ⟨by rw [tw_val, if_neg (by assumption), if_pos (by assumption)], rfl, rfl⟩
  · refine tf_blk _ b_Blend_valueOf_15 rfl ?_
    refine tf_iald (n := ?n_17_25) (g := ?g_17_25) 18 0 d_Blend_valueOf_17 rfl rfl ?ha_17_25 ?hf_17_25 ?hi_17_25 ?kk_17_25
    case ha_17_25 => first | assumption | (simp only [List.mem_append, List.mem_singleton]; simp [*])
    case hf_17_25 => first | assumption | exact va_up_self _ _ _ | (refine tf_u (by first | assumption | (apply Ne.symm; assumption) | (intro hh; subst hh; contradiction)) ?_; first | assumption | exact va_up_self _ _ _ | (refine tf_u (by first | assumption | (apply Ne.symm; assumption) | (intro hh; subst hh; contradiction)) ?_; first | assumption | exact va_up_self _ _ _ | (refine tf_u (by first | assumption | (apply Ne.symm; assumption) | (intro hh; subst hh; contradiction)) ?_; first | assumption | exact va_up_self _ _ _ | (refine tf_u (by first | assumption | (apply Ne.symm; assumption) | (intro hh; subst hh; contradiction)) ?_; first | assumption | exact va_up_self _ _ _ | (refine tf_u (by first | assumption | (apply Ne.symm; assumption) | (intro hh; subst hh; contradiction)) ?_; first | assumption | exact va_up_self _ _ _)))))
    case hi_17_25 => exact h0
    refine tf_iret d_Blend_valueOf_18 rfl ?_
    exact ⟨by rw [tw_val, if_pos (by assumption)], rfl, rfl⟩
set_option maxHeartbeats 4000000 in
set_option maxRecDepth 100000 in
theorem c_Kerning_setClass {a lc rc oc ls rs op : Nat} {np : Int32} (ha : a ∈ L) (fa : f a = to 5 [.int np, .ref lc, .ref rc, .ref oc, .ref ls, .ref rs, .ref op]) {gl gr : Nat → Int32} (hlc : lc ∈ L) (flc : f lc = ti q 40 gl) (hrc : rc ∈ L) (frc : f rc = ti q 40 gr) (s g t : Int32) (hg : vp_in g 40) : tf_C l (tf_H D q) d i_Kerning_setClass [.ref a, .int s, .int g, .int t] L f 0 0 (fun v L2 f2 => v = none ∧ L2 = L ∧ f2 = if s = 0 then va_up f lc (ti q 40 (upd gl g.toNatClampNeg t)) else va_up f rc (ti q 40 (upd gr g.toNatClampNeg t))) := by
  refine tf_C.of (tf_gok _ _) (by decide) w_290 (Nat.le_of_ble_eq_true rfl) ?_
  refine tf_blk _ b_Kerning_setClass_0 rfl ?_
  refine tf_if_ne 14 4 d_Kerning_setClass_1 rfl rfl (fun h1 => ?_) (fun h1 => ?_)
  · refine tf_blk _ b_Kerning_setClass_14 rfl ?_
    refine tf_get (fs := ?fs_15_27) (v := ?v_15_27) 18 d_Kerning_setClass_15 rfl fl_Kerning_15 ?ha_15_27 ?hf_15_27 ?hv_15_27 ?kk_15_27
    case ha_15_27 => first | assumption | (simp only [List.mem_append, List.mem_singleton]; simp [*])
    case hf_15_27 => first | assumption | exact va_up_self _ _ _ | (refine tf_u (by first | assumption | (apply Ne.symm; assumption) | (intro hh; subst hh; contradiction)) ?_; first | assumption | exact va_up_self _ _ _ | (refine tf_u (by first | assumption | (apply Ne.symm; assumption) | (intro hh; subst hh; contradiction)) ?_; first | assumption | exact va_up_self _ _ _ | (refine tf_u (by first | assumption | (apply Ne.symm; assumption) | (intro hh; subst hh; contradiction)) ?_; first | assumption | exact va_up_self _ _ _ | (refine tf_u (by first | assumption | (apply Ne.symm; assumption) | (intro hh; subst hh; contradiction)) ?_; first | assumption | exact va_up_self _ _ _ | (refine tf_u (by first | assumption | (apply Ne.symm; assumption) | (intro hh; subst hh; contradiction)) ?_; first | assumption | exact va_up_self _ _ _)))))
    case hv_15_27 => rfl
    refine tf_blk _ b_Kerning_setClass_18 rfl ?_
    refine tf_iast (n := ?n_20_28) (g := ?g_20_28) 21 0 d_Kerning_setClass_20 rfl rfl ?ha_20_28 ?hf_20_28 ?hi_20_28 ?kk_20_28
    case ha_20_28 => first | assumption | (simp only [List.mem_append, List.mem_singleton]; simp [*])
    case hf_20_28 => first | assumption | exact va_up_self _ _ _ | (refine tf_u (by first | assumption | (apply Ne.symm; assumption) | (intro hh; subst hh; contradiction)) ?_; first | assumption | exact va_up_self _ _ _ | (refine tf_u (by first | assumption | (apply Ne.symm; assumption) | (intro hh; subst hh; contradiction)) ?_; first | assumption | exact va_up_self _ _ _ | (refine tf_u (by first | assumption | (apply Ne.symm; assumption) | (intro hh; subst hh; contradiction)) ?_; first | assumption | exact va_up_self _ _ _ | (refine tf_u (by first | assumption | (apply Ne.symm; assumption) | (intro hh; subst hh; contradiction)) ?_; first | assumption | exact va_up_self _ _ _ | (refine tf_u (by first | assumption | (apply Ne.symm; assumption) | (intro hh; subst hh; contradiction)) ?_; first | assumption | exact va_up_self _ _ _)))))
    case hi_20_28 => exact hg
    refine tf_vret d_Kerning_setClass_21 rfl ?_
    exact ⟨rfl, rfl, by simp only [h1, if_true, if_false]⟩
  · refine tf_blk _ b_Kerning_setClass_4 rfl ?_
    refine tf_get (fs := ?fs_5_30) (v := ?v_5_30) 8 d_Kerning_setClass_5 rfl fl_Kerning_9 ?ha_5_30 ?hf_5_30 ?hv_5_30 ?kk_5_30
    case ha_5_30 => first | assumption | (simp only [List.mem_append, List.mem_singleton]; simp [*])
    case hf_5_30 => first | assumption | exact va_up_self _ _ _ | (refine tf_u (by first | assumption | (apply Ne.symm; assumption) | (intro hh; subst hh; contradiction)) ?_; first | assumption | exact va_up_self _ _ _ | (refine tf_u (by first | assumption | (apply Ne.symm; assumption) | (intro hh; subst hh; contradiction)) ?_; first | assumption | exact va_up_self _ _ _ | (refine tf_u (by first | assumption | (apply Ne.symm; assumption) | (intro hh; subst hh; contradiction)) ?_; first | assumption | exact va_up_self _ _ _ | (refine tf_u (by first | assumption | (apply Ne.symm; assumption) | (intro hh; subst hh; contradiction)) ?_; first | assumption | exact va_up_self _ _ _ | (refine tf_u (by first | assumption | (apply Ne.symm; assumption) | (intro hh; subst hh; contradiction)) ?_; first | assumption | exact va_up_self _ _ _)))))
    case hv_5_30 => rfl
    refine tf_blk _ b_Kerning_setClass_8 rfl ?_
    refine tf_iast (n := ?n_10_31) (g := ?g_10_31) 11 0 d_Kerning_setClass_10 rfl rfl ?ha_10_31 ?hf_10_31 ?hi_10_31 ?kk_10_31
    case ha_10_31 => first | assumption | (simp only [List.mem_append, List.mem_singleton]; simp [*])
    case hf_10_31 => first | assumption | exact va_up_self _ _ _ | (refine tf_u (by first | assumption | (apply Ne.symm; assumption) | (intro hh; subst hh; contradiction)) ?_; first | assumption | exact va_up_self _ _ _ | (refine tf_u (by first | assumption | (apply Ne.symm; assumption) | (intro hh; subst hh; contradiction)) ?_; first | assumption | exact va_up_self _ _ _ | (refine tf_u (by first | assumption | (apply Ne.symm; assumption) | (intro hh; subst hh; contradiction)) ?_; first | assumption | exact va_up_self _ _ _ | (refine tf_u (by first | assumption | (apply Ne.symm; assumption) | (intro hh; subst hh; contradiction)) ?_; first | assumption | exact va_up_self _ _ _ | (refine tf_u (by first | assumption | (apply Ne.symm; assumption) | (intro hh; subst hh; contradiction)) ?_; first | assumption | exact va_up_self _ _ _)))))
    case hi_10_31 => exact hg
    refine tf_goto 21 d_Kerning_setClass_11 rfl ?_
    refine tf_vret d_Kerning_setClass_21 rfl ?_
    exact ⟨rfl, rfl, by simp only [h1, if_true, if_false]⟩
set_option maxHeartbeats 4000000 in
set_option maxRecDepth 100000 in
theorem c_Kerning_tellClasses {a lc rc oc ls rs op : Nat} {np : Int32} (ha : a ∈ L) (fa : f a = to 5 [.int np, .ref lc, .ref rc, .ref oc, .ref ls, .ref rs, .ref op]) {g : Nat → Int32} (hoc : oc ∈ L) (foc : f oc = ti q 256 g) (x y b : Int32) (hi : vp_in (x * kI 16 + y) 256) : tf_C l (tf_H D q) d i_Kerning_tellClasses [.ref a, .int x, .int y, .int b] L f 0 0 (fun v L2 f2 => v = none ∧ L2 = L ∧ f2 = va_up f oc (ti q 256 (upd g (x * kI 16 + y).toNatClampNeg b))) := by
  refine tf_C.of (tf_gok _ _) (by decide) w_301 (Nat.le_of_ble_eq_true rfl) ?_
  refine tf_blk _ b_Kerning_tellClasses_0 rfl ?_
  refine tf_get (fs := ?fs_1_33) (v := ?v_1_33) 4 d_Kerning_tellClasses_1 rfl fl_Kerning_18 ?ha_1_33 ?hf_1_33 ?hv_1_33 ?kk_1_33
  case ha_1_33 => first | assumption | (simp only [List.mem_append, List.mem_singleton]; simp [*])
  case hf_1_33 => first | assumption | exact va_up_self _ _ _ | (refine tf_u (by first | assumption | (apply Ne.symm; assumption) | (intro hh; subst hh; contradiction)) ?_; first | assumption | exact va_up_self _ _ _ | (refine tf_u (by first | assumption | (apply Ne.symm; assumption) | (intro hh; subst hh; contradiction)) ?_; first | assumption | exact va_up_self _ _ _ | (refine tf_u (by first | assumption | (apply Ne.symm; assumption) | (intro hh; subst hh; contradiction)) ?_; first | assumption | exact va_up_self _ _ _ | (refine tf_u (by first | assumption | (apply Ne.symm; assumption) | (intro hh; subst hh; contradiction)) ?_; first | assumption | exact va_up_self _ _ _ | (refine tf_u (by first | assumption | (apply Ne.symm; assumption) | (intro hh; subst hh; contradiction)) ?_; first | assumption | exact va_up_self _ _ _)))))
  case hv_1_33 => rfl
  refine tf_blk _ b_Kerning_tellClasses_4 rfl ?_
  refine tf_iast (n := ?n_11_34) (g := ?g_11_34) 12 0 d_Kerning_tellClasses_11 rfl rfl ?ha_11_34 ?hf_11_34 ?hi_11_34 ?kk_11_34
  case ha_11_34 => first | assumption | (simp only [List.mem_append, List.mem_singleton]; simp [*])
  case hf_11_34 => first | assumption | exact va_up_self _ _ _ | (refine tf_u (by first | assumption | (apply Ne.symm; assumption) | (intro hh; subst hh; contradiction)) ?_; first | assumption | exact va_up_self _ _ _ | (refine tf_u (by first | assumption | (apply Ne.symm; assumption) | (intro hh; subst hh; contradiction)) ?_; first | assumption | exact va_up_self _ _ _ | (refine tf_u (by first | assumption | (apply Ne.symm; assumption) | (intro hh; subst hh; contradiction)) ?_; first | assumption | exact va_up_self _ _ _ | (refine tf_u (by first | assumption | (apply Ne.symm; assumption) | (intro hh; subst hh; contradiction)) ?_; first | assumption | exact va_up_self _ _ _ | (refine tf_u (by first | assumption | (apply Ne.symm; assumption) | (intro hh; subst hh; contradiction)) ?_; first | assumption | exact va_up_self _ _ _)))))
  case hi_11_34 => exact hi
  refine tf_vret d_Kerning_tellClasses_12 rfl ?_
  exact ⟨rfl, rfl, rfl⟩
end
/-- where the pair (x, y) stands from k on, m places at most -/
def tw_pf (gl gr : Nat → Int32) (x y : Int32) : Nat → Nat → Nat
  | 0, k => k
  | m + 1, k => if gl k = x ∧ gr k = y then k else tw_pf gl gr x y m (k + 1)
theorem tw_pf_le (gl gr : Nat → Int32) (x y : Int32) : ∀ m k, k ≤ tw_pf gl gr x y m k ∧ tw_pf gl gr x y m k ≤ k + m := by
  intro m
  induction m with
  | zero => intro k; exact ⟨Nat.le_refl _, Nat.le_refl _⟩
  | succ m ih =>
    intro k
    unfold tw_pf
    split
    · exact ⟨Nat.le_refl _, by omega⟩
    · have := ih (k + 1)
      omega
section
variable (l : Launch) (D : va_G) (q : Nat → ClassId) (d : Nat) (L : List Nat) (f : tf_F)
set_option maxHeartbeats 4000000 in
set_option maxRecDepth 100000 in
theorem t_Kerning_pairAt {a lc rc oc ls rs op n : Nat} {gl gr : Nat → Int32} (x y : Int32) (hn : n ≤ 40) (ha : a ∈ L) (fa : f a = to 5 [.int (nI n), .ref lc, .ref rc, .ref oc, .ref ls, .ref rs, .ref op]) (hls : ls ∈ L) (fls : f ls = ti q 40 gl) (hrs : rs ∈ L) (frs : f rs = ti q 40 gr) : ∀ m k, k + m = n → tf_W l (tf_H D q) tf_T (tf_QM (tf_H D q) (tf_rd (.int (nI (tw_pf gl gr x y m k))) L f)) d i_Kerning_pairAt 2 [(0, .ref a), (1, .int x), (2, .int y), (3, .int (nI k))] [] L f 0 0 := by
  intro m
  induction m with
  | zero =>
    intro k hk
    refine tf_blk _ b_Kerning_pairAt_2 rfl ?_
    refine tf_get (fs := ?fs_4_36) (v := ?v_4_36) 7 d_Kerning_pairAt_4 rfl fl_Kerning_34 ?ha_4_36 ?hf_4_36 ?hv_4_36 ?kk_4_36
    case ha_4_36 => first | assumption | (simp only [List.mem_append, List.mem_singleton]; simp [*])
    case hf_4_36 => first | assumption | exact va_up_self _ _ _ | (refine tf_u (by first | assumption | (apply Ne.symm; assumption) | (intro hh; subst hh; contradiction)) ?_; first | assumption | exact va_up_self _ _ _ | (refine tf_u (by first | assumption | (apply Ne.symm; assumption) | (intro hh; subst hh; contradiction)) ?_; first | assumption | exact va_up_self _ _ _ | (refine tf_u (by first | assumption | (apply Ne.symm; assumption) | (intro hh; subst hh; contradiction)) ?_; first | assumption | exact va_up_self _ _ _ | (refine tf_u (by first | assumption | (apply Ne.symm; assumption) | (intro hh; subst hh; contradiction)) ?_; first | assumption | exact va_up_self _ _ _ | (refine tf_u (by first | assumption | (apply Ne.symm; assumption) | (intro hh; subst hh; contradiction)) ?_; first | assumption | exact va_up_self _ _ _)))))
    case hv_4_36 => rfl
    refine tf_ic_ge 36 10 d_Kerning_pairAt_7 rfl rfl (fun h7 => ?_) (fun h7 => absurd (nI_le (by omega) (by omega)) h7)
    refine tf_blk _ b_Kerning_pairAt_36 rfl ?_
    refine tf_iret d_Kerning_pairAt_37 rfl ?_
    exact ⟨rfl, rfl, rfl⟩
  | succ m ih =>
    intro k hk
    have hv : vp_in (nI k) 40 := vp_in_nI (by omega) (by omega)
    have hc : (nI k).toNatClampNeg = k := nI_clamp (by omega)
    refine tf_blk _ b_Kerning_pairAt_2 rfl ?_
    refine tf_get (fs := ?fs_4_38) (v := ?v_4_38) 7 d_Kerning_pairAt_4 rfl fl_Kerning_34 ?ha_4_38 ?hf_4_38 ?hv_4_38 ?kk_4_38
    case ha_4_38 => first | assumption | (simp only [List.mem_append, List.mem_singleton]; simp [*])
    case hf_4_38 => first | assumption | exact va_up_self _ _ _ | (refine tf_u (by first | assumption | (apply Ne.symm; assumption) | (intro hh; subst hh; contradiction)) ?_; first | assumption | exact va_up_self _ _ _ | (refine tf_u (by first | assumption | (apply Ne.symm; assumption) | (intro hh; subst hh; contradiction)) ?_; first | assumption | exact va_up_self _ _ _ | (refine tf_u (by first | assumption | (apply Ne.symm; assumption) | (intro hh; subst hh; contradiction)) ?_; first | assumption | exact va_up_self _ _ _ | (refine tf_u (by first | assumption | (apply Ne.symm; assumption) | (intro hh; subst hh; contradiction)) ?_; first | assumption | exact va_up_self _ _ _ | (refine tf_u (by first | assumption | (apply Ne.symm; assumption) | (intro hh; subst hh; contradiction)) ?_; first | assumption | exact va_up_self _ _ _)))))
    case hv_4_38 => rfl
    refine tf_ic_ge 36 10 d_Kerning_pairAt_7 rfl rfl (fun h7 => absurd h7 (nI_ge (by omega) (by omega))) (fun h7 => ?_)
    refine tf_blk _ b_Kerning_pairAt_10 rfl ?_
    refine tf_get (fs := ?fs_11_39) (v := ?v_11_39) 14 d_Kerning_pairAt_11 rfl fl_Kerning_21 ?ha_11_39 ?hf_11_39 ?hv_11_39 ?kk_11_39
    case ha_11_39 => first | assumption | (simp only [List.mem_append, List.mem_singleton]; simp [*])
    case hf_11_39 => first | assumption | exact va_up_self _ _ _ | (refine tf_u (by first | assumption | (apply Ne.symm; assumption) | (intro hh; subst hh; contradiction)) ?_; first | assumption | exact va_up_self _ _ _ | (refine tf_u (by first | assumption | (apply Ne.symm; assumption) | (intro hh; subst hh; contradiction)) ?_; first | assumption | exact va_up_self _ _ _ | (refine tf_u (by first | assumption | (apply Ne.symm; assumption) | (intro hh; subst hh; contradiction)) ?_; first | assumption | exact va_up_self _ _ _ | (refine tf_u (by first | assumption | (apply Ne.symm; assumption) | (intro hh; subst hh; contradiction)) ?_; first | assumption | exact va_up_self _ _ _ | (refine tf_u (by first | assumption | (apply Ne.symm; assumption) | (intro hh; subst hh; contradiction)) ?_; first | assumption | exact va_up_self _ _ _)))))
    case hv_11_39 => rfl
    refine tf_blk _ b_Kerning_pairAt_14 rfl ?_
    refine tf_iald (n := ?n_15_40) (g := ?g_15_40) 16 0 d_Kerning_pairAt_15 rfl rfl ?ha_15_40 ?hf_15_40 ?hi_15_40 ?kk_15_40
    case ha_15_40 => first | assumption | (simp only [List.mem_append, List.mem_singleton]; simp [*])
    case hf_15_40 => first | assumption | exact va_up_self _ _ _ | (refine tf_u (by first | assumption | (apply Ne.symm; assumption) | (intro hh; subst hh; contradiction)) ?_; first | assumption | exact va_up_self _ _ _ | (refine tf_u (by first | assumption | (apply Ne.symm; assumption) | (intro hh; subst hh; contradiction)) ?_; first | assumption | exact va_up_self _ _ _ | (refine tf_u (by first | assumption | (apply Ne.symm; assumption) | (intro hh; subst hh; contradiction)) ?_; first | assumption | exact va_up_self _ _ _ | (refine tf_u (by first | assumption | (apply Ne.symm; assumption) | (intro hh; subst hh; contradiction)) ?_; first | assumption | exact va_up_self _ _ _ | (refine tf_u (by first | assumption | (apply Ne.symm; assumption) | (intro hh; subst hh; contradiction)) ?_; first | assumption | exact va_up_self _ _ _)))))
    case hi_15_40 => exact hv
    refine tf_blk _ b_Kerning_pairAt_16 rfl ?_
    refine tf_ic_ne 30 20 d_Kerning_pairAt_17 rfl rfl (fun h17 => ?_) (fun h17 => ?_)
    · refine tf_blk _ b_Kerning_pairAt_30 rfl ?_
      refine tf_goto 2 d_Kerning_pairAt_33 rfl ?_
      rw [hc] at *
      have e1 : tw_pf gl gr x y (m + 1) k = tw_pf gl gr x y m (k + 1) := if_neg (fun z => by first | exact absurd z.1 (by assumption) | exact absurd z.2 (by assumption))
      rw [e1]
      have h9 := ih (k + 1) (by omega)
      rw [nI_succ] at h9
      exact h9
    · refine tf_blk _ b_Kerning_pairAt_20 rfl ?_
      refine tf_get (fs := ?fs_21_41) (v := ?v_21_41) 24 d_Kerning_pairAt_21 rfl fl_Kerning_24 ?ha_21_41 ?hf_21_41 ?hv_21_41 ?kk_21_41
      case ha_21_41 => first | assumption | (simp only [List.mem_append, List.mem_singleton]; simp [*])
      case hf_21_41 => first | assumption | exact va_up_self _ _ _ | (refine tf_u (by first | assumption | (apply Ne.symm; assumption) | (intro hh; subst hh; contradiction)) ?_; first | assumption | exact va_up_self _ _ _ | (refine tf_u (by first | assumption | (apply Ne.symm; assumption) | (intro hh; subst hh; contradiction)) ?_; first | assumption | exact va_up_self _ _ _ | (refine tf_u (by first | assumption | (apply Ne.symm; assumption) | (intro hh; subst hh; contradiction)) ?_; first | assumption | exact va_up_self _ _ _ | (refine tf_u (by first | assumption | (apply Ne.symm; assumption) | (intro hh; subst hh; contradiction)) ?_; first | assumption | exact va_up_self _ _ _ | (refine tf_u (by first | assumption | (apply Ne.symm; assumption) | (intro hh; subst hh; contradiction)) ?_; first | assumption | exact va_up_self _ _ _)))))
      case hv_21_41 => rfl
      refine tf_blk _ b_Kerning_pairAt_24 rfl ?_
      refine tf_iald (n := ?n_25_42) (g := ?g_25_42) 26 0 d_Kerning_pairAt_25 rfl rfl ?ha_25_42 ?hf_25_42 ?hi_25_42 ?kk_25_42
      case ha_25_42 => first | assumption | (simp only [List.mem_append, List.mem_singleton]; simp [*])
      case hf_25_42 => first | assumption | exact va_up_self _ _ _ | (refine tf_u (by first | assumption | (apply Ne.symm; assumption) | (intro hh; subst hh; contradiction)) ?_; first | assumption | exact va_up_self _ _ _ | (refine tf_u (by first | assumption | (apply Ne.symm; assumption) | (intro hh; subst hh; contradiction)) ?_; first | assumption | exact va_up_self _ _ _ | (refine tf_u (by first | assumption | (apply Ne.symm; assumption) | (intro hh; subst hh; contradiction)) ?_; first | assumption | exact va_up_self _ _ _ | (refine tf_u (by first | assumption | (apply Ne.symm; assumption) | (intro hh; subst hh; contradiction)) ?_; first | assumption | exact va_up_self _ _ _ | (refine tf_u (by first | assumption | (apply Ne.symm; assumption) | (intro hh; subst hh; contradiction)) ?_; first | assumption | exact va_up_self _ _ _)))))
      case hi_25_42 => exact hv
      refine tf_blk _ b_Kerning_pairAt_26 rfl ?_
      refine tf_ic_eq 36 30 d_Kerning_pairAt_27 rfl rfl (fun h27 => ?_) (fun h27 => ?_)
      · refine tf_blk _ b_Kerning_pairAt_36 rfl ?_
        refine tf_iret d_Kerning_pairAt_37 rfl ?_
        rw [hc] at *
        exact ⟨by rw [show tw_pf gl gr x y (m + 1) k = k from if_pos ⟨by first | assumption | exact Classical.not_not.mp h17, by assumption⟩], rfl, rfl⟩
      · refine tf_blk _ b_Kerning_pairAt_30 rfl ?_
        refine tf_goto 2 d_Kerning_pairAt_33 rfl ?_
        rw [hc] at *
        have e1 : tw_pf gl gr x y (m + 1) k = tw_pf gl gr x y m (k + 1) := if_neg (fun z => by first | exact absurd z.1 (by assumption) | exact absurd z.2 (by assumption))
        rw [e1]
        have h9 := ih (k + 1) (by omega)
        rw [nI_succ] at h9
        exact h9
set_option maxHeartbeats 4000000 in
set_option maxRecDepth 100000 in
theorem c_Kerning_pairAt {a lc rc oc ls rs op n : Nat} {gl gr : Nat → Int32} (x y : Int32) (hn : n ≤ 40) (ha : a ∈ L) (fa : f a = to 5 [.int (nI n), .ref lc, .ref rc, .ref oc, .ref ls, .ref rs, .ref op]) (hls : ls ∈ L) (fls : f ls = ti q 40 gl) (hrs : rs ∈ L) (frs : f rs = ti q 40 gr) : tf_C l (tf_H D q) d i_Kerning_pairAt [.ref a, .int x, .int y] L f 0 0 (tf_rd (.int (nI (tw_pf gl gr x y n 0))) L f) := by
  refine tf_C.of (tf_gok _ _) (by decide) w_313 (Nat.le_of_ble_eq_true rfl) ?_
  refine tf_blk _ b_Kerning_pairAt_0 rfl ?_
  exact t_Kerning_pairAt l D q d L f x y hn ha fa hls fls hrs frs n 0 (by omega)
end
