/-! Canvas.greyAt -/
theorem bI_f {b : Bool} (h : bI b = 0) : b = false := by cases b with | false => rfl | true => exact absurd h (by decide)
theorem bI_t {b : Bool} (h : ¬ bI b = 0) : b = true := by cases b with | true => rfl | false => exact absurd rfl h
section
variable (l : Launch) (D : va_G) (q : Nat → ClassId) (d : Nat) (L : List Nat) (f : tf_F)
set_option maxHeartbeats 4000000 in
set_option maxRecDepth 100000 in
theorem c_Canvas_greyAt (hd : 1 ≤ d) {a ce : Nat} {s : Value} {ac : Int32} (ha : a ∈ L) (fa : f a = to 2 [.ref ce, s, .int ac]) {g : Nat → Int32} (i j : Int32) (hce : ce ∈ L) (fce : f ce = ti q 4096 g) (hv : tw_in i (kI 0) (ac - kI 1) = true → tw_in j (kI 0) (ac - kI 1) = true → vp_in (j * ac + i) 4096) : tf_C l (tf_H D q) d i_Canvas_greyAt [.ref a, .int i, .int j] L f 0 0 (tf_rd (.int (if tw_in i (kI 0) (ac - kI 1) = true ∧ tw_in j (kI 0) (ac - kI 1) = true then g (j * ac + i).toNatClampNeg else kI (-1))) L f) := by
  refine tf_C.of (tf_gok _ _) (by decide) w_281 (Nat.le_of_ble_eq_true rfl) ?_
  refine tf_blk _ b_Canvas_greyAt_0 rfl ?_
  refine tf_get (fs := ?fs_3_1) (v := ?v_3_1) 6 d_Canvas_greyAt_3 rfl fl_Canvas_19 ?ha_3_1 ?hf_3_1 ?hv_3_1 ?kk_3_1
  case ha_3_1 => first | assumption | (simp only [List.mem_append, List.mem_singleton]; simp [*])
  case hf_3_1 => first | assumption | exact va_up_self _ _ _ | (refine tf_u (by first | assumption | (apply Ne.symm; assumption) | (intro hh; subst hh; contradiction) | exact tf_n1 (by assumption) (by assumption) | exact tf_n2 (by assumption) (by assumption)) ?_; first | assumption | exact va_up_self _ _ _ | (refine tf_u (by first | assumption | (apply Ne.symm; assumption) | (intro hh; subst hh; contradiction) | exact tf_n1 (by assumption) (by assumption) | exact tf_n2 (by assumption) (by assumption)) ?_; first | assumption | exact va_up_self _ _ _ | (refine tf_u (by first | assumption | (apply Ne.symm; assumption) | (intro hh; subst hh; contradiction) | exact tf_n1 (by assumption) (by assumption) | exact tf_n2 (by assumption) (by assumption)) ?_; first | assumption | exact va_up_self _ _ _ | (refine tf_u (by first | assumption | (apply Ne.symm; assumption) | (intro hh; subst hh; contradiction) | exact tf_n1 (by assumption) (by assumption) | exact tf_n2 (by assumption) (by assumption)) ?_; first | assumption | exact va_up_self _ _ _ | (refine tf_u (by first | assumption | (apply Ne.symm; assumption) | (intro hh; subst hh; contradiction) | exact tf_n1 (by assumption) (by assumption) | exact tf_n2 (by assumption) (by assumption)) ?_; first | assumption | exact va_up_self _ _ _)))))
  case hv_3_1 => rfl
  refine tf_blk _ b_Canvas_greyAt_6 rfl ?_
  refine tf_cSN (tf_gok _ _) (c_Tf_within l D q (d - 1) _ _ _ _ _) 11 d_Canvas_greyAt_8 rfl lk_Canvas_47 cw_Tf_within (by rfl) sa_Tf_within (by omega) (by exact Nat.le_of_ble_eq_true rfl) rfl ?_
  rintro v8 L8 f8 ⟨rfl, rfl, rfl⟩
  refine tf_if_eq 32 14 d_Canvas_greyAt_11 rfl rfl (fun h11 => ?_) (fun h11 => ?_)
  · refine tf_blk _ b_Canvas_greyAt_32 rfl ?_
    refine tf_blk _ b_Canvas_greyAt_33 rfl ?_
    refine tf_if_eq 54 38 d_Canvas_greyAt_35 rfl rfl (fun h35 => ?_) (fun h35 => absurd (show kI 0 = 0 by decide) h35)
    refine tf_blk _ b_Canvas_greyAt_54 rfl ?_
    refine tf_iret d_Canvas_greyAt_55 rfl ?_
    refine ⟨?_, rfl, rfl⟩
    split
    · rename_i z
      first
      | rfl
      | (exfalso; have z1 := z.1; have z2 := z.2; simp only [bI_eq0] at *; simp_all)
    · rename_i z
      first
      | rfl
      | (exfalso; exact z ⟨by simp only [bI_eq0] at *; simp_all, by simp only [bI_eq0] at *; simp_all⟩)
  · refine tf_blk _ b_Canvas_greyAt_14 rfl ?_
    refine tf_get (fs := ?fs_17_4) (v := ?v_17_4) 20 d_Canvas_greyAt_17 rfl fl_Canvas_19 ?ha_17_4 ?hf_17_4 ?hv_17_4 ?kk_17_4
    case ha_17_4 => first | assumption | (simp only [List.mem_append, List.mem_singleton]; simp [*])
    case hf_17_4 => first | assumption | exact va_up_self _ _ _ | (refine tf_u (by first | assumption | (apply Ne.symm; assumption) | (intro hh; subst hh; contradiction) | exact tf_n1 (by assumption) (by assumption) | exact tf_n2 (by assumption) (by assumption)) ?_; first | assumption | exact va_up_self _ _ _ | (refine tf_u (by first | assumption | (apply Ne.symm; assumption) | (intro hh; subst hh; contradiction) | exact tf_n1 (by assumption) (by assumption) | exact tf_n2 (by assumption) (by assumption)) ?_; first | assumption | exact va_up_self _ _ _ | (refine tf_u (by first | assumption | (apply Ne.symm; assumption) | (intro hh; subst hh; contradiction) | exact tf_n1 (by assumption) (by assumption) | exact tf_n2 (by assumption) (by assumption)) ?_; first | assumption | exact va_up_self _ _ _ | (refine tf_u (by first | assumption | (apply Ne.symm; assumption) | (intro hh; subst hh; contradiction) | exact tf_n1 (by assumption) (by assumption) | exact tf_n2 (by assumption) (by assumption)) ?_; first | assumption | exact va_up_self _ _ _ | (refine tf_u (by first | assumption | (apply Ne.symm; assumption) | (intro hh; subst hh; contradiction) | exact tf_n1 (by assumption) (by assumption) | exact tf_n2 (by assumption) (by assumption)) ?_; first | assumption | exact va_up_self _ _ _)))))
    case hv_17_4 => rfl
    refine tf_blk _ b_Canvas_greyAt_20 rfl ?_
    refine tf_cSN (tf_gok _ _) (c_Tf_within l D q (d - 1) _ _ _ _ _) 25 d_Canvas_greyAt_22 rfl lk_Canvas_47 cw_Tf_within (by rfl) sa_Tf_within (by omega) (by exact Nat.le_of_ble_eq_true rfl) rfl ?_
    rintro v22 L22 f22 ⟨rfl, rfl, rfl⟩
    refine tf_if_eq 32 28 d_Canvas_greyAt_25 rfl rfl (fun h25 => ?_) (fun h25 => ?_)
    · refine tf_blk _ b_Canvas_greyAt_32 rfl ?_
      refine tf_blk _ b_Canvas_greyAt_33 rfl ?_
      refine tf_if_eq 54 38 d_Canvas_greyAt_35 rfl rfl (fun h35 => ?_) (fun h35 => absurd (show kI 0 = 0 by decide) h35)
      refine tf_blk _ b_Canvas_greyAt_54 rfl ?_
      refine tf_iret d_Canvas_greyAt_55 rfl ?_
      refine ⟨?_, rfl, rfl⟩
      split
      · rename_i z
        first
        | rfl
        | (exfalso; have z1 := z.1; have z2 := z.2; simp only [bI_eq0] at *; simp_all)
      · rename_i z
        first
        | rfl
        | (exfalso; exact z ⟨by simp only [bI_eq0] at *; simp_all, by simp only [bI_eq0] at *; simp_all⟩)
    · refine tf_blk _ b_Canvas_greyAt_28 rfl ?_
      refine tf_goto 33 d_Canvas_greyAt_29 rfl ?_
      refine tf_blk _ b_Canvas_greyAt_33 rfl ?_
      refine tf_if_eq 54 38 d_Canvas_greyAt_35 rfl rfl (fun h35 => absurd h35 (show ¬ kI 1 = 0 by decide)) (fun h35 => ?_)
      refine tf_blk _ b_Canvas_greyAt_38 rfl ?_
      refine tf_get (fs := ?fs_39_7) (v := ?v_39_7) 42 d_Canvas_greyAt_39 rfl fl_Canvas_11 ?ha_39_7 ?hf_39_7 ?hv_39_7 ?kk_39_7
      case ha_39_7 => first | assumption | (simp only [List.mem_append, List.mem_singleton]; simp [*])
      case hf_39_7 => first | assumption | exact va_up_self _ _ _ | (refine tf_u (by first | assumption | (apply Ne.symm; assumption) | (intro hh; subst hh; contradiction) | exact tf_n1 (by assumption) (by assumption) | exact tf_n2 (by assumption) (by assumption)) ?_; first | assumption | exact va_up_self _ _ _ | (refine tf_u (by first | assumption | (apply Ne.symm; assumption) | (intro hh; subst hh; contradiction) | exact tf_n1 (by assumption) (by assumption) | exact tf_n2 (by assumption) (by assumption)) ?_; first | assumption | exact va_up_self _ _ _ | (refine tf_u (by first | assumption | (apply Ne.symm; assumption) | (intro hh; subst hh; contradiction) | exact tf_n1 (by assumption) (by assumption) | exact tf_n2 (by assumption) (by assumption)) ?_; first | assumption | exact va_up_self _ _ _ | (refine tf_u (by first | assumption | (apply Ne.symm; assumption) | (intro hh; subst hh; contradiction) | exact tf_n1 (by assumption) (by assumption) | exact tf_n2 (by assumption) (by assumption)) ?_; first | assumption | exact va_up_self _ _ _ | (refine tf_u (by first | assumption | (apply Ne.symm; assumption) | (intro hh; subst hh; contradiction) | exact tf_n1 (by assumption) (by assumption) | exact tf_n2 (by assumption) (by assumption)) ?_; first | assumption | exact va_up_self _ _ _)))))
      case hv_39_7 => rfl
      refine tf_blk _ b_Canvas_greyAt_42 rfl ?_
      refine tf_get (fs := ?fs_44_8) (v := ?v_44_8) 47 d_Canvas_greyAt_44 rfl fl_Canvas_19 ?ha_44_8 ?hf_44_8 ?hv_44_8 ?kk_44_8
      case ha_44_8 => first | assumption | (simp only [List.mem_append, List.mem_singleton]; simp [*])
      case hf_44_8 => first | assumption | exact va_up_self _ _ _ | (refine tf_u (by first | assumption | (apply Ne.symm; assumption) | (intro hh; subst hh; contradiction) | exact tf_n1 (by assumption) (by assumption) | exact tf_n2 (by assumption) (by assumption)) ?_; first | assumption | exact va_up_self _ _ _ | (refine tf_u (by first | assumption | (apply Ne.symm; assumption) | (intro hh; subst hh; contradiction) | exact tf_n1 (by assumption) (by assumption) | exact tf_n2 (by assumption) (by assumption)) ?_; first | assumption | exact va_up_self _ _ _ | (refine tf_u (by first | assumption | (apply Ne.symm; assumption) | (intro hh; subst hh; contradiction) | exact tf_n1 (by assumption) (by assumption) | exact tf_n2 (by assumption) (by assumption)) ?_; first | assumption | exact va_up_self _ _ _ | (refine tf_u (by first | assumption | (apply Ne.symm; assumption) | (intro hh; subst hh; contradiction) | exact tf_n1 (by assumption) (by assumption) | exact tf_n2 (by assumption) (by assumption)) ?_; first | assumption | exact va_up_self _ _ _ | (refine tf_u (by first | assumption | (apply Ne.symm; assumption) | (intro hh; subst hh; contradiction) | exact tf_n1 (by assumption) (by assumption) | exact tf_n2 (by assumption) (by assumption)) ?_; first | assumption | exact va_up_self _ _ _)))))
      case hv_44_8 => rfl
      refine tf_blk _ b_Canvas_greyAt_47 rfl ?_
      refine tf_iald (n := ?n_50_9) (g := ?g_50_9) 51 0 d_Canvas_greyAt_50 rfl rfl ?ha_50_9 ?hf_50_9 ?hi_50_9 ?kk_50_9
      case ha_50_9 => first | assumption | (simp only [List.mem_append, List.mem_singleton]; simp [*])
      case hf_50_9 => first | assumption | exact va_up_self _ _ _ | (refine tf_u (by first | assumption | (apply Ne.symm; assumption) | (intro hh; subst hh; contradiction) | exact tf_n1 (by assumption) (by assumption) | exact tf_n2 (by assumption) (by assumption)) ?_; first | assumption | exact va_up_self _ _ _ | (refine tf_u (by first | assumption | (apply Ne.symm; assumption) | (intro hh; subst hh; contradiction) | exact tf_n1 (by assumption) (by assumption) | exact tf_n2 (by assumption) (by assumption)) ?_; first | assumption | exact va_up_self _ _ _ | (refine tf_u (by first | assumption | (apply Ne.symm; assumption) | (intro hh; subst hh; contradiction) | exact tf_n1 (by assumption) (by assumption) | exact tf_n2 (by assumption) (by assumption)) ?_; first | assumption | exact va_up_self _ _ _ | (refine tf_u (by first | assumption | (apply Ne.symm; assumption) | (intro hh; subst hh; contradiction) | exact tf_n1 (by assumption) (by assumption) | exact tf_n2 (by assumption) (by assumption)) ?_; first | assumption | exact va_up_self _ _ _ | (refine tf_u (by first | assumption | (apply Ne.symm; assumption) | (intro hh; subst hh; contradiction) | exact tf_n1 (by assumption) (by assumption) | exact tf_n2 (by assumption) (by assumption)) ?_; first | assumption | exact va_up_self _ _ _)))))
      case hi_50_9 => exact hv (bI_t h11) (bI_t h25)
      refine tf_goto 55 d_Canvas_greyAt_51 rfl ?_
      refine tf_iret d_Canvas_greyAt_55 rfl ?_
      refine ⟨?_, rfl, rfl⟩
      split
      · rename_i z
        first
        | rfl
        | (exfalso; have z1 := z.1; have z2 := z.2; simp only [bI_eq0] at *; simp_all)
      · rename_i z
        first
        | rfl
        | (exfalso; exact z ⟨by simp only [bI_eq0] at *; simp_all, by simp only [bI_eq0] at *; simp_all⟩)
end
