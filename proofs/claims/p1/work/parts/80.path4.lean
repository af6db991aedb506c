/-! Path.follow -/
section
variable (l : Launch) (D : va_G) (q : Nat → ClassId) (d : Nat) (L : List Nat) (f : tf_F)
end
def tw_nx (s e i : Nat) : Nat := if i + 1 < e then i + 1 else s
def tw_pv (s e i : Nat) : Nat := if s < i then i - 1 else e - 1
/-- the piece of a contour (its points from s to before e) behind point i -/
def tw_fol1 (X Y O : Nat → Int32) (s e i : Nat) (w : tw_PW) : tw_PW :=
  if O i = 0 then tw_qd X Y O (tw_pv s e i) i (tw_nx s e i) w else if O (tw_nx s e i) = 0 then w else tw_cor (X (tw_nx s e i)) (Y (tw_nx s e i)) w
def tw_fol (X Y O : Nat → Int32) (s e : Nat) : Nat → Nat → tw_PW → tw_PW
  | 0, _, w => w
  | m + 1, i, w => tw_fol X Y O s e m (i + 1) (tw_fol1 X Y O s e i w)
theorem tw_fol1_n (X Y O : Nat → Int32) (s e i : Nat) (w : tw_PW) : (tw_fol1 X Y O s e i w).1 ≤ w.1 + 8 := by
  unfold tw_fol1
  split
  · unfold tw_qd; rw [tw_quad_n]; exact Nat.le_refl _
  · split
    · omega
    · show w.1 + 1 ≤ _; omega
theorem tw_fol_n (X Y O : Nat → Int32) (s e : Nat) : ∀ m i w, (tw_fol X Y O s e m i w).1 ≤ w.1 + 8 * m := by
  intro m
  induction m with
  | zero => intro i w; exact Nat.le_refl _
  | succ m ih => intro i w; have := ih (i + 1) (tw_fol1 X Y O s e i w); have := tw_fol1_n X Y O s e i w; rw [tw_fol]; omega
section
variable (l : Launch) (D : va_G) (q : Nat → ClassId) (d : Nat) (L : List Nat) (f : tf_F)
set_option maxHeartbeats 4000000 in
set_option maxRecDepth 100000 in
theorem t_Path_fol (hd : 4 ≤ d) {a xs ys b ox oy oo : Nat} {v3 v4 v5 v6 : Value} {X Y O : Nat → Int32} {w0 : tw_PW} (ha : a ∈ L) (hxs : xs ∈ L) (hys : ys ∈ L) (hne : ys ≠ xs) (hb : b ∈ L) (hox : ox ∈ L) (hoy : oy ∈ L) (hoo : oo ∈ L) (fa0 : f a = to 8 [.ref xs, .ref ys, .int (nI w0.1)]) (fx0 : f xs = ti q 320 w0.2.1) (fy0 : f ys = ti q 320 w0.2.2) (fb0 : f b = to 6 [.ref ox, .ref oy, .ref oo, v3, v4, v5, v6]) (fX0 : f ox = ti q 160 X) (fY0 : f oy = ti q 160 Y) (fO0 : f oo = tz q 160 O) {s e : Nat} (hse : s ≤ e) (he : e ≤ 160) (c : Int32) : ∀ m i (w : tw_PW) (fc : tf_F), i + m = e → s ≤ i → w.1 + 8 * m ≤ 320 → pa_at q a xs ys f w fc → tf_W l (tf_H D q) tf_T (tf_QM (tf_H D q) (fun v L2 f2 => v = none ∧ L2 = L ∧ pa_at q a xs ys f (tw_fol X Y O s e m i w) f2)) d i_Path_follow 25 [(0, .ref a), (1, .ref b), (2, .int c), (3, .int (nI s)), (4, .int (nI e)), (5, .int (nI i))] [] L fc 0 0 := by
  intro m
  induction m with
  | zero =>
    intro i w fc hm hs hw hP
    refine tf_blk _ b_Path_follow_25 rfl ?_
    refine tf_ic_ge 124 32 d_Path_follow_29 rfl rfl (fun h29 => ?_) (fun h29 => absurd (nI_le (by omega) (by omega)) h29)
    refine tf_vret d_Path_follow_124 rfl ?_
    exact ⟨rfl, rfl, hP⟩
  | succ m ih =>
    intro i w fc hm hs hw hP
    have fb : fc b = to 6 [.ref ox, .ref oy, .ref oo, v3, v4, v5, v6] := (hP.2.2.2 b (tf_n3 fb0 fa0 (by decide)) (tf_n1 fb0 fx0) (tf_n1 fb0 fy0)).trans fb0
    have fX : fc ox = ti q 160 X := (hP.2.2.2 ox (tf_n2 fX0 fa0) (tf_n4 fX0 fx0 (by decide)) (tf_n4 fX0 fy0 (by decide))).trans fX0
    have fY : fc oy = ti q 160 Y := (hP.2.2.2 oy (tf_n2 fY0 fa0) (tf_n4 fY0 fx0 (by decide)) (tf_n4 fY0 fy0 (by decide))).trans fY0
    have fO : fc oo = tz q 160 O := (hP.2.2.2 oo (tf_n2 fO0 fa0) (tf_n4 fO0 fx0 (by decide)) (tf_n4 fO0 fy0 (by decide))).trans fO0
    obtain ⟨fa, fxs, fys, hf⟩ := id hP
    have hiv : vp_in (nI i) 160 := vp_in_nI (by omega) (by omega)
    have hic : (nI i).toNatClampNeg = i := nI_clamp (by omega)
    have hn1 := tw_fol1_n X Y O s e i w
    have e1 : nI i + kI 1 = nI (i + 1) := nI_1 i
    by_cases c1 : i + 1 < e
    · by_cases c2 : O i = 0
      · have c4 : True := trivial
        by_cases c3 : s < i
        · have hnv : vp_in (nI (i + 1)) 160 := vp_in_nI (by omega) (by omega)
          have hnc : (nI (i + 1)).toNatClampNeg = (i + 1) := nI_clamp (by omega)
          refine tf_blk _ b_Path_follow_25 rfl ?_
          refine tf_ic_ge 124 32 d_Path_follow_29 rfl rfl (fun h29 => absurd h29 (nI_ge (by omega) (by omega))) (fun h29 => ?_)
          refine tf_blk _ b_Path_follow_32 rfl ?_
          refine tf_ic_ge 48 41 d_Path_follow_38 rfl rfl (fun h38 => absurd h38 (show ¬ nI e ≤ nI i + kI 1 from by rw [e1]; exact nI_ge (by omega) (by omega))) (fun h38 => ?_)
          refine tf_blk _ b_Path_follow_41 rfl ?_
          refine tf_goto 49 d_Path_follow_45 rfl ?_
          rw [e1]
          refine tf_blk _ b_Path_follow_49 rfl ?_
          refine tf_get (fs := ?fs_52_2) (v := ?v_52_2) 55 d_Path_follow_52 rfl fl_Path_27 ?ha_52_2 ?hf_52_2 ?hv_52_2 ?kk_52_2
          case ha_52_2 => first | assumption | (simp only [List.mem_append, List.mem_singleton]; simp [*])
          case hf_52_2 => first | assumption | exact va_up_self _ _ _ | (refine tf_u (by first | assumption | (apply Ne.symm; assumption) | (intro hh; subst hh; contradiction) | exact tf_n1 (by assumption) (by assumption) | exact tf_n2 (by assumption) (by assumption)) ?_; first | assumption | exact va_up_self _ _ _ | (refine tf_u (by first | assumption | (apply Ne.symm; assumption) | (intro hh; subst hh; contradiction) | exact tf_n1 (by assumption) (by assumption) | exact tf_n2 (by assumption) (by assumption)) ?_; first | assumption | exact va_up_self _ _ _ | (refine tf_u (by first | assumption | (apply Ne.symm; assumption) | (intro hh; subst hh; contradiction) | exact tf_n1 (by assumption) (by assumption) | exact tf_n2 (by assumption) (by assumption)) ?_; first | assumption | exact va_up_self _ _ _ | (refine tf_u (by first | assumption | (apply Ne.symm; assumption) | (intro hh; subst hh; contradiction) | exact tf_n1 (by assumption) (by assumption) | exact tf_n2 (by assumption) (by assumption)) ?_; first | assumption | exact va_up_self _ _ _ | (refine tf_u (by first | assumption | (apply Ne.symm; assumption) | (intro hh; subst hh; contradiction) | exact tf_n1 (by assumption) (by assumption) | exact tf_n2 (by assumption) (by assumption)) ?_; first | assumption | exact va_up_self _ _ _)))))
          case hv_52_2 => rfl
          refine tf_blk _ b_Path_follow_55 rfl ?_
          refine tf_zald (n := ?n_57_3) (g := ?g_57_3) 58 1 d_Path_follow_57 rfl rfl ?ha_57_3 ?hf_57_3 ?hi_57_3 ?kk_57_3
          case ha_57_3 => first | assumption | (simp only [List.mem_append, List.mem_singleton]; simp [*])
          case hf_57_3 => first | assumption | exact va_up_self _ _ _ | (refine tf_u (by first | assumption | (apply Ne.symm; assumption) | (intro hh; subst hh; contradiction) | exact tf_n1 (by assumption) (by assumption) | exact tf_n2 (by assumption) (by assumption)) ?_; first | assumption | exact va_up_self _ _ _ | (refine tf_u (by first | assumption | (apply Ne.symm; assumption) | (intro hh; subst hh; contradiction) | exact tf_n1 (by assumption) (by assumption) | exact tf_n2 (by assumption) (by assumption)) ?_; first | assumption | exact va_up_self _ _ _ | (refine tf_u (by first | assumption | (apply Ne.symm; assumption) | (intro hh; subst hh; contradiction) | exact tf_n1 (by assumption) (by assumption) | exact tf_n2 (by assumption) (by assumption)) ?_; first | assumption | exact va_up_self _ _ _ | (refine tf_u (by first | assumption | (apply Ne.symm; assumption) | (intro hh; subst hh; contradiction) | exact tf_n1 (by assumption) (by assumption) | exact tf_n2 (by assumption) (by assumption)) ?_; first | assumption | exact va_up_self _ _ _ | (refine tf_u (by first | assumption | (apply Ne.symm; assumption) | (intro hh; subst hh; contradiction) | exact tf_n1 (by assumption) (by assumption) | exact tf_n2 (by assumption) (by assumption)) ?_; first | assumption | exact va_up_self _ _ _)))))
          case hi_57_3 => exact hiv
          rw [hic]
          refine tf_if_ne 90 61 d_Path_follow_58 rfl rfl (fun h58 => absurd h58 (not_not_intro c2)) (fun h58 => ?_)
          refine tf_blk _ b_Path_follow_61 rfl ?_
          refine tf_ic_le 76 69 d_Path_follow_66 rfl rfl (fun h66 => absurd h66 (nI_ge (by omega) (by omega))) (fun h66 => ?_)
          refine tf_blk _ b_Path_follow_69 rfl ?_
          refine tf_goto 80 d_Path_follow_73 rfl ?_
          rw [nI_sub1 (by omega)]
          refine tf_blk _ b_Path_follow_80 rfl ?_
          refine tf_cV (tf_gok _ _) (c_Path_addQuadratic l D q (d - 1) _ fc (by omega) ha hxs hys hne hb hox hoy hoo fa fxs fys fb fX fY fO (i := (i - 1)) (j := i) (t := (i + 1)) (by omega) (by omega) (by omega) (by omega)) 87 d_Path_follow_84 rfl lk_Path_31 cw_Path_addQuadratic (by rfl) in_Path_addQuadratic se_Path_addQuadratic (by first | assumption | (simp only [List.mem_append, List.mem_singleton]; simp [*])) (by first | assumption | exact va_up_self _ _ _ | (refine tf_u (by first | assumption | (apply Ne.symm; assumption) | (intro hh; subst hh; contradiction) | exact tf_n1 (by assumption) (by assumption) | exact tf_n2 (by assumption) (by assumption)) ?_; first | assumption | exact va_up_self _ _ _ | (refine tf_u (by first | assumption | (apply Ne.symm; assumption) | (intro hh; subst hh; contradiction) | exact tf_n1 (by assumption) (by assumption) | exact tf_n2 (by assumption) (by assumption)) ?_; first | assumption | exact va_up_self _ _ _ | (refine tf_u (by first | assumption | (apply Ne.symm; assumption) | (intro hh; subst hh; contradiction) | exact tf_n1 (by assumption) (by assumption) | exact tf_n2 (by assumption) (by assumption)) ?_; first | assumption | exact va_up_self _ _ _ | (refine tf_u (by first | assumption | (apply Ne.symm; assumption) | (intro hh; subst hh; contradiction) | exact tf_n1 (by assumption) (by assumption) | exact tf_n2 (by assumption) (by assumption)) ?_; first | assumption | exact va_up_self _ _ _ | (refine tf_u (by first | assumption | (apply Ne.symm; assumption) | (intro hh; subst hh; contradiction) | exact tf_n1 (by assumption) (by assumption) | exact tf_n2 (by assumption) (by assumption)) ?_; first | assumption | exact va_up_self _ _ _)))))) (by rfl) (by rfl) (by omega) (by exact Nat.le_of_ble_eq_true rfl) rfl ?_
          rintro v84 L84 f84 ⟨rfl, rfl, k1⟩
          refine tf_goto 118 d_Path_follow_87 rfl ?_
          refine tf_blk _ b_Path_follow_118 rfl ?_
          refine tf_goto 25 d_Path_follow_121 rfl ?_
          refine tf_drop [0, 1, 2, 3, 4, 5] rfl ?_
          have h9 := ih (i + 1) (tw_fol1 X Y O s e i w) _ (by omega) (by omega) (by omega) (by
            rw [show tw_fol1 X Y O s e i w = tw_qd X Y O (i - 1) i (i + 1) w from by unfold tw_fol1 tw_nx tw_pv; simp only [c1, c2, c3, c4, if_true, if_false]]
            exact pa_tr hP k1)
          rw [nI_succ] at h9
          exact h9
        have hnv : vp_in (nI (i + 1)) 160 := vp_in_nI (by omega) (by omega)
        have hnc : (nI (i + 1)).toNatClampNeg = (i + 1) := nI_clamp (by omega)
        refine tf_blk _ b_Path_follow_25 rfl ?_
        refine tf_ic_ge 124 32 d_Path_follow_29 rfl rfl (fun h29 => absurd h29 (nI_ge (by omega) (by omega))) (fun h29 => ?_)
        refine tf_blk _ b_Path_follow_32 rfl ?_
        refine tf_ic_ge 48 41 d_Path_follow_38 rfl rfl (fun h38 => absurd h38 (show ¬ nI e ≤ nI i + kI 1 from by rw [e1]; exact nI_ge (by omega) (by omega))) (fun h38 => ?_)
        refine tf_blk _ b_Path_follow_41 rfl ?_
        refine tf_goto 49 d_Path_follow_45 rfl ?_
        rw [e1]
        refine tf_blk _ b_Path_follow_49 rfl ?_
        refine tf_get (fs := ?fs_52_5) (v := ?v_52_5) 55 d_Path_follow_52 rfl fl_Path_27 ?ha_52_5 ?hf_52_5 ?hv_52_5 ?kk_52_5
        case ha_52_5 => first | assumption | (simp only [List.mem_append, List.mem_singleton]; simp [*])
        case hf_52_5 => first | assumption | exact va_up_self _ _ _ | (refine tf_u (by first | assumption | (apply Ne.symm; assumption) | (intro hh; subst hh; contradiction) | exact tf_n1 (by assumption) (by assumption) | exact tf_n2 (by assumption) (by assumption)) ?_; first | assumption | exact va_up_self _ _ _ | (refine tf_u (by first | assumption | (apply Ne.symm; assumption) | (intro hh; subst hh; contradiction) | exact tf_n1 (by assumption) (by assumption) | exact tf_n2 (by assumption) (by assumption)) ?_; first | assumption | exact va_up_self _ _ _ | (refine tf_u (by first | assumption | (apply Ne.symm; assumption) | (intro hh; subst hh; contradiction) | exact tf_n1 (by assumption) (by assumption) | exact tf_n2 (by assumption) (by assumption)) ?_; first | assumption | exact va_up_self _ _ _ | (refine tf_u (by first | assumption | (apply Ne.symm; assumption) | (intro hh; subst hh; contradiction) | exact tf_n1 (by assumption) (by assumption) | exact tf_n2 (by assumption) (by assumption)) ?_; first | assumption | exact va_up_self _ _ _ | (refine tf_u (by first | assumption | (apply Ne.symm; assumption) | (intro hh; subst hh; contradiction) | exact tf_n1 (by assumption) (by assumption) | exact tf_n2 (by assumption) (by assumption)) ?_; first | assumption | exact va_up_self _ _ _)))))
        case hv_52_5 => rfl
        refine tf_blk _ b_Path_follow_55 rfl ?_
        refine tf_zald (n := ?n_57_6) (g := ?g_57_6) 58 1 d_Path_follow_57 rfl rfl ?ha_57_6 ?hf_57_6 ?hi_57_6 ?kk_57_6
        case ha_57_6 => first | assumption | (simp only [List.mem_append, List.mem_singleton]; simp [*])
        case hf_57_6 => first | assumption | exact va_up_self _ _ _ | (refine tf_u (by first | assumption | (apply Ne.symm; assumption) | (intro hh; subst hh; contradiction) | exact tf_n1 (by assumption) (by assumption) | exact tf_n2 (by assumption) (by assumption)) ?_; first | assumption | exact va_up_self _ _ _ | (refine tf_u (by first | assumption | (apply Ne.symm; assumption) | (intro hh; subst hh; contradiction) | exact tf_n1 (by assumption) (by assumption) | exact tf_n2 (by assumption) (by assumption)) ?_; first | assumption | exact va_up_self _ _ _ | (refine tf_u (by first | assumption | (apply Ne.symm; assumption) | (intro hh; subst hh; contradiction) | exact tf_n1 (by assumption) (by assumption) | exact tf_n2 (by assumption) (by assumption)) ?_; first | assumption | exact va_up_self _ _ _ | (refine tf_u (by first | assumption | (apply Ne.symm; assumption) | (intro hh; subst hh; contradiction) | exact tf_n1 (by assumption) (by assumption) | exact tf_n2 (by assumption) (by assumption)) ?_; first | assumption | exact va_up_self _ _ _ | (refine tf_u (by first | assumption | (apply Ne.symm; assumption) | (intro hh; subst hh; contradiction) | exact tf_n1 (by assumption) (by assumption) | exact tf_n2 (by assumption) (by assumption)) ?_; first | assumption | exact va_up_self _ _ _)))))
        case hi_57_6 => exact hiv
        rw [hic]
        refine tf_if_ne 90 61 d_Path_follow_58 rfl rfl (fun h58 => absurd h58 (not_not_intro c2)) (fun h58 => ?_)
        refine tf_blk _ b_Path_follow_61 rfl ?_
        refine tf_ic_le 76 69 d_Path_follow_66 rfl rfl (fun h66 => ?_) (fun h66 => absurd (nI_le (by omega) (by omega)) h66)
        refine tf_blk _ b_Path_follow_76 rfl ?_
        rw [nI_sub1 (by omega)]
        refine tf_blk _ b_Path_follow_80 rfl ?_
        refine tf_cV (tf_gok _ _) (c_Path_addQuadratic l D q (d - 1) _ fc (by omega) ha hxs hys hne hb hox hoy hoo fa fxs fys fb fX fY fO (i := (e - 1)) (j := i) (t := (i + 1)) (by omega) (by omega) (by omega) (by omega)) 87 d_Path_follow_84 rfl lk_Path_31 cw_Path_addQuadratic (by rfl) in_Path_addQuadratic se_Path_addQuadratic (by first | assumption | (simp only [List.mem_append, List.mem_singleton]; simp [*])) (by first | assumption | exact va_up_self _ _ _ | (refine tf_u (by first | assumption | (apply Ne.symm; assumption) | (intro hh; subst hh; contradiction) | exact tf_n1 (by assumption) (by assumption) | exact tf_n2 (by assumption) (by assumption)) ?_; first | assumption | exact va_up_self _ _ _ | (refine tf_u (by first | assumption | (apply Ne.symm; assumption) | (intro hh; subst hh; contradiction) | exact tf_n1 (by assumption) (by assumption) | exact tf_n2 (by assumption) (by assumption)) ?_; first | assumption | exact va_up_self _ _ _ | (refine tf_u (by first | assumption | (apply Ne.symm; assumption) | (intro hh; subst hh; contradiction) | exact tf_n1 (by assumption) (by assumption) | exact tf_n2 (by assumption) (by assumption)) ?_; first | assumption | exact va_up_self _ _ _ | (refine tf_u (by first | assumption | (apply Ne.symm; assumption) | (intro hh; subst hh; contradiction) | exact tf_n1 (by assumption) (by assumption) | exact tf_n2 (by assumption) (by assumption)) ?_; first | assumption | exact va_up_self _ _ _ | (refine tf_u (by first | assumption | (apply Ne.symm; assumption) | (intro hh; subst hh; contradiction) | exact tf_n1 (by assumption) (by assumption) | exact tf_n2 (by assumption) (by assumption)) ?_; first | assumption | exact va_up_self _ _ _)))))) (by rfl) (by rfl) (by omega) (by exact Nat.le_of_ble_eq_true rfl) rfl ?_
        rintro v84 L84 f84 ⟨rfl, rfl, k1⟩
        refine tf_goto 118 d_Path_follow_87 rfl ?_
        refine tf_blk _ b_Path_follow_118 rfl ?_
        refine tf_goto 25 d_Path_follow_121 rfl ?_
        refine tf_drop [0, 1, 2, 3, 4, 5] rfl ?_
        have h9 := ih (i + 1) (tw_fol1 X Y O s e i w) _ (by omega) (by omega) (by omega) (by
          rw [show tw_fol1 X Y O s e i w = tw_qd X Y O (e - 1) i (i + 1) w from by unfold tw_fol1 tw_nx tw_pv; simp only [c1, c2, c3, c4, if_true, if_false]]
          exact pa_tr hP k1)
        rw [nI_succ] at h9
        exact h9
      have c3 : True := trivial
      by_cases c4 : O (i + 1) = 0
      · have hnv : vp_in (nI (i + 1)) 160 := vp_in_nI (by omega) (by omega)
        have hnc : (nI (i + 1)).toNatClampNeg = (i + 1) := nI_clamp (by omega)
        refine tf_blk _ b_Path_follow_25 rfl ?_
        refine tf_ic_ge 124 32 d_Path_follow_29 rfl rfl (fun h29 => absurd h29 (nI_ge (by omega) (by omega))) (fun h29 => ?_)
        refine tf_blk _ b_Path_follow_32 rfl ?_
        refine tf_ic_ge 48 41 d_Path_follow_38 rfl rfl (fun h38 => absurd h38 (show ¬ nI e ≤ nI i + kI 1 from by rw [e1]; exact nI_ge (by omega) (by omega))) (fun h38 => ?_)
        refine tf_blk _ b_Path_follow_41 rfl ?_
        refine tf_goto 49 d_Path_follow_45 rfl ?_
        rw [e1]
        refine tf_blk _ b_Path_follow_49 rfl ?_
        refine tf_get (fs := ?fs_52_8) (v := ?v_52_8) 55 d_Path_follow_52 rfl fl_Path_27 ?ha_52_8 ?hf_52_8 ?hv_52_8 ?kk_52_8
        case ha_52_8 => first | assumption | (simp only [List.mem_append, List.mem_singleton]; simp [*])
        case hf_52_8 => first | assumption | exact va_up_self _ _ _ | (refine tf_u (by first | assumption | (apply Ne.symm; assumption) | (intro hh; subst hh; contradiction) | exact tf_n1 (by assumption) (by assumption) | exact tf_n2 (by assumption) (by assumption)) ?_; first | assumption | exact va_up_self _ _ _ | (refine tf_u (by first | assumption | (apply Ne.symm; assumption) | (intro hh; subst hh; contradiction) | exact tf_n1 (by assumption) (by assumption) | exact tf_n2 (by assumption) (by assumption)) ?_; first | assumption | exact va_up_self _ _ _ | (refine tf_u (by first | assumption | (apply Ne.symm; assumption) | (intro hh; subst hh; contradiction) | exact tf_n1 (by assumption) (by assumption) | exact tf_n2 (by assumption) (by assumption)) ?_; first | assumption | exact va_up_self _ _ _ | (refine tf_u (by first | assumption | (apply Ne.symm; assumption) | (intro hh; subst hh; contradiction) | exact tf_n1 (by assumption) (by assumption) | exact tf_n2 (by assumption) (by assumption)) ?_; first | assumption | exact va_up_self _ _ _ | (refine tf_u (by first | assumption | (apply Ne.symm; assumption) | (intro hh; subst hh; contradiction) | exact tf_n1 (by assumption) (by assumption) | exact tf_n2 (by assumption) (by assumption)) ?_; first | assumption | exact va_up_self _ _ _)))))
        case hv_52_8 => rfl
        refine tf_blk _ b_Path_follow_55 rfl ?_
        refine tf_zald (n := ?n_57_9) (g := ?g_57_9) 58 1 d_Path_follow_57 rfl rfl ?ha_57_9 ?hf_57_9 ?hi_57_9 ?kk_57_9
        case ha_57_9 => first | assumption | (simp only [List.mem_append, List.mem_singleton]; simp [*])
        case hf_57_9 => first | assumption | exact va_up_self _ _ _ | (refine tf_u (by first | assumption | (apply Ne.symm; assumption) | (intro hh; subst hh; contradiction) | exact tf_n1 (by assumption) (by assumption) | exact tf_n2 (by assumption) (by assumption)) ?_; first | assumption | exact va_up_self _ _ _ | (refine tf_u (by first | assumption | (apply Ne.symm; assumption) | (intro hh; subst hh; contradiction) | exact tf_n1 (by assumption) (by assumption) | exact tf_n2 (by assumption) (by assumption)) ?_; first | assumption | exact va_up_self _ _ _ | (refine tf_u (by first | assumption | (apply Ne.symm; assumption) | (intro hh; subst hh; contradiction) | exact tf_n1 (by assumption) (by assumption) | exact tf_n2 (by assumption) (by assumption)) ?_; first | assumption | exact va_up_self _ _ _ | (refine tf_u (by first | assumption | (apply Ne.symm; assumption) | (intro hh; subst hh; contradiction) | exact tf_n1 (by assumption) (by assumption) | exact tf_n2 (by assumption) (by assumption)) ?_; first | assumption | exact va_up_self _ _ _ | (refine tf_u (by first | assumption | (apply Ne.symm; assumption) | (intro hh; subst hh; contradiction) | exact tf_n1 (by assumption) (by assumption) | exact tf_n2 (by assumption) (by assumption)) ?_; first | assumption | exact va_up_self _ _ _)))))
        case hi_57_9 => exact hiv
        rw [hic]
        refine tf_if_ne 90 61 d_Path_follow_58 rfl rfl (fun h58 => ?_) (fun h58 => absurd h58 (c2))
        refine tf_blk _ b_Path_follow_90 rfl ?_
        refine tf_get (fs := ?fs_91_10) (v := ?v_91_10) 94 d_Path_follow_91 rfl fl_Path_27 ?ha_91_10 ?hf_91_10 ?hv_91_10 ?kk_91_10
        case ha_91_10 => first | assumption | (simp only [List.mem_append, List.mem_singleton]; simp [*])
        case hf_91_10 => first | assumption | exact va_up_self _ _ _ | (refine tf_u (by first | assumption | (apply Ne.symm; assumption) | (intro hh; subst hh; contradiction) | exact tf_n1 (by assumption) (by assumption) | exact tf_n2 (by assumption) (by assumption)) ?_; first | assumption | exact va_up_self _ _ _ | (refine tf_u (by first | assumption | (apply Ne.symm; assumption) | (intro hh; subst hh; contradiction) | exact tf_n1 (by assumption) (by assumption) | exact tf_n2 (by assumption) (by assumption)) ?_; first | assumption | exact va_up_self _ _ _ | (refine tf_u (by first | assumption | (apply Ne.symm; assumption) | (intro hh; subst hh; contradiction) | exact tf_n1 (by assumption) (by assumption) | exact tf_n2 (by assumption) (by assumption)) ?_; first | assumption | exact va_up_self _ _ _ | (refine tf_u (by first | assumption | (apply Ne.symm; assumption) | (intro hh; subst hh; contradiction) | exact tf_n1 (by assumption) (by assumption) | exact tf_n2 (by assumption) (by assumption)) ?_; first | assumption | exact va_up_self _ _ _ | (refine tf_u (by first | assumption | (apply Ne.symm; assumption) | (intro hh; subst hh; contradiction) | exact tf_n1 (by assumption) (by assumption) | exact tf_n2 (by assumption) (by assumption)) ?_; first | assumption | exact va_up_self _ _ _)))))
        case hv_91_10 => rfl
        refine tf_blk _ b_Path_follow_94 rfl ?_
        refine tf_zald (n := ?n_96_11) (g := ?g_96_11) 97 1 d_Path_follow_96 rfl rfl ?ha_96_11 ?hf_96_11 ?hi_96_11 ?kk_96_11
        case ha_96_11 => first | assumption | (simp only [List.mem_append, List.mem_singleton]; simp [*])
        case hf_96_11 => first | assumption | exact va_up_self _ _ _ | (refine tf_u (by first | assumption | (apply Ne.symm; assumption) | (intro hh; subst hh; contradiction) | exact tf_n1 (by assumption) (by assumption) | exact tf_n2 (by assumption) (by assumption)) ?_; first | assumption | exact va_up_self _ _ _ | (refine tf_u (by first | assumption | (apply Ne.symm; assumption) | (intro hh; subst hh; contradiction) | exact tf_n1 (by assumption) (by assumption) | exact tf_n2 (by assumption) (by assumption)) ?_; first | assumption | exact va_up_self _ _ _ | (refine tf_u (by first | assumption | (apply Ne.symm; assumption) | (intro hh; subst hh; contradiction) | exact tf_n1 (by assumption) (by assumption) | exact tf_n2 (by assumption) (by assumption)) ?_; first | assumption | exact va_up_self _ _ _ | (refine tf_u (by first | assumption | (apply Ne.symm; assumption) | (intro hh; subst hh; contradiction) | exact tf_n1 (by assumption) (by assumption) | exact tf_n2 (by assumption) (by assumption)) ?_; first | assumption | exact va_up_self _ _ _ | (refine tf_u (by first | assumption | (apply Ne.symm; assumption) | (intro hh; subst hh; contradiction) | exact tf_n1 (by assumption) (by assumption) | exact tf_n2 (by assumption) (by assumption)) ?_; first | assumption | exact va_up_self _ _ _)))))
        case hi_96_11 => exact hnv
        rw [hnc]
        refine tf_if_eq 118 100 d_Path_follow_97 rfl rfl (fun h97 => ?_) (fun h97 => absurd (c4) h97)
        refine tf_blk _ b_Path_follow_118 rfl ?_
        refine tf_goto 25 d_Path_follow_121 rfl ?_
        refine tf_drop [0, 1, 2, 3, 4, 5] rfl ?_
        have h9 := ih (i + 1) (tw_fol1 X Y O s e i w) _ (by omega) (by omega) (by omega) (by
          rw [show tw_fol1 X Y O s e i w = w from by unfold tw_fol1 tw_nx tw_pv; simp only [c1, c2, c3, c4, if_true, if_false]]
          exact hP)
        rw [nI_succ] at h9
        exact h9
      have hnv : vp_in (nI (i + 1)) 160 := vp_in_nI (by omega) (by omega)
      have hnc : (nI (i + 1)).toNatClampNeg = (i + 1) := nI_clamp (by omega)
      refine tf_blk _ b_Path_follow_25 rfl ?_
      refine tf_ic_ge 124 32 d_Path_follow_29 rfl rfl (fun h29 => absurd h29 (nI_ge (by omega) (by omega))) (fun h29 => ?_)
      refine tf_blk _ b_Path_follow_32 rfl ?_
      refine tf_ic_ge 48 41 d_Path_follow_38 rfl rfl (fun h38 => absurd h38 (show ¬ nI e ≤ nI i + kI 1 from by rw [e1]; exact nI_ge (by omega) (by omega))) (fun h38 => ?_)
      refine tf_blk _ b_Path_follow_41 rfl ?_
      refine tf_goto 49 d_Path_follow_45 rfl ?_
      rw [e1]
      refine tf_blk _ b_Path_follow_49 rfl ?_
      refine tf_get (fs := ?fs_52_12) (v := ?v_52_12) 55 d_Path_follow_52 rfl fl_Path_27 ?ha_52_12 ?hf_52_12 ?hv_52_12 ?kk_52_12
      case ha_52_12 => first | assumption | (simp only [List.mem_append, List.mem_singleton]; simp [*])
      case hf_52_12 => first | assumption | exact va_up_self _ _ _ | (refine tf_u (by first | assumption | (apply Ne.symm; assumption) | (intro hh; subst hh; contradiction) | exact tf_n1 (by assumption) (by assumption) | exact tf_n2 (by assumption) (by assumption)) ?_; first | assumption | exact va_up_self _ _ _ | (refine tf_u (by first | assumption | (apply Ne.symm; assumption) | (intro hh; subst hh; contradiction) | exact tf_n1 (by assumption) (by assumption) | exact tf_n2 (by assumption) (by assumption)) ?_; first | assumption | exact va_up_self _ _ _ | (refine tf_u (by first | assumption | (apply Ne.symm; assumption) | (intro hh; subst hh; contradiction) | exact tf_n1 (by assumption) (by assumption) | exact tf_n2 (by assumption) (by assumption)) ?_; first | assumption | exact va_up_self _ _ _ | (refine tf_u (by first | assumption | (apply Ne.symm; assumption) | (intro hh; subst hh; contradiction) | exact tf_n1 (by assumption) (by assumption) | exact tf_n2 (by assumption) (by assumption)) ?_; first | assumption | exact va_up_self _ _ _ | (refine tf_u (by first | assumption | (apply Ne.symm; assumption) | (intro hh; subst hh; contradiction) | exact tf_n1 (by assumption) (by assumption) | exact tf_n2 (by assumption) (by assumption)) ?_; first | assumption | exact va_up_self _ _ _)))))
      case hv_52_12 => rfl
      refine tf_blk _ b_Path_follow_55 rfl ?_
      refine tf_zald (n := ?n_57_13) (g := ?g_57_13) 58 1 d_Path_follow_57 rfl rfl ?ha_57_13 ?hf_57_13 ?hi_57_13 ?kk_57_13
      case ha_57_13 => first | assumption | (simp only [List.mem_append, List.mem_singleton]; simp [*])
      case hf_57_13 => first | assumption | exact va_up_self _ _ _ | (refine tf_u (by first | assumption | (apply Ne.symm; assumption) | (intro hh; subst hh; contradiction) | exact tf_n1 (by assumption) (by assumption) | exact tf_n2 (by assumption) (by assumption)) ?_; first | assumption | exact va_up_self _ _ _ | (refine tf_u (by first | assumption | (apply Ne.symm; assumption) | (intro hh; subst hh; contradiction) | exact tf_n1 (by assumption) (by assumption) | exact tf_n2 (by assumption) (by assumption)) ?_; first | assumption | exact va_up_self _ _ _ | (refine tf_u (by first | assumption | (apply Ne.symm; assumption) | (intro hh; subst hh; contradiction) | exact tf_n1 (by assumption) (by assumption) | exact tf_n2 (by assumption) (by assumption)) ?_; first | assumption | exact va_up_self _ _ _ | (refine tf_u (by first | assumption | (apply Ne.symm; assumption) | (intro hh; subst hh; contradiction) | exact tf_n1 (by assumption) (by assumption) | exact tf_n2 (by assumption) (by assumption)) ?_; first | assumption | exact va_up_self _ _ _ | (refine tf_u (by first | assumption | (apply Ne.symm; assumption) | (intro hh; subst hh; contradiction) | exact tf_n1 (by assumption) (by assumption) | exact tf_n2 (by assumption) (by assumption)) ?_; first | assumption | exact va_up_self _ _ _)))))
      case hi_57_13 => exact hiv
      rw [hic]
      refine tf_if_ne 90 61 d_Path_follow_58 rfl rfl (fun h58 => ?_) (fun h58 => absurd h58 (c2))
      refine tf_blk _ b_Path_follow_90 rfl ?_
      refine tf_get (fs := ?fs_91_14) (v := ?v_91_14) 94 d_Path_follow_91 rfl fl_Path_27 ?ha_91_14 ?hf_91_14 ?hv_91_14 ?kk_91_14
      case ha_91_14 => first | assumption | (simp only [List.mem_append, List.mem_singleton]; simp [*])
      case hf_91_14 => first | assumption | exact va_up_self _ _ _ | (refine tf_u (by first | assumption | (apply Ne.symm; assumption) | (intro hh; subst hh; contradiction) | exact tf_n1 (by assumption) (by assumption) | exact tf_n2 (by assumption) (by assumption)) ?_; first | assumption | exact va_up_self _ _ _ | (refine tf_u (by first | assumption | (apply Ne.symm; assumption) | (intro hh; subst hh; contradiction) | exact tf_n1 (by assumption) (by assumption) | exact tf_n2 (by assumption) (by assumption)) ?_; first | assumption | exact va_up_self _ _ _ | (refine tf_u (by first | assumption | (apply Ne.symm; assumption) | (intro hh; subst hh; contradiction) | exact tf_n1 (by assumption) (by assumption) | exact tf_n2 (by assumption) (by assumption)) ?_; first | assumption | exact va_up_self _ _ _ | (refine tf_u (by first | assumption | (apply Ne.symm; assumption) | (intro hh; subst hh; contradiction) | exact tf_n1 (by assumption) (by assumption) | exact tf_n2 (by assumption) (by assumption)) ?_; first | assumption | exact va_up_self _ _ _ | (refine tf_u (by first | assumption | (apply Ne.symm; assumption) | (intro hh; subst hh; contradiction) | exact tf_n1 (by assumption) (by assumption) | exact tf_n2 (by assumption) (by assumption)) ?_; first | assumption | exact va_up_self _ _ _)))))
      case hv_91_14 => rfl
      refine tf_blk _ b_Path_follow_94 rfl ?_
      refine tf_zald (n := ?n_96_15) (g := ?g_96_15) 97 1 d_Path_follow_96 rfl rfl ?ha_96_15 ?hf_96_15 ?hi_96_15 ?kk_96_15
      case ha_96_15 => first | assumption | (simp only [List.mem_append, List.mem_singleton]; simp [*])
      case hf_96_15 => first | assumption | exact va_up_self _ _ _ | (refine tf_u (by first | assumption | (apply Ne.symm; assumption) | (intro hh; subst hh; contradiction) | exact tf_n1 (by assumption) (by assumption) | exact tf_n2 (by assumption) (by assumption)) ?_; first | assumption | exact va_up_self _ _ _ | (refine tf_u (by first | assumption | (apply Ne.symm; assumption) | (intro hh; subst hh; contradiction) | exact tf_n1 (by assumption) (by assumption) | exact tf_n2 (by assumption) (by assumption)) ?_; first | assumption | exact va_up_self _ _ _ | (refine tf_u (by first | assumption | (apply Ne.symm; assumption) | (intro hh; subst hh; contradiction) | exact tf_n1 (by assumption) (by assumption) | exact tf_n2 (by assumption) (by assumption)) ?_; first | assumption | exact va_up_self _ _ _ | (refine tf_u (by first | assumption | (apply Ne.symm; assumption) | (intro hh; subst hh; contradiction) | exact tf_n1 (by assumption) (by assumption) | exact tf_n2 (by assumption) (by assumption)) ?_; first | assumption | exact va_up_self _ _ _ | (refine tf_u (by first | assumption | (apply Ne.symm; assumption) | (intro hh; subst hh; contradiction) | exact tf_n1 (by assumption) (by assumption) | exact tf_n2 (by assumption) (by assumption)) ?_; first | assumption | exact va_up_self _ _ _)))))
      case hi_96_15 => exact hnv
      rw [hnc]
      refine tf_if_eq 118 100 d_Path_follow_97 rfl rfl (fun h97 => absurd h97 (c4)) (fun h97 => ?_)
      refine tf_blk _ b_Path_follow_100 rfl ?_
      refine tf_get (fs := ?fs_102_16) (v := ?v_102_16) 105 d_Path_follow_102 rfl fl_Path_35 ?ha_102_16 ?hf_102_16 ?hv_102_16 ?kk_102_16
      case ha_102_16 => first | assumption | (simp only [List.mem_append, List.mem_singleton]; simp [*])
      case hf_102_16 => first | assumption | exact va_up_self _ _ _ | (refine tf_u (by first | assumption | (apply Ne.symm; assumption) | (intro hh; subst hh; contradiction) | exact tf_n1 (by assumption) (by assumption) | exact tf_n2 (by assumption) (by assumption)) ?_; first | assumption | exact va_up_self _ _ _ | (refine tf_u (by first | assumption | (apply Ne.symm; assumption) | (intro hh; subst hh; contradiction) | exact tf_n1 (by assumption) (by assumption) | exact tf_n2 (by assumption) (by assumption)) ?_; first | assumption | exact va_up_self _ _ _ | (refine tf_u (by first | assumption | (apply Ne.symm; assumption) | (intro hh; subst hh; contradiction) | exact tf_n1 (by assumption) (by assumption) | exact tf_n2 (by assumption) (by assumption)) ?_; first | assumption | exact va_up_self _ _ _ | (refine tf_u (by first | assumption | (apply Ne.symm; assumption) | (intro hh; subst hh; contradiction) | exact tf_n1 (by assumption) (by assumption) | exact tf_n2 (by assumption) (by assumption)) ?_; first | assumption | exact va_up_self _ _ _ | (refine tf_u (by first | assumption | (apply Ne.symm; assumption) | (intro hh; subst hh; contradiction) | exact tf_n1 (by assumption) (by assumption) | exact tf_n2 (by assumption) (by assumption)) ?_; first | assumption | exact va_up_self _ _ _)))))
      case hv_102_16 => rfl
      refine tf_blk _ b_Path_follow_105 rfl ?_
      refine tf_iald (n := ?n_107_17) (g := ?g_107_17) 108 0 d_Path_follow_107 rfl rfl ?ha_107_17 ?hf_107_17 ?hi_107_17 ?kk_107_17
      case ha_107_17 => first | assumption | (simp only [List.mem_append, List.mem_singleton]; simp [*])
      case hf_107_17 => first | assumption | exact va_up_self _ _ _ | (refine tf_u (by first | assumption | (apply Ne.symm; assumption) | (intro hh; subst hh; contradiction) | exact tf_n1 (by assumption) (by assumption) | exact tf_n2 (by assumption) (by assumption)) ?_; first | assumption | exact va_up_self _ _ _ | (refine tf_u (by first | assumption | (apply Ne.symm; assumption) | (intro hh; subst hh; contradiction) | exact tf_n1 (by assumption) (by assumption) | exact tf_n2 (by assumption) (by assumption)) ?_; first | assumption | exact va_up_self _ _ _ | (refine tf_u (by first | assumption | (apply Ne.symm; assumption) | (intro hh; subst hh; contradiction) | exact tf_n1 (by assumption) (by assumption) | exact tf_n2 (by assumption) (by assumption)) ?_; first | assumption | exact va_up_self _ _ _ | (refine tf_u (by first | assumption | (apply Ne.symm; assumption) | (intro hh; subst hh; contradiction) | exact tf_n1 (by assumption) (by assumption) | exact tf_n2 (by assumption) (by assumption)) ?_; first | assumption | exact va_up_self _ _ _ | (refine tf_u (by first | assumption | (apply Ne.symm; assumption) | (intro hh; subst hh; contradiction) | exact tf_n1 (by assumption) (by assumption) | exact tf_n2 (by assumption) (by assumption)) ?_; first | assumption | exact va_up_self _ _ _)))))
      case hi_107_17 => exact hnv
      rw [hnc]
      refine tf_blk _ b_Path_follow_108 rfl ?_
      refine tf_get (fs := ?fs_109_18) (v := ?v_109_18) 112 d_Path_follow_109 rfl fl_Path_36 ?ha_109_18 ?hf_109_18 ?hv_109_18 ?kk_109_18
      case ha_109_18 => first | assumption | (simp only [List.mem_append, List.mem_singleton]; simp [*])
      case hf_109_18 => first | assumption | exact va_up_self _ _ _ | (refine tf_u (by first | assumption | (apply Ne.symm; assumption) | (intro hh; subst hh; contradiction) | exact tf_n1 (by assumption) (by assumption) | exact tf_n2 (by assumption) (by assumption)) ?_; first | assumption | exact va_up_self _ _ _ | (refine tf_u (by first | assumption | (apply Ne.symm; assumption) | (intro hh; subst hh; contradiction) | exact tf_n1 (by assumption) (by assumption) | exact tf_n2 (by assumption) (by assumption)) ?_; first | assumption | exact va_up_self _ _ _ | (refine tf_u (by first | assumption | (apply Ne.symm; assumption) | (intro hh; subst hh; contradiction) | exact tf_n1 (by assumption) (by assumption) | exact tf_n2 (by assumption) (by assumption)) ?_; first | assumption | exact va_up_self _ _ _ | (refine tf_u (by first | assumption | (apply Ne.symm; assumption) | (intro hh; subst hh; contradiction) | exact tf_n1 (by assumption) (by assumption) | exact tf_n2 (by assumption) (by assumption)) ?_; first | assumption | exact va_up_self _ _ _ | (refine tf_u (by first | assumption | (apply Ne.symm; assumption) | (intro hh; subst hh; contradiction) | exact tf_n1 (by assumption) (by assumption) | exact tf_n2 (by assumption) (by assumption)) ?_; first | assumption | exact va_up_self _ _ _)))))
      case hv_109_18 => rfl
      refine tf_blk _ b_Path_follow_112 rfl ?_
      refine tf_iald (n := ?n_114_19) (g := ?g_114_19) 115 0 d_Path_follow_114 rfl rfl ?ha_114_19 ?hf_114_19 ?hi_114_19 ?kk_114_19
      case ha_114_19 => first | assumption | (simp only [List.mem_append, List.mem_singleton]; simp [*])
      case hf_114_19 => first | assumption | exact va_up_self _ _ _ | (refine tf_u (by first | assumption | (apply Ne.symm; assumption) | (intro hh; subst hh; contradiction) | exact tf_n1 (by assumption) (by assumption) | exact tf_n2 (by assumption) (by assumption)) ?_; first | assumption | exact va_up_self _ _ _ | (refine tf_u (by first | assumption | (apply Ne.symm; assumption) | (intro hh; subst hh; contradiction) | exact tf_n1 (by assumption) (by assumption) | exact tf_n2 (by assumption) (by assumption)) ?_; first | assumption | exact va_up_self _ _ _ | (refine tf_u (by first | assumption | (apply Ne.symm; assumption) | (intro hh; subst hh; contradiction) | exact tf_n1 (by assumption) (by assumption) | exact tf_n2 (by assumption) (by assumption)) ?_; first | assumption | exact va_up_self _ _ _ | (refine tf_u (by first | assumption | (apply Ne.symm; assumption) | (intro hh; subst hh; contradiction) | exact tf_n1 (by assumption) (by assumption) | exact tf_n2 (by assumption) (by assumption)) ?_; first | assumption | exact va_up_self _ _ _ | (refine tf_u (by first | assumption | (apply Ne.symm; assumption) | (intro hh; subst hh; contradiction) | exact tf_n1 (by assumption) (by assumption) | exact tf_n2 (by assumption) (by assumption)) ?_; first | assumption | exact va_up_self _ _ _)))))
      case hi_114_19 => exact hnv
      rw [hnc]
      refine tf_cV (tf_gok _ _) (c_Path_addCorner l D q (d - 1) _ _ _ _ (show w.1 < 320 by omega) ha fa hxs fxs hys fys hne) 118 d_Path_follow_115 rfl lk_Path_37 cw_Path_addCorner (by rfl) in_Path_addCorner se_Path_addCorner (by first | assumption | (simp only [List.mem_append, List.mem_singleton]; simp [*])) (by first | assumption | exact va_up_self _ _ _ | (refine tf_u (by first | assumption | (apply Ne.symm; assumption) | (intro hh; subst hh; contradiction) | exact tf_n1 (by assumption) (by assumption) | exact tf_n2 (by assumption) (by assumption)) ?_; first | assumption | exact va_up_self _ _ _ | (refine tf_u (by first | assumption | (apply Ne.symm; assumption) | (intro hh; subst hh; contradiction) | exact tf_n1 (by assumption) (by assumption) | exact tf_n2 (by assumption) (by assumption)) ?_; first | assumption | exact va_up_self _ _ _ | (refine tf_u (by first | assumption | (apply Ne.symm; assumption) | (intro hh; subst hh; contradiction) | exact tf_n1 (by assumption) (by assumption) | exact tf_n2 (by assumption) (by assumption)) ?_; first | assumption | exact va_up_self _ _ _ | (refine tf_u (by first | assumption | (apply Ne.symm; assumption) | (intro hh; subst hh; contradiction) | exact tf_n1 (by assumption) (by assumption) | exact tf_n2 (by assumption) (by assumption)) ?_; first | assumption | exact va_up_self _ _ _ | (refine tf_u (by first | assumption | (apply Ne.symm; assumption) | (intro hh; subst hh; contradiction) | exact tf_n1 (by assumption) (by assumption) | exact tf_n2 (by assumption) (by assumption)) ?_; first | assumption | exact va_up_self _ _ _)))))) (by rfl) (by rfl) (by omega) (by exact Nat.le_of_ble_eq_true rfl) rfl ?_
      rintro v115 L115 f115 ⟨rfl, rfl, rfl⟩
      refine tf_blk _ b_Path_follow_118 rfl ?_
      refine tf_goto 25 d_Path_follow_121 rfl ?_
      refine tf_drop [0, 1, 2, 3, 4, 5] rfl ?_
      have h9 := ih (i + 1) (tw_fol1 X Y O s e i w) _ (by omega) (by omega) (by omega) (by
        rw [show tw_fol1 X Y O s e i w = tw_cor (X (i + 1)) (Y (i + 1)) w from by unfold tw_fol1 tw_nx tw_pv; simp only [c1, c2, c3, c4, if_true, if_false]]
        exact pa_cor hP hne _ _)
      rw [nI_succ] at h9
      exact h9
    by_cases c2 : O i = 0
    · have c4 : True := trivial
      by_cases c3 : s < i
      · have hnv : vp_in (nI s) 160 := vp_in_nI (by omega) (by omega)
        have hnc : (nI s).toNatClampNeg = s := nI_clamp (by omega)
        refine tf_blk _ b_Path_follow_25 rfl ?_
        refine tf_ic_ge 124 32 d_Path_follow_29 rfl rfl (fun h29 => absurd h29 (nI_ge (by omega) (by omega))) (fun h29 => ?_)
        refine tf_blk _ b_Path_follow_32 rfl ?_
        refine tf_ic_ge 48 41 d_Path_follow_38 rfl rfl (fun h38 => ?_) (fun h38 => absurd (show nI e ≤ nI i + kI 1 from by rw [e1]; exact nI_le (by omega) (by omega)) h38)
        refine tf_blk _ b_Path_follow_48 rfl ?_
        refine tf_blk _ b_Path_follow_49 rfl ?_
        refine tf_get (fs := ?fs_52_21) (v := ?v_52_21) 55 d_Path_follow_52 rfl fl_Path_27 ?ha_52_21 ?hf_52_21 ?hv_52_21 ?kk_52_21
        case ha_52_21 => first | assumption | (simp only [List.mem_append, List.mem_singleton]; simp [*])
        case hf_52_21 => first | assumption | exact va_up_self _ _ _ | (refine tf_u (by first | assumption | (apply Ne.symm; assumption) | (intro hh; subst hh; contradiction) | exact tf_n1 (by assumption) (by assumption) | exact tf_n2 (by assumption) (by assumption)) ?_; first | assumption | exact va_up_self _ _ _ | (refine tf_u (by first | assumption | (apply Ne.symm; assumption) | (intro hh; subst hh; contradiction) | exact tf_n1 (by assumption) (by assumption) | exact tf_n2 (by assumption) (by assumption)) ?_; first | assumption | exact va_up_self _ _ _ | (refine tf_u (by first | assumption | (apply Ne.symm; assumption) | (intro hh; subst hh; contradiction) | exact tf_n1 (by assumption) (by assumption) | exact tf_n2 (by assumption) (by assumption)) ?_; first | assumption | exact va_up_self _ _ _ | (refine tf_u (by first | assumption | (apply Ne.symm; assumption) | (intro hh; subst hh; contradiction) | exact tf_n1 (by assumption) (by assumption) | exact tf_n2 (by assumption) (by assumption)) ?_; first | assumption | exact va_up_self _ _ _ | (refine tf_u (by first | assumption | (apply Ne.symm; assumption) | (intro hh; subst hh; contradiction) | exact tf_n1 (by assumption) (by assumption) | exact tf_n2 (by assumption) (by assumption)) ?_; first | assumption | exact va_up_self _ _ _)))))
        case hv_52_21 => rfl
        refine tf_blk _ b_Path_follow_55 rfl ?_
        refine tf_zald (n := ?n_57_22) (g := ?g_57_22) 58 1 d_Path_follow_57 rfl rfl ?ha_57_22 ?hf_57_22 ?hi_57_22 ?kk_57_22
        case ha_57_22 => first | assumption | (simp only [List.mem_append, List.mem_singleton]; simp [*])
        case hf_57_22 => first | assumption | exact va_up_self _ _ _ | (refine tf_u (by first | assumption | (apply Ne.symm; assumption) | (intro hh; subst hh; contradiction) | exact tf_n1 (by assumption) (by assumption) | exact tf_n2 (by assumption) (by assumption)) ?_; first | assumption | exact va_up_self _ _ _ | (refine tf_u (by first | assumption | (apply Ne.symm; assumption) | (intro hh; subst hh; contradiction) | exact tf_n1 (by assumption) (by assumption) | exact tf_n2 (by assumption) (by assumption)) ?_; first | assumption | exact va_up_self _ _ _ | (refine tf_u (by first | assumption | (apply Ne.symm; assumption) | (intro hh; subst hh; contradiction) | exact tf_n1 (by assumption) (by assumption) | exact tf_n2 (by assumption) (by assumption)) ?_; first | assumption | exact va_up_self _ _ _ | (refine tf_u (by first | assumption | (apply Ne.symm; assumption) | (intro hh; subst hh; contradiction) | exact tf_n1 (by assumption) (by assumption) | exact tf_n2 (by assumption) (by assumption)) ?_; first | assumption | exact va_up_self _ _ _ | (refine tf_u (by first | assumption | (apply Ne.symm; assumption) | (intro hh; subst hh; contradiction) | exact tf_n1 (by assumption) (by assumption) | exact tf_n2 (by assumption) (by assumption)) ?_; first | assumption | exact va_up_self _ _ _)))))
        case hi_57_22 => exact hiv
        rw [hic]
        refine tf_if_ne 90 61 d_Path_follow_58 rfl rfl (fun h58 => absurd h58 (not_not_intro c2)) (fun h58 => ?_)
        refine tf_blk _ b_Path_follow_61 rfl ?_
        refine tf_ic_le 76 69 d_Path_follow_66 rfl rfl (fun h66 => absurd h66 (nI_ge (by omega) (by omega))) (fun h66 => ?_)
        refine tf_blk _ b_Path_follow_69 rfl ?_
        refine tf_goto 80 d_Path_follow_73 rfl ?_
        rw [nI_sub1 (by omega)]
        refine tf_blk _ b_Path_follow_80 rfl ?_
        refine tf_cV (tf_gok _ _) (c_Path_addQuadratic l D q (d - 1) _ fc (by omega) ha hxs hys hne hb hox hoy hoo fa fxs fys fb fX fY fO (i := (i - 1)) (j := i) (t := s) (by omega) (by omega) (by omega) (by omega)) 87 d_Path_follow_84 rfl lk_Path_31 cw_Path_addQuadratic (by rfl) in_Path_addQuadratic se_Path_addQuadratic (by first | assumption | (simp only [List.mem_append, List.mem_singleton]; simp [*])) (by first | assumption | exact va_up_self _ _ _ | (refine tf_u (by first | assumption | (apply Ne.symm; assumption) | (intro hh; subst hh; contradiction) | exact tf_n1 (by assumption) (by assumption) | exact tf_n2 (by assumption) (by assumption)) ?_; first | assumption | exact va_up_self _ _ _ | (refine tf_u (by first | assumption | (apply Ne.symm; assumption) | (intro hh; subst hh; contradiction) | exact tf_n1 (by assumption) (by assumption) | exact tf_n2 (by assumption) (by assumption)) ?_; first | assumption | exact va_up_self _ _ _ | (refine tf_u (by first | assumption | (apply Ne.symm; assumption) | (intro hh; subst hh; contradiction) | exact tf_n1 (by assumption) (by assumption) | exact tf_n2 (by assumption) (by assumption)) ?_; first | assumption | exact va_up_self _ _ _ | (refine tf_u (by first | assumption | (apply Ne.symm; assumption) | (intro hh; subst hh; contradiction) | exact tf_n1 (by assumption) (by assumption) | exact tf_n2 (by assumption) (by assumption)) ?_; first | assumption | exact va_up_self _ _ _ | (refine tf_u (by first | assumption | (apply Ne.symm; assumption) | (intro hh; subst hh; contradiction) | exact tf_n1 (by assumption) (by assumption) | exact tf_n2 (by assumption) (by assumption)) ?_; first | assumption | exact va_up_self _ _ _)))))) (by rfl) (by rfl) (by omega) (by exact Nat.le_of_ble_eq_true rfl) rfl ?_
        rintro v84 L84 f84 ⟨rfl, rfl, k1⟩
        refine tf_goto 118 d_Path_follow_87 rfl ?_
        refine tf_blk _ b_Path_follow_118 rfl ?_
        refine tf_goto 25 d_Path_follow_121 rfl ?_
        refine tf_drop [0, 1, 2, 3, 4, 5] rfl ?_
        have h9 := ih (i + 1) (tw_fol1 X Y O s e i w) _ (by omega) (by omega) (by omega) (by
          rw [show tw_fol1 X Y O s e i w = tw_qd X Y O (i - 1) i s w from by unfold tw_fol1 tw_nx tw_pv; simp only [c1, c2, c3, c4, if_true, if_false]]
          exact pa_tr hP k1)
        rw [nI_succ] at h9
        exact h9
      have hnv : vp_in (nI s) 160 := vp_in_nI (by omega) (by omega)
      have hnc : (nI s).toNatClampNeg = s := nI_clamp (by omega)
      refine tf_blk _ b_Path_follow_25 rfl ?_
      refine tf_ic_ge 124 32 d_Path_follow_29 rfl rfl (fun h29 => absurd h29 (nI_ge (by omega) (by omega))) (fun h29 => ?_)
      refine tf_blk _ b_Path_follow_32 rfl ?_
      refine tf_ic_ge 48 41 d_Path_follow_38 rfl rfl (fun h38 => ?_) (fun h38 => absurd (show nI e ≤ nI i + kI 1 from by rw [e1]; exact nI_le (by omega) (by omega)) h38)
      refine tf_blk _ b_Path_follow_48 rfl ?_
      refine tf_blk _ b_Path_follow_49 rfl ?_
      refine tf_get (fs := ?fs_52_24) (v := ?v_52_24) 55 d_Path_follow_52 rfl fl_Path_27 ?ha_52_24 ?hf_52_24 ?hv_52_24 ?kk_52_24
      case ha_52_24 => first | assumption | (simp only [List.mem_append, List.mem_singleton]; simp [*])
      case hf_52_24 => first | assumption | exact va_up_self _ _ _ | (refine tf_u (by first | assumption | (apply Ne.symm; assumption) | (intro hh; subst hh; contradiction) | exact tf_n1 (by assumption) (by assumption) | exact tf_n2 (by assumption) (by assumption)) ?_; first | assumption | exact va_up_self _ _ _ | (refine tf_u (by first | assumption | (apply Ne.symm; assumption) | (intro hh; subst hh; contradiction) | exact tf_n1 (by assumption) (by assumption) | exact tf_n2 (by assumption) (by assumption)) ?_; first | assumption | exact va_up_self _ _ _ | (refine tf_u (by first | assumption | (apply Ne.symm; assumption) | (intro hh; subst hh; contradiction) | exact tf_n1 (by assumption) (by assumption) | exact tf_n2 (by assumption) (by assumption)) ?_; first | assumption | exact va_up_self _ _ _ | (refine tf_u (by first | assumption | (apply Ne.symm; assumption) | (intro hh; subst hh; contradiction) | exact tf_n1 (by assumption) (by assumption) | exact tf_n2 (by assumption) (by assumption)) ?_; first | assumption | exact va_up_self _ _ _ | (refine tf_u (by first | assumption | (apply Ne.symm; assumption) | (intro hh; subst hh; contradiction) | exact tf_n1 (by assumption) (by assumption) | exact tf_n2 (by assumption) (by assumption)) ?_; first | assumption | exact va_up_self _ _ _)))))
      case hv_52_24 => rfl
      refine tf_blk _ b_Path_follow_55 rfl ?_
      refine tf_zald (n := ?n_57_25) (g := ?g_57_25) 58 1 d_Path_follow_57 rfl rfl ?ha_57_25 ?hf_57_25 ?hi_57_25 ?kk_57_25
      case ha_57_25 => first | assumption | (simp only [List.mem_append, List.mem_singleton]; simp [*])
      case hf_57_25 => first | assumption | exact va_up_self _ _ _ | (refine tf_u (by first | assumption | (apply Ne.symm; assumption) | (intro hh; subst hh; contradiction) | exact tf_n1 (by assumption) (by assumption) | exact tf_n2 (by assumption) (by assumption)) ?_; first | assumption | exact va_up_self _ _ _ | (refine tf_u (by first | assumption | (apply Ne.symm; assumption) | (intro hh; subst hh; contradiction) | exact tf_n1 (by assumption) (by assumption) | exact tf_n2 (by assumption) (by assumption)) ?_; first | assumption | exact va_up_self _ _ _ | (refine tf_u (by first | assumption | (apply Ne.symm; assumption) | (intro hh; subst hh; contradiction) | exact tf_n1 (by assumption) (by assumption) | exact tf_n2 (by assumption) (by assumption)) ?_; first | assumption | exact va_up_self _ _ _ | (refine tf_u (by first | assumption | (apply Ne.symm; assumption) | (intro hh; subst hh; contradiction) | exact tf_n1 (by assumption) (by assumption) | exact tf_n2 (by assumption) (by assumption)) ?_; first | assumption | exact va_up_self _ _ _ | (refine tf_u (by first | assumption | (apply Ne.symm; assumption) | (intro hh; subst hh; contradiction) | exact tf_n1 (by assumption) (by assumption) | exact tf_n2 (by assumption) (by assumption)) ?_; first | assumption | exact va_up_self _ _ _)))))
      case hi_57_25 => exact hiv
      rw [hic]
      refine tf_if_ne 90 61 d_Path_follow_58 rfl rfl (fun h58 => absurd h58 (not_not_intro c2)) (fun h58 => ?_)
      refine tf_blk _ b_Path_follow_61 rfl ?_
      refine tf_ic_le 76 69 d_Path_follow_66 rfl rfl (fun h66 => ?_) (fun h66 => absurd (nI_le (by omega) (by omega)) h66)
      refine tf_blk _ b_Path_follow_76 rfl ?_
      rw [nI_sub1 (by omega)]
      refine tf_blk _ b_Path_follow_80 rfl ?_
      refine tf_cV (tf_gok _ _) (c_Path_addQuadratic l D q (d - 1) _ fc (by omega) ha hxs hys hne hb hox hoy hoo fa fxs fys fb fX fY fO (i := (e - 1)) (j := i) (t := s) (by omega) (by omega) (by omega) (by omega)) 87 d_Path_follow_84 rfl lk_Path_31 cw_Path_addQuadratic (by rfl) in_Path_addQuadratic se_Path_addQuadratic (by first | assumption | (simp only [List.mem_append, List.mem_singleton]; simp [*])) (by first | assumption | exact va_up_self _ _ _ | (refine tf_u (by first | assumption | (apply Ne.symm; assumption) | (intro hh; subst hh; contradiction) | exact tf_n1 (by assumption) (by assumption) | exact tf_n2 (by assumption) (by assumption)) ?_; first | assumption | exact va_up_self _ _ _ | (refine tf_u (by first | assumption | (apply Ne.symm; assumption) | (intro hh; subst hh; contradiction) | exact tf_n1 (by assumption) (by assumption) | exact tf_n2 (by assumption) (by assumption)) ?_; first | assumption | exact va_up_self _ _ _ | (refine tf_u (by first | assumption | (apply Ne.symm; assumption) | (intro hh; subst hh; contradiction) | exact tf_n1 (by assumption) (by assumption) | exact tf_n2 (by assumption) (by assumption)) ?_; first | assumption | exact va_up_self _ _ _ | (refine tf_u (by first | assumption | (apply Ne.symm; assumption) | (intro hh; subst hh; contradiction) | exact tf_n1 (by assumption) (by assumption) | exact tf_n2 (by assumption) (by assumption)) ?_; first | assumption | exact va_up_self _ _ _ | (refine tf_u (by first | assumption | (apply Ne.symm; assumption) | (intro hh; subst hh; contradiction) | exact tf_n1 (by assumption) (by assumption) | exact tf_n2 (by assumption) (by assumption)) ?_; first | assumption | exact va_up_self _ _ _)))))) (by rfl) (by rfl) (by omega) (by exact Nat.le_of_ble_eq_true rfl) rfl ?_
      rintro v84 L84 f84 ⟨rfl, rfl, k1⟩
      refine tf_goto 118 d_Path_follow_87 rfl ?_
      refine tf_blk _ b_Path_follow_118 rfl ?_
      refine tf_goto 25 d_Path_follow_121 rfl ?_
      refine tf_drop [0, 1, 2, 3, 4, 5] rfl ?_
      have h9 := ih (i + 1) (tw_fol1 X Y O s e i w) _ (by omega) (by omega) (by omega) (by
        rw [show tw_fol1 X Y O s e i w = tw_qd X Y O (e - 1) i s w from by unfold tw_fol1 tw_nx tw_pv; simp only [c1, c2, c3, c4, if_true, if_false]]
        exact pa_tr hP k1)
      rw [nI_succ] at h9
      exact h9
    have c3 : True := trivial
    by_cases c4 : O s = 0
    · have hnv : vp_in (nI s) 160 := vp_in_nI (by omega) (by omega)
      have hnc : (nI s).toNatClampNeg = s := nI_clamp (by omega)
      refine tf_blk _ b_Path_follow_25 rfl ?_
      refine tf_ic_ge 124 32 d_Path_follow_29 rfl rfl (fun h29 => absurd h29 (nI_ge (by omega) (by omega))) (fun h29 => ?_)
      refine tf_blk _ b_Path_follow_32 rfl ?_
      refine tf_ic_ge 48 41 d_Path_follow_38 rfl rfl (fun h38 => ?_) (fun h38 => absurd (show nI e ≤ nI i + kI 1 from by rw [e1]; exact nI_le (by omega) (by omega)) h38)
      refine tf_blk _ b_Path_follow_48 rfl ?_
      refine tf_blk _ b_Path_follow_49 rfl ?_
      refine tf_get (fs := ?fs_52_27) (v := ?v_52_27) 55 d_Path_follow_52 rfl fl_Path_27 ?ha_52_27 ?hf_52_27 ?hv_52_27 ?kk_52_27
      case ha_52_27 => first | assumption | (simp only [List.mem_append, List.mem_singleton]; simp [*])
      case hf_52_27 => first | assumption | exact va_up_self _ _ _ | (refine tf_u (by first | assumption | (apply Ne.symm; assumption) | (intro hh; subst hh; contradiction) | exact tf_n1 (by assumption) (by assumption) | exact tf_n2 (by assumption) (by assumption)) ?_; first | assumption | exact va_up_self _ _ _ | (refine tf_u (by first | assumption | (apply Ne.symm; assumption) | (intro hh; subst hh; contradiction) | exact tf_n1 (by assumption) (by assumption) | exact tf_n2 (by assumption) (by assumption)) ?_; first | assumption | exact va_up_self _ _ _ | (refine tf_u (by first | assumption | (apply Ne.symm; assumption) | (intro hh; subst hh; contradiction) | exact tf_n1 (by assumption) (by assumption) | exact tf_n2 (by assumption) (by assumption)) ?_; first | assumption | exact va_up_self _ _ _ | (refine tf_u (by first | assumption | (apply Ne.symm; assumption) | (intro hh; subst hh; contradiction) | exact tf_n1 (by assumption) (by assumption) | exact tf_n2 (by assumption) (by assumption)) ?_; first | assumption | exact va_up_self _ _ _ | (refine tf_u (by first | assumption | (apply Ne.symm; assumption) | (intro hh; subst hh; contradiction) | exact tf_n1 (by assumption) (by assumption) | exact tf_n2 (by assumption) (by assumption)) ?_; first | assumption | exact va_up_self _ _ _)))))
      case hv_52_27 => rfl
      refine tf_blk _ b_Path_follow_55 rfl ?_
      refine tf_zald (n := ?n_57_28) (g := ?g_57_28) 58 1 d_Path_follow_57 rfl rfl ?ha_57_28 ?hf_57_28 ?hi_57_28 ?kk_57_28
      case ha_57_28 => first | assumption | (simp only [List.mem_append, List.mem_singleton]; simp [*])
      case hf_57_28 => first | assumption | exact va_up_self _ _ _ | (refine tf_u (by first | assumption | (apply Ne.symm; assumption) | (intro hh; subst hh; contradiction) | exact tf_n1 (by assumption) (by assumption) | exact tf_n2 (by assumption) (by assumption)) ?_; first | assumption | exact va_up_self _ _ _ | (refine tf_u (by first | assumption | (apply Ne.symm; assumption) | (intro hh; subst hh; contradiction) | exact tf_n1 (by assumption) (by assumption) | exact tf_n2 (by assumption) (by assumption)) ?_; first | assumption | exact va_up_self _ _ _ | (refine tf_u (by first | assumption | (apply Ne.symm; assumption) | (intro hh; subst hh; contradiction) | exact tf_n1 (by assumption) (by assumption) | exact tf_n2 (by assumption) (by assumption)) ?_; first | assumption | exact va_up_self _ _ _ | (refine tf_u (by first | assumption | (apply Ne.symm; assumption) | (intro hh; subst hh; contradiction) | exact tf_n1 (by assumption) (by assumption) | exact tf_n2 (by assumption) (by assumption)) ?_; first | assumption | exact va_up_self _ _ _ | (refine tf_u (by first | assumption | (apply Ne.symm; assumption) | (intro hh; subst hh; contradiction) | exact tf_n1 (by assumption) (by assumption) | exact tf_n2 (by assumption) (by assumption)) ?_; first | assumption | exact va_up_self _ _ _)))))
      case hi_57_28 => exact hiv
      rw [hic]
      refine tf_if_ne 90 61 d_Path_follow_58 rfl rfl (fun h58 => ?_) (fun h58 => absurd h58 (c2))
      refine tf_blk _ b_Path_follow_90 rfl ?_
      refine tf_get (fs := ?fs_91_29) (v := ?v_91_29) 94 d_Path_follow_91 rfl fl_Path_27 ?ha_91_29 ?hf_91_29 ?hv_91_29 ?kk_91_29
      case ha_91_29 => first | assumption | (simp only [List.mem_append, List.mem_singleton]; simp [*])
      case hf_91_29 => first | assumption | exact va_up_self _ _ _ | (refine tf_u (by first | assumption | (apply Ne.symm; assumption) | (intro hh; subst hh; contradiction) | exact tf_n1 (by assumption) (by assumption) | exact tf_n2 (by assumption) (by assumption)) ?_; first | assumption | exact va_up_self _ _ _ | (refine tf_u (by first | assumption | (apply Ne.symm; assumption) | (intro hh; subst hh; contradiction) | exact tf_n1 (by assumption) (by assumption) | exact tf_n2 (by assumption) (by assumption)) ?_; first | assumption | exact va_up_self _ _ _ | (refine tf_u (by first | assumption | (apply Ne.symm; assumption) | (intro hh; subst hh; contradiction) | exact tf_n1 (by assumption) (by assumption) | exact tf_n2 (by assumption) (by assumption)) ?_; first | assumption | exact va_up_self _ _ _ | (refine tf_u (by first | assumption | (apply Ne.symm; assumption) | (intro hh; subst hh; contradiction) | exact tf_n1 (by assumption) (by assumption) | exact tf_n2 (by assumption) (by assumption)) ?_; first | assumption | exact va_up_self _ _ _ | (refine tf_u (by first | assumption | (apply Ne.symm; assumption) | (intro hh; subst hh; contradiction) | exact tf_n1 (by assumption) (by assumption) | exact tf_n2 (by assumption) (by assumption)) ?_; first | assumption | exact va_up_self _ _ _)))))
      case hv_91_29 => rfl
      refine tf_blk _ b_Path_follow_94 rfl ?_
      refine tf_zald (n := ?n_96_30) (g := ?g_96_30) 97 1 d_Path_follow_96 rfl rfl ?ha_96_30 ?hf_96_30 ?hi_96_30 ?kk_96_30
      case ha_96_30 => first | assumption | (simp only [List.mem_append, List.mem_singleton]; simp [*])
      case hf_96_30 => first | assumption | exact va_up_self _ _ _ | (refine tf_u (by first | assumption | (apply Ne.symm; assumption) | (intro hh; subst hh; contradiction) | exact tf_n1 (by assumption) (by assumption) | exact tf_n2 (by assumption) (by assumption)) ?_; first | assumption | exact va_up_self _ _ _ | (refine tf_u (by first | assumption | (apply Ne.symm; assumption) | (intro hh; subst hh; contradiction) | exact tf_n1 (by assumption) (by assumption) | exact tf_n2 (by assumption) (by assumption)) ?_; first | assumption | exact va_up_self _ _ _ | (refine tf_u (by first | assumption | (apply Ne.symm; assumption) | (intro hh; subst hh; contradiction) | exact tf_n1 (by assumption) (by assumption) | exact tf_n2 (by assumption) (by assumption)) ?_; first | assumption | exact va_up_self _ _ _ | (refine tf_u (by first | assumption | (apply Ne.symm; assumption) | (intro hh; subst hh; contradiction) | exact tf_n1 (by assumption) (by assumption) | exact tf_n2 (by assumption) (by assumption)) ?_; first | assumption | exact va_up_self _ _ _ | (refine tf_u (by first | assumption | (apply Ne.symm; assumption) | (intro hh; subst hh; contradiction) | exact tf_n1 (by assumption) (by assumption) | exact tf_n2 (by assumption) (by assumption)) ?_; first | assumption | exact va_up_self _ _ _)))))
      case hi_96_30 => exact hnv
      rw [hnc]
      refine tf_if_eq 118 100 d_Path_follow_97 rfl rfl (fun h97 => ?_) (fun h97 => absurd (c4) h97)
      refine tf_blk _ b_Path_follow_118 rfl ?_
      refine tf_goto 25 d_Path_follow_121 rfl ?_
      refine tf_drop [0, 1, 2, 3, 4, 5] rfl ?_
      have h9 := ih (i + 1) (tw_fol1 X Y O s e i w) _ (by omega) (by omega) (by omega) (by
        rw [show tw_fol1 X Y O s e i w = w from by unfold tw_fol1 tw_nx tw_pv; simp only [c1, c2, c3, c4, if_true, if_false]]
        exact hP)
      rw [nI_succ] at h9
      exact h9
    have hnv : vp_in (nI s) 160 := vp_in_nI (by omega) (by omega)
    have hnc : (nI s).toNatClampNeg = s := nI_clamp (by omega)
    refine tf_blk _ b_Path_follow_25 rfl ?_
    refine tf_ic_ge 124 32 d_Path_follow_29 rfl rfl (fun h29 => absurd h29 (nI_ge (by omega) (by omega))) (fun h29 => ?_)
    refine tf_blk _ b_Path_follow_32 rfl ?_
    refine tf_ic_ge 48 41 d_Path_follow_38 rfl rfl (fun h38 => ?_) (fun h38 => absurd (show nI e ≤ nI i + kI 1 from by rw [e1]; exact nI_le (by omega) (by omega)) h38)
    refine tf_blk _ b_Path_follow_48 rfl ?_
    refine tf_blk _ b_Path_follow_49 rfl ?_
    refine tf_get (fs := ?fs_52_31) (v := ?v_52_31) 55 d_Path_follow_52 rfl fl_Path_27 ?ha_52_31 ?hf_52_31 ?hv_52_31 ?kk_52_31
    case ha_52_31 => first | assumption | (simp only [List.mem_append, List.mem_singleton]; simp [*])
    case hf_52_31 => first | assumption | exact va_up_self _ _ _ | (refine tf_u (by first | assumption | (apply Ne.symm; assumption) | (intro hh; subst hh; contradiction) | exact tf_n1 (by assumption) (by assumption) | exact tf_n2 (by assumption) (by assumption)) ?_; first | assumption | exact va_up_self _ _ _ | (refine tf_u (by first | assumption | (apply Ne.symm; assumption) | (intro hh; subst hh; contradiction) | exact tf_n1 (by assumption) (by assumption) | exact tf_n2 (by assumption) (by assumption)) ?_; first | assumption | exact va_up_self _ _ _ | (refine tf_u (by first | assumption | (apply Ne.symm; assumption) | (intro hh; subst hh; contradiction) | exact tf_n1 (by assumption) (by assumption) | exact tf_n2 (by assumption) (by assumption)) ?_; first | assumption | exact va_up_self _ _ _ | (refine tf_u (by first | assumption | (apply Ne.symm; assumption) | (intro hh; subst hh; contradiction) | exact tf_n1 (by assumption) (by assumption) | exact tf_n2 (by assumption) (by assumption)) ?_; first | assumption | exact va_up_self _ _ _ | (refine tf_u (by first | assumption | (apply Ne.symm; assumption) | (intro hh; subst hh; contradiction) | exact tf_n1 (by assumption) (by assumption) | exact tf_n2 (by assumption) (by assumption)) ?_; first | assumption | exact va_up_self _ _ _)))))
    case hv_52_31 => rfl
    refine tf_blk _ b_Path_follow_55 rfl ?_
    refine tf_zald (n := ?n_57_32) (g := ?g_57_32) 58 1 d_Path_follow_57 rfl rfl ?ha_57_32 ?hf_57_32 ?hi_57_32 ?kk_57_32
    case ha_57_32 => first | assumption | (simp only [List.mem_append, List.mem_singleton]; simp [*])
    case hf_57_32 => first | assumption | exact va_up_self _ _ _ | (refine tf_u (by first | assumption | (apply Ne.symm; assumption) | (intro hh; subst hh; contradiction) | exact tf_n1 (by assumption) (by assumption) | exact tf_n2 (by assumption) (by assumption)) ?_; first | assumption | exact va_up_self _ _ _ | (refine tf_u (by first | assumption | (apply Ne.symm; assumption) | (intro hh; subst hh; contradiction) | exact tf_n1 (by assumption) (by assumption) | exact tf_n2 (by assumption) (by assumption)) ?_; first | assumption | exact va_up_self _ _ _ | (refine tf_u (by first | assumption | (apply Ne.symm; assumption) | (intro hh; subst hh; contradiction) | exact tf_n1 (by assumption) (by assumption) | exact tf_n2 (by assumption) (by assumption)) ?_; first | assumption | exact va_up_self _ _ _ | (refine tf_u (by first | assumption | (apply Ne.symm; assumption) | (intro hh; subst hh; contradiction) | exact tf_n1 (by assumption) (by assumption) | exact tf_n2 (by assumption) (by assumption)) ?_; first | assumption | exact va_up_self _ _ _ | (refine tf_u (by first | assumption | (apply Ne.symm; assumption) | (intro hh; subst hh; contradiction) | exact tf_n1 (by assumption) (by assumption) | exact tf_n2 (by assumption) (by assumption)) ?_; first | assumption | exact va_up_self _ _ _)))))
    case hi_57_32 => exact hiv
    rw [hic]
    refine tf_if_ne 90 61 d_Path_follow_58 rfl rfl (fun h58 => ?_) (fun h58 => absurd h58 (c2))
    refine tf_blk _ b_Path_follow_90 rfl ?_
    refine tf_get (fs := ?fs_91_33) (v := ?v_91_33) 94 d_Path_follow_91 rfl fl_Path_27 ?ha_91_33 ?hf_91_33 ?hv_91_33 ?kk_91_33
    case ha_91_33 => first | assumption | (simp only [List.mem_append, List.mem_singleton]; simp [*])
    case hf_91_33 => first | assumption | exact va_up_self _ _ _ | (refine tf_u (by first | assumption | (apply Ne.symm; assumption) | (intro hh; subst hh; contradiction) | exact tf_n1 (by assumption) (by assumption) | exact tf_n2 (by assumption) (by assumption)) ?_; first | assumption | exact va_up_self _ _ _ | (refine tf_u (by first | assumption | (apply Ne.symm; assumption) | (intro hh; subst hh; contradiction) | exact tf_n1 (by assumption) (by assumption) | exact tf_n2 (by assumption) (by assumption)) ?_; first | assumption | exact va_up_self _ _ _ | (refine tf_u (by first | assumption | (apply Ne.symm; assumption) | (intro hh; subst hh; contradiction) | exact tf_n1 (by assumption) (by assumption) | exact tf_n2 (by assumption) (by assumption)) ?_; first | assumption | exact va_up_self _ _ _ | (refine tf_u (by first | assumption | (apply Ne.symm; assumption) | (intro hh; subst hh; contradiction) | exact tf_n1 (by assumption) (by assumption) | exact tf_n2 (by assumption) (by assumption)) ?_; first | assumption | exact va_up_self _ _ _ | (refine tf_u (by first | assumption | (apply Ne.symm; assumption) | (intro hh; subst hh; contradiction) | exact tf_n1 (by assumption) (by assumption) | exact tf_n2 (by assumption) (by assumption)) ?_; first | assumption | exact va_up_self _ _ _)))))
    case hv_91_33 => rfl
    refine tf_blk _ b_Path_follow_94 rfl ?_
    refine tf_zald (n := ?n_96_34) (g := ?g_96_34) 97 1 d_Path_follow_96 rfl rfl ?ha_96_34 ?hf_96_34 ?hi_96_34 ?kk_96_34
    case ha_96_34 => first | assumption | (simp only [List.mem_append, List.mem_singleton]; simp [*])
    case hf_96_34 => first | assumption | exact va_up_self _ _ _ | (refine tf_u (by first | assumption | (apply Ne.symm; assumption) | (intro hh; subst hh; contradiction) | exact tf_n1 (by assumption) (by assumption) | exact tf_n2 (by assumption) (by assumption)) ?_; first | assumption | exact va_up_self _ _ _ | (refine tf_u (by first | assumption | (apply Ne.symm; assumption) | (intro hh; subst hh; contradiction) | exact tf_n1 (by assumption) (by assumption) | exact tf_n2 (by assumption) (by assumption)) ?_; first | assumption | exact va_up_self _ _ _ | (refine tf_u (by first | assumption | (apply Ne.symm; assumption) | (intro hh; subst hh; contradiction) | exact tf_n1 (by assumption) (by assumption) | exact tf_n2 (by assumption) (by assumption)) ?_; first | assumption | exact va_up_self _ _ _ | (refine tf_u (by first | assumption | (apply Ne.symm; assumption) | (intro hh; subst hh; contradiction) | exact tf_n1 (by assumption) (by assumption) | exact tf_n2 (by assumption) (by assumption)) ?_; first | assumption | exact va_up_self _ _ _ | (refine tf_u (by first | assumption | (apply Ne.symm; assumption) | (intro hh; subst hh; contradiction) | exact tf_n1 (by assumption) (by assumption) | exact tf_n2 (by assumption) (by assumption)) ?_; first | assumption | exact va_up_self _ _ _)))))
    case hi_96_34 => exact hnv
    rw [hnc]
    refine tf_if_eq 118 100 d_Path_follow_97 rfl rfl (fun h97 => absurd h97 (c4)) (fun h97 => ?_)
    refine tf_blk _ b_Path_follow_100 rfl ?_
    refine tf_get (fs := ?fs_102_35) (v := ?v_102_35) 105 d_Path_follow_102 rfl fl_Path_35 ?ha_102_35 ?hf_102_35 ?hv_102_35 ?kk_102_35
    case ha_102_35 => first | assumption | (simp only [List.mem_append, List.mem_singleton]; simp [*])
    case hf_102_35 => first | assumption | exact va_up_self _ _ _ | (refine tf_u (by first | assumption | (apply Ne.symm; assumption) | (intro hh; subst hh; contradiction) | exact tf_n1 (by assumption) (by assumption) | exact tf_n2 (by assumption) (by assumption)) ?_; first | assumption | exact va_up_self _ _ _ | (refine tf_u (by first | assumption | (apply Ne.symm; assumption) | (intro hh; subst hh; contradiction) | exact tf_n1 (by assumption) (by assumption) | exact tf_n2 (by assumption) (by assumption)) ?_; first | assumption | exact va_up_self _ _ _ | (refine tf_u (by first | assumption | (apply Ne.symm; assumption) | (intro hh; subst hh; contradiction) | exact tf_n1 (by assumption) (by assumption) | exact tf_n2 (by assumption) (by assumption)) ?_; first | assumption | exact va_up_self _ _ _ | (refine tf_u (by first | assumption | (apply Ne.symm; assumption) | (intro hh; subst hh; contradiction) | exact tf_n1 (by assumption) (by assumption) | exact tf_n2 (by assumption) (by assumption)) ?_; first | assumption | exact va_up_self _ _ _ | (refine tf_u (by first | assumption | (apply Ne.symm; assumption) | (intro hh; subst hh; contradiction) | exact tf_n1 (by assumption) (by assumption) | exact tf_n2 (by assumption) (by assumption)) ?_; first | assumption | exact va_up_self _ _ _)))))
    case hv_102_35 => rfl
    refine tf_blk _ b_Path_follow_105 rfl ?_
    refine tf_iald (n := ?n_107_36) (g := ?g_107_36) 108 0 d_Path_follow_107 rfl rfl ?ha_107_36 ?hf_107_36 ?hi_107_36 ?kk_107_36
    case ha_107_36 => first | assumption | (simp only [List.mem_append, List.mem_singleton]; simp [*])
    case hf_107_36 => first | assumption | exact va_up_self _ _ _ | (refine tf_u (by first | assumption | (apply Ne.symm; assumption) | (intro hh; subst hh; contradiction) | exact tf_n1 (by assumption) (by assumption) | exact tf_n2 (by assumption) (by assumption)) ?_; first | assumption | exact va_up_self _ _ _ | (refine tf_u (by first | assumption | (apply Ne.symm; assumption) | (intro hh; subst hh; contradiction) | exact tf_n1 (by assumption) (by assumption) | exact tf_n2 (by assumption) (by assumption)) ?_; first | assumption | exact va_up_self _ _ _ | (refine tf_u (by first | assumption | (apply Ne.symm; assumption) | (intro hh; subst hh; contradiction) | exact tf_n1 (by assumption) (by assumption) | exact tf_n2 (by assumption) (by assumption)) ?_; first | assumption | exact va_up_self _ _ _ | (refine tf_u (by first | assumption | (apply Ne.symm; assumption) | (intro hh; subst hh; contradiction) | exact tf_n1 (by assumption) (by assumption) | exact tf_n2 (by assumption) (by assumption)) ?_; first | assumption | exact va_up_self _ _ _ | (refine tf_u (by first | assumption | (apply Ne.symm; assumption) | (intro hh; subst hh; contradiction) | exact tf_n1 (by assumption) (by assumption) | exact tf_n2 (by assumption) (by assumption)) ?_; first | assumption | exact va_up_self _ _ _)))))
    case hi_107_36 => exact hnv
    rw [hnc]
    refine tf_blk _ b_Path_follow_108 rfl ?_
    refine tf_get (fs := ?fs_109_37) (v := ?v_109_37) 112 d_Path_follow_109 rfl fl_Path_36 ?ha_109_37 ?hf_109_37 ?hv_109_37 ?kk_109_37
    case ha_109_37 => first | assumption | (simp only [List.mem_append, List.mem_singleton]; simp [*])
    case hf_109_37 => first | assumption | exact va_up_self _ _ _ | (refine tf_u (by first | assumption | (apply Ne.symm; assumption) | (intro hh; subst hh; contradiction) | exact tf_n1 (by assumption) (by assumption) | exact tf_n2 (by assumption) (by assumption)) ?_; first | assumption | exact va_up_self _ _ _ | (refine tf_u (by first | assumption | (apply Ne.symm; assumption) | (intro hh; subst hh; contradiction) | exact tf_n1 (by assumption) (by assumption) | exact tf_n2 (by assumption) (by assumption)) ?_; first | assumption | exact va_up_self _ _ _ | (refine tf_u (by first | assumption | (apply Ne.symm; assumption) | (intro hh; subst hh; contradiction) | exact tf_n1 (by assumption) (by assumption) | exact tf_n2 (by assumption) (by assumption)) ?_; first | assumption | exact va_up_self _ _ _ | (refine tf_u (by first | assumption | (apply Ne.symm; assumption) | (intro hh; subst hh; contradiction) | exact tf_n1 (by assumption) (by assumption) | exact tf_n2 (by assumption) (by assumption)) ?_; first | assumption | exact va_up_self _ _ _ | (refine tf_u (by first | assumption | (apply Ne.symm; assumption) | (intro hh; subst hh; contradiction) | exact tf_n1 (by assumption) (by assumption) | exact tf_n2 (by assumption) (by assumption)) ?_; first | assumption | exact va_up_self _ _ _)))))
    case hv_109_37 => rfl
    refine tf_blk _ b_Path_follow_112 rfl ?_
    refine tf_iald (n := ?n_114_38) (g := ?g_114_38) 115 0 d_Path_follow_114 rfl rfl ?ha_114_38 ?hf_114_38 ?hi_114_38 ?kk_114_38
    case ha_114_38 => first | assumption | (simp only [List.mem_append, List.mem_singleton]; simp [*])
    case hf_114_38 => first | assumption | exact va_up_self _ _ _ | (refine tf_u (by first | assumption | (apply Ne.symm; assumption) | (intro hh; subst hh; contradiction) | exact tf_n1 (by assumption) (by assumption) | exact tf_n2 (by assumption) (by assumption)) ?_; first | assumption | exact va_up_self _ _ _ | (refine tf_u (by first | assumption | (apply Ne.symm; assumption) | (intro hh; subst hh; contradiction) | exact tf_n1 (by assumption) (by assumption) | exact tf_n2 (by assumption) (by assumption)) ?_; first | assumption | exact va_up_self _ _ _ | (refine tf_u (by first | assumption | (apply Ne.symm; assumption) | (intro hh; subst hh; contradiction) | exact tf_n1 (by assumption) (by assumption) | exact tf_n2 (by assumption) (by assumption)) ?_; first | assumption | exact va_up_self _ _ _ | (refine tf_u (by first | assumption | (apply Ne.symm; assumption) | (intro hh; subst hh; contradiction) | exact tf_n1 (by assumption) (by assumption) | exact tf_n2 (by assumption) (by assumption)) ?_; first | assumption | exact va_up_self _ _ _ | (refine tf_u (by first | assumption | (apply Ne.symm; assumption) | (intro hh; subst hh; contradiction) | exact tf_n1 (by assumption) (by assumption) | exact tf_n2 (by assumption) (by assumption)) ?_; first | assumption | exact va_up_self _ _ _)))))
    case hi_114_38 => exact hnv
    rw [hnc]
    refine tf_cV (tf_gok _ _) (c_Path_addCorner l D q (d - 1) _ _ _ _ (show w.1 < 320 by omega) ha fa hxs fxs hys fys hne) 118 d_Path_follow_115 rfl lk_Path_37 cw_Path_addCorner (by rfl) in_Path_addCorner se_Path_addCorner (by first | assumption | (simp only [List.mem_append, List.mem_singleton]; simp [*])) (by first | assumption | exact va_up_self _ _ _ | (refine tf_u (by first | assumption | (apply Ne.symm; assumption) | (intro hh; subst hh; contradiction) | exact tf_n1 (by assumption) (by assumption) | exact tf_n2 (by assumption) (by assumption)) ?_; first | assumption | exact va_up_self _ _ _ | (refine tf_u (by first | assumption | (apply Ne.symm; assumption) | (intro hh; subst hh; contradiction) | exact tf_n1 (by assumption) (by assumption) | exact tf_n2 (by assumption) (by assumption)) ?_; first | assumption | exact va_up_self _ _ _ | (refine tf_u (by first | assumption | (apply Ne.symm; assumption) | (intro hh; subst hh; contradiction) | exact tf_n1 (by assumption) (by assumption) | exact tf_n2 (by assumption) (by assumption)) ?_; first | assumption | exact va_up_self _ _ _ | (refine tf_u (by first | assumption | (apply Ne.symm; assumption) | (intro hh; subst hh; contradiction) | exact tf_n1 (by assumption) (by assumption) | exact tf_n2 (by assumption) (by assumption)) ?_; first | assumption | exact va_up_self _ _ _ | (refine tf_u (by first | assumption | (apply Ne.symm; assumption) | (intro hh; subst hh; contradiction) | exact tf_n1 (by assumption) (by assumption) | exact tf_n2 (by assumption) (by assumption)) ?_; first | assumption | exact va_up_self _ _ _)))))) (by rfl) (by rfl) (by omega) (by exact Nat.le_of_ble_eq_true rfl) rfl ?_
    rintro v115 L115 f115 ⟨rfl, rfl, rfl⟩
    refine tf_blk _ b_Path_follow_118 rfl ?_
    refine tf_goto 25 d_Path_follow_121 rfl ?_
    refine tf_drop [0, 1, 2, 3, 4, 5] rfl ?_
    have h9 := ih (i + 1) (tw_fol1 X Y O s e i w) _ (by omega) (by omega) (by omega) (by
      rw [show tw_fol1 X Y O s e i w = tw_cor (X s) (Y s) w from by unfold tw_fol1 tw_nx tw_pv; simp only [c1, c2, c3, c4, if_true, if_false]]
      exact pa_cor hP hne _ _)
    rw [nI_succ] at h9
    exact h9
set_option maxHeartbeats 4000000 in
set_option maxRecDepth 100000 in
theorem c_Path_follow (hd : 4 ≤ d) {a xs ys b ox oy oo os : Nat} {v4 v5 v6 : Value} {X Y O : Nat → Int32} {w0 : tw_PW} (ha : a ∈ L) (hxs : xs ∈ L) (hys : ys ∈ L) (hne : ys ≠ xs) (hb : b ∈ L) (hox : ox ∈ L) (hoy : oy ∈ L) (hoo : oo ∈ L) (fa0 : f a = to 8 [.ref xs, .ref ys, .int (nI w0.1)]) (fx0 : f xs = ti q 320 w0.2.1) (fy0 : f ys = ti q 320 w0.2.2) (fb0 : f b = to 6 [.ref ox, .ref oy, .ref oo, .ref os, v4, v5, v6]) (fX0 : f ox = ti q 160 X) (fY0 : f oy = ti q 160 Y) (fO0 : f oo = tz q 160 O) (hos : os ∈ L) {St : Nat → Int32} (fS0 : f os = ti q 54 St) {s e : Nat} (c : Int32) (hse : s ≤ e) (he : e ≤ 160) (hl : e ≤ s + 40) (hc0 : vp_in c 54) (hc1 : vp_in (c + kI 1) 54) (hs0 : St c.toNatClampNeg = nI s) (hs1 : St (c + kI 1).toNatClampNeg = nI e) : tf_C l (tf_H D q) d i_Path_follow [.ref a, .ref b, .int c] L f 0 0 (fun v L2 f2 => v = none ∧ L2 = L ∧ pa_at q a xs ys f (tw_fol X Y O s e (e - s) s (0, w0.2.1, w0.2.2)) f2) := by
  refine tf_C.of (tf_gok _ _) (by decide) w_969 (Nat.le_of_ble_eq_true rfl) ?_
  refine tf_blk _ b_Path_follow_0 rfl ?_
  refine tf_get (fs := ?fs_1_40) (v := ?v_1_40) 4 d_Path_follow_1 rfl fl_Path_18 ?ha_1_40 ?hf_1_40 ?hv_1_40 ?kk_1_40
  case ha_1_40 => first | assumption | (simp only [List.mem_append, List.mem_singleton]; simp [*])
  case hf_1_40 => first | assumption | exact va_up_self _ _ _ | (refine tf_u (by first | assumption | (apply Ne.symm; assumption) | (intro hh; subst hh; contradiction) | exact tf_n1 (by assumption) (by assumption) | exact tf_n2 (by assumption) (by assumption)) ?_; first | assumption | exact va_up_self _ _ _ | (refine tf_u (by first | assumption | (apply Ne.symm; assumption) | (intro hh; subst hh; contradiction) | exact tf_n1 (by assumption) (by assumption) | exact tf_n2 (by assumption) (by assumption)) ?_; first | assumption | exact va_up_self _ _ _ | (refine tf_u (by first | assumption | (apply Ne.symm; assumption) | (intro hh; subst hh; contradiction) | exact tf_n1 (by assumption) (by assumption) | exact tf_n2 (by assumption) (by assumption)) ?_; first | assumption | exact va_up_self _ _ _ | (refine tf_u (by first | assumption | (apply Ne.symm; assumption) | (intro hh; subst hh; contradiction) | exact tf_n1 (by assumption) (by assumption) | exact tf_n2 (by assumption) (by assumption)) ?_; first | assumption | exact va_up_self _ _ _ | (refine tf_u (by first | assumption | (apply Ne.symm; assumption) | (intro hh; subst hh; contradiction) | exact tf_n1 (by assumption) (by assumption) | exact tf_n2 (by assumption) (by assumption)) ?_; first | assumption | exact va_up_self _ _ _)))))
  case hv_1_40 => rfl
  refine tf_blk _ b_Path_follow_4 rfl ?_
  refine tf_iald (n := ?n_5_41) (g := ?g_5_41) 6 0 d_Path_follow_5 rfl rfl ?ha_5_41 ?hf_5_41 ?hi_5_41 ?kk_5_41
  case ha_5_41 => first | assumption | (simp only [List.mem_append, List.mem_singleton]; simp [*])
  case hf_5_41 => first | assumption | exact va_up_self _ _ _ | (refine tf_u (by first | assumption | (apply Ne.symm; assumption) | (intro hh; subst hh; contradiction) | exact tf_n1 (by assumption) (by assumption) | exact tf_n2 (by assumption) (by assumption)) ?_; first | assumption | exact va_up_self _ _ _ | (refine tf_u (by first | assumption | (apply Ne.symm; assumption) | (intro hh; subst hh; contradiction) | exact tf_n1 (by assumption) (by assumption) | exact tf_n2 (by assumption) (by assumption)) ?_; first | assumption | exact va_up_self _ _ _ | (refine tf_u (by first | assumption | (apply Ne.symm; assumption) | (intro hh; subst hh; contradiction) | exact tf_n1 (by assumption) (by assumption) | exact tf_n2 (by assumption) (by assumption)) ?_; first | assumption | exact va_up_self _ _ _ | (refine tf_u (by first | assumption | (apply Ne.symm; assumption) | (intro hh; subst hh; contradiction) | exact tf_n1 (by assumption) (by assumption) | exact tf_n2 (by assumption) (by assumption)) ?_; first | assumption | exact va_up_self _ _ _ | (refine tf_u (by first | assumption | (apply Ne.symm; assumption) | (intro hh; subst hh; contradiction) | exact tf_n1 (by assumption) (by assumption) | exact tf_n2 (by assumption) (by assumption)) ?_; first | assumption | exact va_up_self _ _ _)))))
  case hi_5_41 => exact hc0
  rw [hs0]
  refine tf_blk _ b_Path_follow_6 rfl ?_
  refine tf_get (fs := ?fs_8_42) (v := ?v_8_42) 11 d_Path_follow_8 rfl fl_Path_18 ?ha_8_42 ?hf_8_42 ?hv_8_42 ?kk_8_42
  case ha_8_42 => first | assumption | (simp only [List.mem_append, List.mem_singleton]; simp [*])
  case hf_8_42 => first | assumption | exact va_up_self _ _ _ | (refine tf_u (by first | assumption | (apply Ne.symm; assumption) | (intro hh; subst hh; contradiction) | exact tf_n1 (by assumption) (by assumption) | exact tf_n2 (by assumption) (by assumption)) ?_; first | assumption | exact va_up_self _ _ _ | (refine tf_u (by first | assumption | (apply Ne.symm; assumption) | (intro hh; subst hh; contradiction) | exact tf_n1 (by assumption) (by assumption) | exact tf_n2 (by assumption) (by assumption)) ?_; first | assumption | exact va_up_self _ _ _ | (refine tf_u (by first | assumption | (apply Ne.symm; assumption) | (intro hh; subst hh; contradiction) | exact tf_n1 (by assumption) (by assumption) | exact tf_n2 (by assumption) (by assumption)) ?_; first | assumption | exact va_up_self _ _ _ | (refine tf_u (by first | assumption | (apply Ne.symm; assumption) | (intro hh; subst hh; contradiction) | exact tf_n1 (by assumption) (by assumption) | exact tf_n2 (by assumption) (by assumption)) ?_; first | assumption | exact va_up_self _ _ _ | (refine tf_u (by first | assumption | (apply Ne.symm; assumption) | (intro hh; subst hh; contradiction) | exact tf_n1 (by assumption) (by assumption) | exact tf_n2 (by assumption) (by assumption)) ?_; first | assumption | exact va_up_self _ _ _)))))
  case hv_8_42 => rfl
  refine tf_blk _ b_Path_follow_11 rfl ?_
  refine tf_iald (n := ?n_14_43) (g := ?g_14_43) 15 0 d_Path_follow_14 rfl rfl ?ha_14_43 ?hf_14_43 ?hi_14_43 ?kk_14_43
  case ha_14_43 => first | assumption | (simp only [List.mem_append, List.mem_singleton]; simp [*])
  case hf_14_43 => first | assumption | exact va_up_self _ _ _ | (refine tf_u (by first | assumption | (apply Ne.symm; assumption) | (intro hh; subst hh; contradiction) | exact tf_n1 (by assumption) (by assumption) | exact tf_n2 (by assumption) (by assumption)) ?_; first | assumption | exact va_up_self _ _ _ | (refine tf_u (by first | assumption | (apply Ne.symm; assumption) | (intro hh; subst hh; contradiction) | exact tf_n1 (by assumption) (by assumption) | exact tf_n2 (by assumption) (by assumption)) ?_; first | assumption | exact va_up_self _ _ _ | (refine tf_u (by first | assumption | (apply Ne.symm; assumption) | (intro hh; subst hh; contradiction) | exact tf_n1 (by assumption) (by assumption) | exact tf_n2 (by assumption) (by assumption)) ?_; first | assumption | exact va_up_self _ _ _ | (refine tf_u (by first | assumption | (apply Ne.symm; assumption) | (intro hh; subst hh; contradiction) | exact tf_n1 (by assumption) (by assumption) | exact tf_n2 (by assumption) (by assumption)) ?_; first | assumption | exact va_up_self _ _ _ | (refine tf_u (by first | assumption | (apply Ne.symm; assumption) | (intro hh; subst hh; contradiction) | exact tf_n1 (by assumption) (by assumption) | exact tf_n2 (by assumption) (by assumption)) ?_; first | assumption | exact va_up_self _ _ _)))))
  case hi_14_43 => exact hc1
  rw [hs1]
  refine tf_blk _ b_Path_follow_15 rfl ?_
  refine tf_put (fs := ?fs_19_44) 22 d_Path_follow_19 rfl fw_Path_23 ?ha_19_44 ?hf_19_44 ?hl_19_44 ?hn_19_44 ?ht_19_44 ?kk_19_44
  case ha_19_44 => first | assumption | (simp only [List.mem_append, List.mem_singleton]; simp [*])
  case hf_19_44 => first | assumption | exact va_up_self _ _ _ | (refine tf_u (by first | assumption | (apply Ne.symm; assumption) | (intro hh; subst hh; contradiction) | exact tf_n1 (by assumption) (by assumption) | exact tf_n2 (by assumption) (by assumption)) ?_; first | assumption | exact va_up_self _ _ _ | (refine tf_u (by first | assumption | (apply Ne.symm; assumption) | (intro hh; subst hh; contradiction) | exact tf_n1 (by assumption) (by assumption) | exact tf_n2 (by assumption) (by assumption)) ?_; first | assumption | exact va_up_self _ _ _ | (refine tf_u (by first | assumption | (apply Ne.symm; assumption) | (intro hh; subst hh; contradiction) | exact tf_n1 (by assumption) (by assumption) | exact tf_n2 (by assumption) (by assumption)) ?_; first | assumption | exact va_up_self _ _ _ | (refine tf_u (by first | assumption | (apply Ne.symm; assumption) | (intro hh; subst hh; contradiction) | exact tf_n1 (by assumption) (by assumption) | exact tf_n2 (by assumption) (by assumption)) ?_; first | assumption | exact va_up_self _ _ _ | (refine tf_u (by first | assumption | (apply Ne.symm; assumption) | (intro hh; subst hh; contradiction) | exact tf_n1 (by assumption) (by assumption) | exact tf_n2 (by assumption) (by assumption)) ?_; first | assumption | exact va_up_self _ _ _)))))
  case hl_19_44 => exact Nat.le_of_ble_eq_true rfl
  case hn_19_44 => rfl
  case ht_19_44 => rfl
  refine tf_blk _ b_Path_follow_22 rfl ?_
  have h9 := t_Path_fol l D q d L _ (by omega) (w0 := (0, w0.2.1, w0.2.2)) ha hxs hys hne hb hox hoy hoo (va_up_self _ _ _) ((va_up_ne _ _ (tf_n2 fx0 fa0)).trans fx0) ((va_up_ne _ _ (tf_n2 fy0 fa0)).trans fy0) ((va_up_ne _ _ (tf_n3 fb0 fa0 (by decide))).trans fb0) ((va_up_ne _ _ (tf_n2 fX0 fa0)).trans fX0) ((va_up_ne _ _ (tf_n2 fY0 fa0)).trans fY0) ((va_up_ne _ _ (tf_n2 fO0 fa0)).trans fO0) hse he c (e - s) s (0, w0.2.1, w0.2.2) _ (by omega) (Nat.le_refl _) (by omega) ⟨va_up_self _ _ _, (va_up_ne _ _ (tf_n2 fx0 fa0)).trans fx0, (va_up_ne _ _ (tf_n2 fy0 fa0)).trans fy0, fun _ _ _ _ => rfl⟩
  refine tf_W_mono (fun v L2 f2 z => ?_) h9
  obtain ⟨z1, z2, y1, y2, y3, y4⟩ := z
  exact ⟨z1, z2, y1, y2, y3, fun z u1 u2 u3 => (y4 z u1 u2 u3).trans (va_up_ne _ _ u1)⟩
end
