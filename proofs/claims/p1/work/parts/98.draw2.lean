/-! draw: the contours -/
section
variable (l : Launch) (D : va_G) (q : Nat → ClassId) (d : Nat) (L : List Nat) (f : tf_F)
end
/-- the state while it is drawn: the path, the cells -/
def tc_dr (S : tc_S) (w : tw_PW) (g : Nat → Int32) : tc_S := (tc_S_mk S.mm S.u S.w S.n S.T S.oc S.op S.oA (w.1) (w.2.1) (w.2.2) S.hn S.hy S.cs S.ca (g) S.kp S.kl S.kr S.kc S.kL S.kR S.kO S.row S.rs S.ts S.rn S.pu S.tx S.R)
theorem tf_pw1 {f f2 : tf_F} {a : Nat} {x : va_E} (h1 : f2 a = x) (h5 : ∀ z, z ≠ a → f2 z = f z) : f2 = va_up f a x := by
  funext z
  by_cases z1 : z = a
  · rw [z1]; exact h1.trans (va_up_self _ _ _).symm
  · exact (h5 z z1).trans (va_up_ne _ _ z1).symm
theorem tc_pth0 {q : Nat → ClassId} {ad : Nat → Nat} {S : tc_S} {B : Nat → Prop} {L : List Nat} {f f2 : tf_F} {w2 : tw_PW} (h : tc_at q ad S B L f) (hp : pa_at q (ad 9) (ad 10) (ad 11) f w2 f2) : tc_at q ad (tc_S_mk S.mm S.u S.w S.n S.T S.oc S.op S.oA (w2.1) (w2.2.1) (w2.2.2) S.hn S.hy S.cs S.ca S.ce S.kp S.kl S.kr S.kc S.kL S.kR S.kO S.row S.rs S.ts S.rn S.pu S.tx S.R) B L f2 ∧ ∀ z, B z → f2 z = f z := by
  obtain ⟨h1, h2, h3, h4⟩ := hp
  have e : f2 = tc_uF ad f [(10, ti q 320 w2.2.1), (11, ti q 320 w2.2.2), (9, to 8 [.ref (ad 10), .ref (ad 11), .int (nI w2.1)])] := by
    funext z
    by_cases z1 : z = ad 9
    · rw [z1]; exact h1.trans (va_up_self _ _ _).symm
    refine Eq.trans ?_ (va_up_ne _ _ z1).symm
    by_cases z2 : z = ad 11
    · rw [z2]; exact h3.trans (va_up_self _ _ _).symm
    refine Eq.trans ?_ (va_up_ne _ _ z2).symm
    by_cases z3 : z = ad 10
    · rw [z3]; exact h2.trans (va_up_self _ _ _).symm
    exact (h4 z z1 z3 z2).trans (va_up_ne _ _ z3).symm
  rw [e]
  exact tc_goF (S2 := (tc_S_mk S.mm S.u S.w S.n S.T S.oc S.op S.oA (w2.1) (w2.2.1) (w2.2.2) S.hn S.hy S.cs S.ca S.ce S.kp S.kl S.kr S.kc S.kL S.kR S.kO S.row S.rs S.ts S.rn S.pu S.tx S.R)) h _ (by simp) rfl rfl rfl rfl rfl rfl
theorem tc_py0 {q : Nat → ClassId} {ad : Nat → Nat} {S : tc_S} {B : Nat → Prop} {L : List Nat} {f f2 : tf_F} {y : Nat → Int32} (h : tc_at q ad S B L f) (h1 : f2 (ad 11) = ti q 320 y) (h2 : ∀ z, z ≠ ad 11 → f2 z = f z) : tc_at q ad (tc_S_mk S.mm S.u S.w S.n S.T S.oc S.op S.oA S.pz S.px (y) S.hn S.hy S.cs S.ca S.ce S.kp S.kl S.kr S.kc S.kL S.kR S.kO S.row S.rs S.ts S.rn S.pu S.tx S.R) B L f2 ∧ ∀ z, B z → f2 z = f z := by
  rw [tf_pw1 h1 h2]
  exact tc_goF (S2 := (tc_S_mk S.mm S.u S.w S.n S.T S.oc S.op S.oA S.pz S.px (y) S.hn S.hy S.cs S.ca S.ce S.kp S.kl S.kr S.kc S.kL S.kR S.kO S.row S.rs S.ts S.rn S.pu S.tx S.R)) h [(11, ti q 320 y)] (by simp) rfl rfl rfl rfl rfl rfl
theorem tc_gg0 {q : Nat → ClassId} {ad : Nat → Nat} {S : tc_S} {B : Nat → Prop} {L : List Nat} {f f2 : tf_F} {g2 : Nat → Int32} (h : tc_at q ad S B L f) (h1 : f2 (ad 15) = ti q 4096 g2) (h2 : ∀ z, z ≠ ad 15 → f2 z = f z) : tc_at q ad (tc_S_mk S.mm S.u S.w S.n S.T S.oc S.op S.oA S.pz S.px S.py S.hn S.hy S.cs S.ca (g2) S.kp S.kl S.kr S.kc S.kL S.kR S.kO S.row S.rs S.ts S.rn S.pu S.tx S.R) B L f2 ∧ ∀ z, B z → f2 z = f z := by
  rw [tf_pw1 h1 h2]
  exact tc_goF (S2 := (tc_S_mk S.mm S.u S.w S.n S.T S.oc S.op S.oA S.pz S.px S.py S.hn S.hy S.cs S.ca (g2) S.kp S.kl S.kr S.kc S.kL S.kR S.kO S.row S.rs S.ts S.rn S.pu S.tx S.R)) h [(15, ti q 4096 g2)] (by simp) rfl rfl rfl rfl rfl rfl
theorem tc_pth {q : Nat → ClassId} {ad : Nat → Nat} {S : tc_S} {B : Nat → Prop} {L : List Nat} {f f2 : tf_F} {w w2 : tw_PW} {g : Nat → Int32} (h : tc_at q ad (tc_dr S w g) B L f) (hp : pa_at q (ad 9) (ad 10) (ad 11) f w2 f2) : tc_at q ad (tc_dr S w2 g) B L f2 ∧ ∀ z, B z → f2 z = f z := tc_pth0 h hp
theorem tc_py {q : Nat → ClassId} {ad : Nat → Nat} {S : tc_S} {B : Nat → Prop} {L : List Nat} {f f2 : tf_F} {w : tw_PW} {g y : Nat → Int32} (h : tc_at q ad (tc_dr S w g) B L f) (h1 : f2 (ad 11) = ti q 320 y) (h2 : ∀ z, z ≠ ad 11 → f2 z = f z) : tc_at q ad (tc_dr S (w.1, w.2.1, y) g) B L f2 ∧ ∀ z, B z → f2 z = f z := tc_py0 h h1 h2
theorem tc_gg {q : Nat → ClassId} {ad : Nat → Nat} {S : tc_S} {B : Nat → Prop} {L : List Nat} {f f2 : tf_F} {w : tw_PW} {g g2 : Nat → Int32} (h : tc_at q ad (tc_dr S w g) B L f) (h1 : f2 (ad 15) = ti q 4096 g2) (h2 : ∀ z, z ≠ ad 15 → f2 z = f z) : tc_at q ad (tc_dr S w g2) B L f2 ∧ ∀ z, B z → f2 z = f z := tc_gg0 h h1 h2
/-- contour c of the outline as a path -/
def tc_path (S : tc_S) (c : Nat) (w : tw_PW) : tw_PW := tw_fol (S.oA 0) (S.oA 1) (S.oA 2) (S.oA 3 c).toNatClampNeg (S.oA 3 (c + 1)).toNatClampNeg ((S.oA 3 (c + 1)).toNatClampNeg - (S.oA 3 c).toNatClampNeg) (S.oA 3 c).toNatClampNeg (0, w.2.1, w.2.2)
def tc_fitw (S : tc_S) (b : Int32) (w : tw_PW) : tw_PW := if b = 0 then w else (w.1, w.2.1, tw_pfit S.hy S.hn S.cs w.1 0 w.2.2)
/-- the contours from c on, m of them, drawn -/
def tc_drw (S : tc_S) (b : Int32) : Nat → Nat → tw_PW → (Nat → Int32) → tw_PW × (Nat → Int32)
  | 0, _, w, g => (w, g)
  | m + 1, c, w, g => tc_drw S b m (c + 1) (tc_fitw S b (tc_path S c w)) (tw_apath S.cs S.ca (tc_fitw S b (tc_path S c w)).2.1 (tc_fitw S b (tc_path S c w)).2.2 (tc_fitw S b (tc_path S c w)).1 0 ((tc_fitw S b (tc_path S c w)).1 - 1) g)
section
variable (l : Launch) (D : va_G) (q : Nat → ClassId) (d : Nat) (L : List Nat) (f : tf_F)
set_option maxHeartbeats 4000000 in
set_option maxRecDepth 100000 in
theorem t_Tf_draw (hd : 7 ≤ d) {EX : State → (Nat → Prop) → Prop} {QB : tf_B} {kc ks : Nat} {ad : Nat → Nat} {S : tc_S} {B : Nat → Prop} {C x4 : Nat} {x1 : Int32} (b : Int32) (hs : ¬ S.cs = 0) (hca : S.ca ≤ 64) (hh : S.hn ≤ 8) (hoc : S.oc = nI C) (hC : C ≤ 53) {st : Nat → Nat} (hst : ∀ z, z ≤ C → S.oA 3 z = nI (st z)) (hgap : ∀ z, z < C → st z + 3 ≤ st (z + 1) ∧ st (z + 1) ≤ st z + 40 ∧ st (z + 1) ≤ 160) : ∀ m c (w : tw_PW) (g : Nat → Int32) (fc : tf_F), c + m = C → tc_at q ad (tc_dr S w g) B L fc → (∀ z, B z → fc z = f z) → (∀ f2 : tf_F, tc_at q ad (tc_dr S (tc_drw S b m c w g).1 (tc_drw S b m c w g).2) B L f2 → (∀ z, B z → f2 z = f z) → tf_W l (tf_H D q) EX QB d i_Tf_draw 111 [(0, .ref (ad 0)), (1, .int x1), (2, .int S.cs), (3, .int b), (4, .ref x4), (5, .int (nI C))] [] L f2 kc ks) → tf_W l (tf_H D q) EX QB d i_Tf_draw 53 [(0, .ref (ad 0)), (1, .int x1), (2, .int S.cs), (3, .int b), (4, .ref x4), (5, .int (nI c))] [] L fc kc ks := by
  intro m
  induction m with
  | zero =>
    intro c w g fc hm h hB hK
    obtain rfl : c = C := hm
    obtain ⟨hx, fx⟩ := tc_c0 h
    obtain ⟨ho, fo⟩ := tc_c3 h
    replace fo : fc (ad 3) = to 6 [.ref (ad 4), .ref (ad 5), .ref (ad 6), .ref (ad 7), .int (nI c), .ref (ad 8), .int S.op] := by rw [← hoc]; exact fo
    refine tf_blk _ b_Tf_draw_53 rfl ?_
    refine tf_get (fs := ?fs_56_1) (v := ?v_56_1) 59 d_Tf_draw_56 rfl fl_Tf_27 ?ha_56_1 ?hf_56_1 ?hv_56_1 ?kk_56_1
    case ha_56_1 => first | assumption | (simp only [List.mem_append, List.mem_singleton]; simp [*])
    case hf_56_1 => first | assumption | exact va_up_self _ _ _ | (refine tf_u (by first | assumption | (apply Ne.symm; assumption) | (intro hh; subst hh; contradiction) | exact tf_n1 (by assumption) (by assumption) | exact tf_n2 (by assumption) (by assumption)) ?_; first | assumption | exact va_up_self _ _ _ | (refine tf_u (by first | assumption | (apply Ne.symm; assumption) | (intro hh; subst hh; contradiction) | exact tf_n1 (by assumption) (by assumption) | exact tf_n2 (by assumption) (by assumption)) ?_; first | assumption | exact va_up_self _ _ _ | (refine tf_u (by first | assumption | (apply Ne.symm; assumption) | (intro hh; subst hh; contradiction) | exact tf_n1 (by assumption) (by assumption) | exact tf_n2 (by assumption) (by assumption)) ?_; first | assumption | exact va_up_self _ _ _ | (refine tf_u (by first | assumption | (apply Ne.symm; assumption) | (intro hh; subst hh; contradiction) | exact tf_n1 (by assumption) (by assumption) | exact tf_n2 (by assumption) (by assumption)) ?_; first | assumption | exact va_up_self _ _ _ | (refine tf_u (by first | assumption | (apply Ne.symm; assumption) | (intro hh; subst hh; contradiction) | exact tf_n1 (by assumption) (by assumption) | exact tf_n2 (by assumption) (by assumption)) ?_; first | assumption | exact va_up_self _ _ _)))))
    case hv_56_1 => rfl
    refine tf_get (fs := ?fs_59_2) (v := ?v_59_2) 62 d_Tf_draw_59 rfl fl_Tf_187 ?ha_59_2 ?hf_59_2 ?hv_59_2 ?kk_59_2
    case ha_59_2 => first | assumption | (simp only [List.mem_append, List.mem_singleton]; simp [*])
    case hf_59_2 => first | assumption | exact va_up_self _ _ _ | (refine tf_u (by first | assumption | (apply Ne.symm; assumption) | (intro hh; subst hh; contradiction) | exact tf_n1 (by assumption) (by assumption) | exact tf_n2 (by assumption) (by assumption)) ?_; first | assumption | exact va_up_self _ _ _ | (refine tf_u (by first | assumption | (apply Ne.symm; assumption) | (intro hh; subst hh; contradiction) | exact tf_n1 (by assumption) (by assumption) | exact tf_n2 (by assumption) (by assumption)) ?_; first | assumption | exact va_up_self _ _ _ | (refine tf_u (by first | assumption | (apply Ne.symm; assumption) | (intro hh; subst hh; contradiction) | exact tf_n1 (by assumption) (by assumption) | exact tf_n2 (by assumption) (by assumption)) ?_; first | assumption | exact va_up_self _ _ _ | (refine tf_u (by first | assumption | (apply Ne.symm; assumption) | (intro hh; subst hh; contradiction) | exact tf_n1 (by assumption) (by assumption) | exact tf_n2 (by assumption) (by assumption)) ?_; first | assumption | exact va_up_self _ _ _ | (refine tf_u (by first | assumption | (apply Ne.symm; assumption) | (intro hh; subst hh; contradiction) | exact tf_n1 (by assumption) (by assumption) | exact tf_n2 (by assumption) (by assumption)) ?_; first | assumption | exact va_up_self _ _ _)))))
    case hv_59_2 => rfl
    refine tf_ic_ge 111 65 d_Tf_draw_62 rfl rfl (fun h62 => ?_) (fun h62 => absurd (nI_le (by omega) (by omega)) h62)
    exact hK _ h hB
  | succ m ih =>
    intro c w g fc hm h hB hK
    obtain ⟨hx, fx⟩ := tc_c0 h
    obtain ⟨ho, fo⟩ := tc_c3 h
    replace fo : fc (ad 3) = to 6 [.ref (ad 4), .ref (ad 5), .ref (ad 6), .ref (ad 7), .int (nI C), .ref (ad 8), .int S.op] := by rw [← hoc]; exact fo
    obtain ⟨g1, g2, g3⟩ := hgap c (by omega)
    have hs0 := hst c (by omega)
    have hs1 := hst (c + 1) (by omega)
    have c0 : (S.oA 3 c).toNatClampNeg = st c := by rw [hs0]; exact nI_clamp (by omega)
    have c1 : (S.oA 3 (c + 1)).toNatClampNeg = st (c + 1) := by rw [hs1]; exact nI_clamp (by omega)
    have e1 : nI c + kI 1 = nI (c + 1) := nI_1 c
    have hn1 : (tc_path S c w).1 ≤ 320 := by
      have := tw_fol_n (S.oA 0) (S.oA 1) (S.oA 2) (st c) (st (c + 1)) (st (c + 1) - st c) (st c) (0, w.2.1, w.2.2)
      unfold tc_path
      rw [c0, c1]
      have z0 : ((0, w.2.1, w.2.2) : tw_PW).1 = 0 := rfl
      omega
    have hS : tc_drw S b (m + 1) c w g = tc_drw S b m (c + 1) (tc_fitw S b (tc_path S c w)) (tw_apath S.cs S.ca (tc_fitw S b (tc_path S c w)).2.1 (tc_fitw S b (tc_path S c w)).2.2 (tc_fitw S b (tc_path S c w)).1 0 ((tc_fitw S b (tc_path S c w)).1 - 1) g) := rfl
    rw [hS] at hK
    by_cases b0 : b = 0
    · have hfw : tc_fitw S b (tc_path S c w) = tc_path S c w := if_pos b0
      have hfn : (tc_fitw S b (tc_path S c w)).1 ≤ 320 := by rw [hfw]; exact hn1
      refine tf_blk _ b_Tf_draw_53 rfl ?_
      refine tf_get (fs := ?fs_56_3) (v := ?v_56_3) 59 d_Tf_draw_56 rfl fl_Tf_27 ?ha_56_3 ?hf_56_3 ?hv_56_3 ?kk_56_3
      case ha_56_3 => exact hx
      case hf_56_3 => exact fx
      case hv_56_3 => rfl
      refine tf_get (fs := ?fs_59_4) (v := ?v_59_4) 62 d_Tf_draw_59 rfl fl_Tf_187 ?ha_59_4 ?hf_59_4 ?hv_59_4 ?kk_59_4
      case ha_59_4 => exact ho
      case hf_59_4 => exact fo
      case hv_59_4 => rfl
      refine tf_ic_ge 111 65 d_Tf_draw_62 rfl rfl (fun h62 => absurd h62 (nI_ge (by omega) (by omega))) (fun h62 => ?_)
      refine tf_blk _ b_Tf_draw_65 rfl ?_
      refine tf_get (fs := ?fs_66_5) (v := ?v_66_5) 69 d_Tf_draw_66 rfl fl_Tf_34 ?ha_66_5 ?hf_66_5 ?hv_66_5 ?kk_66_5
      case ha_66_5 => exact hx
      case hf_66_5 => exact fx
      case hv_66_5 => rfl
      refine tf_blk _ b_Tf_draw_69 rfl ?_
      refine tf_get (fs := ?fs_70_6) (v := ?v_70_6) 73 d_Tf_draw_70 rfl fl_Tf_27 ?ha_70_6 ?hf_70_6 ?hv_70_6 ?kk_70_6
      case ha_70_6 => exact hx
      case hf_70_6 => exact fx
      case hv_70_6 => rfl
      refine tf_blk _ b_Tf_draw_73 rfl ?_
      refine tf_cV (tf_gok _ _) (c_Path_follow l D q (d - 1) _ _ (by omega) (w0 := w) (tc_c9 h).1 (tc_c10 h).1 (tc_c11 h).1 (tc_neF h (by decide) (by decide) (by decide)) ho (tc_c4 h).1 (tc_c5 h).1 (tc_c6 h).1 (tc_c9 h).2 (tc_c10 h).2 (tc_c11 h).2 fo (tc_c4 h).2 (tc_c5 h).2 (tc_c6 h).2 (tc_c7 h).1 (tc_c7 h).2 (s := st c) (e := st (c + 1)) (nI c) (by omega) (by omega) (by omega) (vp_in_nI (by omega) (by omega)) (by rw [e1]; exact vp_in_nI (by omega) (by omega)) (by rw [nI_clamp (by omega)]; exact hs0) (by rw [e1, nI_clamp (by omega)]; exact hs1)) 78 d_Tf_draw_75 rfl lk_Tf_190 cw_Path_follow (by rfl) in_Path_follow se_Path_follow (by exact (tc_c9 h).1) (by exact (tc_c9 h).2) (by rfl) (by rfl) (by omega) (by exact Nat.le_of_ble_eq_true rfl) rfl ?_
      rintro v75 L75 f75 ⟨rfl, rfl, hp⟩
      have hw2 : tw_fol (S.oA 0) (S.oA 1) (S.oA 2) (st c) (st (c + 1)) (st (c + 1) - st c) (st c) (0, w.2.1, w.2.2) = tc_path S c w := by unfold tc_path; rw [c0, c1]
      have h2 := tc_pth h (w2 := tc_path S c w) (by rw [← hw2]; exact hp)
      obtain ⟨hx2, fx2⟩ := tc_c0 h2.1
      rw [← hfw] at h2
      refine tf_blk _ b_Tf_draw_78 rfl ?_
      refine tf_if_eq 94 82 d_Tf_draw_79 rfl rfl (fun h79 => ?_) (fun h79 => absurd (b0) h79)
      refine tf_blk _ b_Tf_draw_94 rfl ?_
      refine tf_get (fs := ?fs_95_8) (v := ?v_95_8) 98 d_Tf_draw_95 rfl fl_Tf_48 ?ha_95_8 ?hf_95_8 ?hv_95_8 ?kk_95_8
      case ha_95_8 => exact hx2
      case hf_95_8 => exact fx2
      case hv_95_8 => rfl
      refine tf_blk _ b_Tf_draw_98 rfl ?_
      refine tf_get (fs := ?fs_99_9) (v := ?v_99_9) 102 d_Tf_draw_99 rfl fl_Tf_34 ?ha_99_9 ?hf_99_9 ?hv_99_9 ?kk_99_9
      case ha_99_9 => exact hx2
      case hf_99_9 => exact fx2
      case hv_99_9 => rfl
      refine tf_cV (tf_gok _ _) (c_Canvas_addPath l D q (d - 1) _ _ (by omega) hca hs (tc_c14 h2.1).1 (tc_c15 h2.1).1 (tc_c14 h2.1).2 (tc_c15 h2.1).2 (w := (tc_fitw S b (tc_path S c w)).1) (by omega) (tc_c9 h2.1).1 (tc_c10 h2.1).1 (tc_c11 h2.1).1 (tc_c9 h2.1).2 (tc_c10 h2.1).2 (tc_c11 h2.1).2) 105 d_Tf_draw_102 rfl lk_Tf_198 cw_Canvas_addPath (by rfl) in_Canvas_addPath se_Canvas_addPath (by exact (tc_c14 h2.1).1) (by exact (tc_c14 h2.1).2) (by rfl) (by rfl) (by omega) (by exact Nat.le_of_ble_eq_true rfl) rfl ?_
      rintro v102 L102 f102 ⟨rfl, rfl, k3, k4⟩
      have h4 := tc_gg h2.1 k3 k4
      refine tf_blk _ b_Tf_draw_105 rfl ?_
      refine tf_goto 53 d_Tf_draw_108 rfl ?_
      have h9 := ih (c + 1) _ _ _ (by omega) h4.1 (fun z hz => (h4.2 z hz).trans ((h2.2 z hz).trans (hB z hz))) hK
      rw [show nI (c + 1) = nI c + 1 from nI_succ c] at h9
      exact h9
    have hfw : tc_fitw S b (tc_path S c w) = ((tc_path S c w).1, (tc_path S c w).2.1, tw_pfit S.hy S.hn S.cs (tc_path S c w).1 0 (tc_path S c w).2.2) := if_neg b0
    have hfn : (tc_fitw S b (tc_path S c w)).1 ≤ 320 := by rw [hfw]; exact hn1
    refine tf_blk _ b_Tf_draw_53 rfl ?_
    refine tf_get (fs := ?fs_56_11) (v := ?v_56_11) 59 d_Tf_draw_56 rfl fl_Tf_27 ?ha_56_11 ?hf_56_11 ?hv_56_11 ?kk_56_11
    case ha_56_11 => exact hx
    case hf_56_11 => exact fx
    case hv_56_11 => rfl
    refine tf_get (fs := ?fs_59_12) (v := ?v_59_12) 62 d_Tf_draw_59 rfl fl_Tf_187 ?ha_59_12 ?hf_59_12 ?hv_59_12 ?kk_59_12
    case ha_59_12 => exact ho
    case hf_59_12 => exact fo
    case hv_59_12 => rfl
    refine tf_ic_ge 111 65 d_Tf_draw_62 rfl rfl (fun h62 => absurd h62 (nI_ge (by omega) (by omega))) (fun h62 => ?_)
    refine tf_blk _ b_Tf_draw_65 rfl ?_
    refine tf_get (fs := ?fs_66_13) (v := ?v_66_13) 69 d_Tf_draw_66 rfl fl_Tf_34 ?ha_66_13 ?hf_66_13 ?hv_66_13 ?kk_66_13
    case ha_66_13 => exact hx
    case hf_66_13 => exact fx
    case hv_66_13 => rfl
    refine tf_blk _ b_Tf_draw_69 rfl ?_
    refine tf_get (fs := ?fs_70_14) (v := ?v_70_14) 73 d_Tf_draw_70 rfl fl_Tf_27 ?ha_70_14 ?hf_70_14 ?hv_70_14 ?kk_70_14
    case ha_70_14 => exact hx
    case hf_70_14 => exact fx
    case hv_70_14 => rfl
    refine tf_blk _ b_Tf_draw_73 rfl ?_
    refine tf_cV (tf_gok _ _) (c_Path_follow l D q (d - 1) _ _ (by omega) (w0 := w) (tc_c9 h).1 (tc_c10 h).1 (tc_c11 h).1 (tc_neF h (by decide) (by decide) (by decide)) ho (tc_c4 h).1 (tc_c5 h).1 (tc_c6 h).1 (tc_c9 h).2 (tc_c10 h).2 (tc_c11 h).2 fo (tc_c4 h).2 (tc_c5 h).2 (tc_c6 h).2 (tc_c7 h).1 (tc_c7 h).2 (s := st c) (e := st (c + 1)) (nI c) (by omega) (by omega) (by omega) (vp_in_nI (by omega) (by omega)) (by rw [e1]; exact vp_in_nI (by omega) (by omega)) (by rw [nI_clamp (by omega)]; exact hs0) (by rw [e1, nI_clamp (by omega)]; exact hs1)) 78 d_Tf_draw_75 rfl lk_Tf_190 cw_Path_follow (by rfl) in_Path_follow se_Path_follow (by exact (tc_c9 h).1) (by exact (tc_c9 h).2) (by rfl) (by rfl) (by omega) (by exact Nat.le_of_ble_eq_true rfl) rfl ?_
    rintro v75 L75 f75 ⟨rfl, rfl, hp⟩
    have hw2 : tw_fol (S.oA 0) (S.oA 1) (S.oA 2) (st c) (st (c + 1)) (st (c + 1) - st c) (st c) (0, w.2.1, w.2.2) = tc_path S c w := by unfold tc_path; rw [c0, c1]
    have h2 := tc_pth h (w2 := tc_path S c w) (by rw [← hw2]; exact hp)
    obtain ⟨hx2, fx2⟩ := tc_c0 h2.1
    refine tf_blk _ b_Tf_draw_78 rfl ?_
    refine tf_if_eq 94 82 d_Tf_draw_79 rfl rfl (fun h79 => absurd h79 (b0)) (fun h79 => ?_)
    refine tf_blk _ b_Tf_draw_82 rfl ?_
    refine tf_get (fs := ?fs_83_16) (v := ?v_83_16) 86 d_Tf_draw_83 rfl fl_Tf_34 ?ha_83_16 ?hf_83_16 ?hv_83_16 ?kk_83_16
    case ha_83_16 => exact hx2
    case hf_83_16 => exact fx2
    case hv_83_16 => rfl
    refine tf_blk _ b_Tf_draw_86 rfl ?_
    refine tf_get (fs := ?fs_87_17) (v := ?v_87_17) 90 d_Tf_draw_87 rfl fl_Tf_41 ?ha_87_17 ?hf_87_17 ?hv_87_17 ?kk_87_17
    case ha_87_17 => exact hx2
    case hf_87_17 => exact fx2
    case hv_87_17 => rfl
    refine tf_blk _ b_Tf_draw_90 rfl ?_
    refine tf_cV (tf_gok _ _) (c_Path_fit l D q (d - 1) _ _ (by omega) S.cs hn1 hh (tc_c9 h2.1).1 (tc_c11 h2.1).1 (tc_c12 h2.1).1 (tc_c13 h2.1).1 (tc_neF h2.1 (by decide) (by decide) (by decide)) (tc_c9 h2.1).2 (tc_c11 h2.1).2 (tc_c12 h2.1).2 (tc_c13 h2.1).2) 94 d_Tf_draw_91 rfl lk_Tf_194 cw_Path_fit (by rfl) in_Path_fit se_Path_fit (by exact (tc_c9 h2.1).1) (by exact (tc_c9 h2.1).2) (by rfl) (by rfl) (by omega) (by exact Nat.le_of_ble_eq_true rfl) rfl ?_
    rintro v91 L91 f91 ⟨rfl, rfl, k1, k2⟩
    have h3 := tc_py h2.1 (y := tw_pfit S.hy S.hn S.cs (tc_path S c w).1 0 (tc_path S c w).2.2) k1 k2
    rw [← hfw] at h3
    obtain ⟨hx3, fx3⟩ := tc_c0 h3.1
    refine tf_blk _ b_Tf_draw_94 rfl ?_
    refine tf_get (fs := ?fs_95_19) (v := ?v_95_19) 98 d_Tf_draw_95 rfl fl_Tf_48 ?ha_95_19 ?hf_95_19 ?hv_95_19 ?kk_95_19
    case ha_95_19 => exact hx3
    case hf_95_19 => exact fx3
    case hv_95_19 => rfl
    refine tf_blk _ b_Tf_draw_98 rfl ?_
    refine tf_get (fs := ?fs_99_20) (v := ?v_99_20) 102 d_Tf_draw_99 rfl fl_Tf_34 ?ha_99_20 ?hf_99_20 ?hv_99_20 ?kk_99_20
    case ha_99_20 => exact hx3
    case hf_99_20 => exact fx3
    case hv_99_20 => rfl
    refine tf_cV (tf_gok _ _) (c_Canvas_addPath l D q (d - 1) _ _ (by omega) hca hs (tc_c14 h3.1).1 (tc_c15 h3.1).1 (tc_c14 h3.1).2 (tc_c15 h3.1).2 (w := (tc_fitw S b (tc_path S c w)).1) (by omega) (tc_c9 h3.1).1 (tc_c10 h3.1).1 (tc_c11 h3.1).1 (tc_c9 h3.1).2 (tc_c10 h3.1).2 (tc_c11 h3.1).2) 105 d_Tf_draw_102 rfl lk_Tf_198 cw_Canvas_addPath (by rfl) in_Canvas_addPath se_Canvas_addPath (by exact (tc_c14 h3.1).1) (by exact (tc_c14 h3.1).2) (by rfl) (by rfl) (by omega) (by exact Nat.le_of_ble_eq_true rfl) rfl ?_
    rintro v102 L102 f102 ⟨rfl, rfl, k3, k4⟩
    have h4 := tc_gg h3.1 k3 k4
    refine tf_blk _ b_Tf_draw_105 rfl ?_
    refine tf_goto 53 d_Tf_draw_108 rfl ?_
    have h9 := ih (c + 1) _ _ _ (by omega) h4.1 (fun z hz => (h4.2 z hz).trans ((h3.2 z hz).trans ((h2.2 z hz).trans (hB z hz)))) hK
    rw [show nI (c + 1) = nI c + 1 from nI_succ c] at h9
    exact h9
end
