/-! draw -/
section
variable (l : Launch) (D : va_G) (q : Nat → ClassId) (d : Nat) (L : List Nat) (f : tf_F)
end
/-- how many pixels lie in a row, by the side -/
def tc_acr (s : Int32) (n : Nat) : Prop := (s = kI 32 ∧ n = 64) ∨ (s = kI 64 ∧ n = 32) ∨ (s = kI 128 ∧ n = 16) ∨ (s = kI 256 ∧ n = 8)
theorem tc_acr_ok {s : Int32} {n : Nat} (h : tc_acr s n) : ¬ s = 0 ∧ n ≤ 64 ∧ kI 2048 / s = nI n ∧ tw_isSide s = true := by
  rcases h with ⟨rfl, rfl⟩ | ⟨rfl, rfl⟩ | ⟨rfl, rfl⟩ | ⟨rfl, rfl⟩
  · exact ⟨by decide, by decide, by decide, by decide⟩
  · exact ⟨by decide, by decide, by decide, by decide⟩
  · exact ⟨by decide, by decide, by decide, by decide⟩
  · exact ⟨by decide, by decide, by decide, by decide⟩
/-- the state when the pixels have been begun -/
def tc_wC (S : tc_S) (s : Int32) (n : Nat) : tc_S := (tc_S_mk S.mm S.u S.w S.n S.T S.oc S.op S.oA S.pz S.px S.py S.hn S.hy (s) (n) (tw_fl (kI 0) (n * n) 0 S.ce) S.kp S.kl S.kr S.kc S.kL S.kR S.kO S.row S.rs S.ts S.rn S.pu S.tx S.R)
theorem tc_cst {q : Nat → ClassId} {ad : Nat → Nat} {S : tc_S} {B : Nat → Prop} {L : List Nat} {f f2 : tf_F} {s : Int32} {n : Nat} (h : tc_at q ad S B L f) (h1 : f2 (ad 14) = to 2 [.ref (ad 15), .int s, .int (nI n)]) (h2 : f2 (ad 15) = ti q 4096 (tw_fl (kI 0) (n * n) 0 S.ce)) (h3 : ∀ z, z ≠ ad 14 → z ≠ ad 15 → f2 z = f z) : tc_at q ad (tc_wC S s n) B L f2 ∧ ∀ z, B z → f2 z = f z := by
  have e : f2 = tc_uF ad f [(15, ti q 4096 (tw_fl (kI 0) (n * n) 0 S.ce)), (14, to 2 [.ref (ad 15), .int s, .int (nI n)])] := by
    funext z
    by_cases z1 : z = ad 14
    · rw [z1]; exact h1.trans (va_up_self _ _ _).symm
    refine Eq.trans ?_ (va_up_ne _ _ z1).symm
    by_cases z2 : z = ad 15
    · rw [z2]; exact h2.trans (va_up_self _ _ _).symm
    exact (h3 z z1 z2).trans (va_up_ne _ _ z2).symm
  rw [e]
  exact tc_goF (S2 := tc_wC S s n) h _ (by simp) rfl rfl rfl rfl rfl rfl
theorem tc_dr_eta (S : tc_S) : tc_dr S (S.pz, S.px, S.py) S.ce = S := rfl
/-- what the contours of an outline come to, in the state S2 that has it -/
def tc_drn (S2 : tc_S) (b : Int32) (m : Nat) : tw_PW × (Nat → Int32) := tc_drw S2 b m 0 (S2.pz, S2.px, S2.py) S2.ce
def tc_draw (S2 : tc_S) (b : Int32) (m : Nat) : Int32 × tc_S := ((tw_gr S2.cs S2.ca S2.ca 0 (kI 0) (tc_drn S2 b m).2).1, tc_dr S2 (tc_drn S2 b m).1 (tw_gr S2.cs S2.ca S2.ca 0 (kI 0) (tc_drn S2 b m).2).2)
section
variable (l : Launch) (D : va_G) (q : Nat → ClassId) (d : Nat) (L : List Nat) (f : tf_F)
set_option maxHeartbeats 4000000 in
set_option maxRecDepth 100000 in
theorem c_Tf_draw_t (hl : l.stackTraces = false) (hd : 12 ≤ d) {ad : Nat → Nat} {S : tc_S} {B : Nat → Prop} (h : tc_at q ad S B L f) (hn : S.n ≤ 40) {i : Nat} (hi : i < S.n) (hm : tc_mm S.mm) (hG : tc_GI S) (hdp : (S.T i).dp ≤ 4) (h0 : S.oA 3 0 = nI 0) (hh : S.hn ≤ 8) {s : Int32} {n : Nat} (ha : tc_acr s n) (b : Int32) (os : ou_ST) (hos : tw_gat S 4 i (0, 0, S.oA) = os) (S2 : tc_S) (h2e : tc_wC (tc_wO S os) s n = S2) : tx_C l (tf_H D q) d i_Tf_draw [.ref (ad 0), .int (nI i), .int s, .int b] L f 1 6 (tc_po q ad B L f (tc_draw S2 b os.2.1).1 (tc_draw S2 b os.2.1).2) (fun _ _ _ => False) := by
  obtain ⟨hx, fx⟩ := tc_c0 h
  obtain ⟨hg, fg⟩ := tc_g0 h hi
  obtain ⟨s1, s2, s3, s4⟩ := tc_acr_ok ha
  obtain ⟨o1, o2, o3, o4, o5, o6⟩ := tc_out_I hG hi hdp h0
  rw [hos] at o1 o2 o3 o4
  obtain ⟨st, t0, t1, t2, t3⟩ := id o1
  refine tx_C.of (by decide) (Nat.le_of_ble_eq_true rfl) ?_
  refine tf_blk _ b_Tf_draw_0 rfl ?_
  refine tf_cV (tf_gok _ _) (c_find_r l D q (d - 1) _ _ (by omega) h hn hi) 5 d_Tf_draw_2 rfl lk_Tf_81 cw_Tf_find (by rfl) in_Tf_find se_Tf_find (by first | assumption | (simp only [List.mem_append, List.mem_singleton]; simp [*])) (by first | assumption | exact va_up_self _ _ _ | (refine tf_u (by first | assumption | (apply Ne.symm; assumption) | (intro hh; subst hh; contradiction) | exact tf_n1 (by assumption) (by assumption) | exact tf_n2 (by assumption) (by assumption)) ?_; first | assumption | exact va_up_self _ _ _ | (refine tf_u (by first | assumption | (apply Ne.symm; assumption) | (intro hh; subst hh; contradiction) | exact tf_n1 (by assumption) (by assumption) | exact tf_n2 (by assumption) (by assumption)) ?_; first | assumption | exact va_up_self _ _ _ | (refine tf_u (by first | assumption | (apply Ne.symm; assumption) | (intro hh; subst hh; contradiction) | exact tf_n1 (by assumption) (by assumption) | exact tf_n2 (by assumption) (by assumption)) ?_; first | assumption | exact va_up_self _ _ _ | (refine tf_u (by first | assumption | (apply Ne.symm; assumption) | (intro hh; subst hh; contradiction) | exact tf_n1 (by assumption) (by assumption) | exact tf_n2 (by assumption) (by assumption)) ?_; first | assumption | exact va_up_self _ _ _ | (refine tf_u (by first | assumption | (apply Ne.symm; assumption) | (intro hh; subst hh; contradiction) | exact tf_n1 (by assumption) (by assumption) | exact tf_n2 (by assumption) (by assumption)) ?_; first | assumption | exact va_up_self _ _ _)))))) (by rfl) (by rfl) (by omega) (by exact Nat.le_of_ble_eq_true rfl) rfl ?_
  rintro v2 L2 f2 ⟨rfl, rfl, rfl⟩
  refine tf_blk _ b_Tf_draw_5 rfl ?_
  refine tf_ifnull_r 12 d_Tf_draw_9 rfl ?_
  refine tf_blk _ b_Tf_draw_12 rfl ?_
  refine tf_cS (tf_gok _ _) (c_Tf_isSide l D q (d - 1) _ _ _) 16 d_Tf_draw_13 rfl lk_Tf_179 cw_Tf_isSide (by rfl) sa_Tf_isSide (by omega) (by exact Nat.le_of_ble_eq_true rfl) rfl ?_
  rintro v13 L13 f13 ⟨rfl, rfl, rfl⟩
  refine tf_if_ne 29 19 d_Tf_draw_16 rfl rfl (fun h16 => ?_) (fun h16 => absurd h16 ((by rw [s4]; decide)))
  refine tf_blk _ b_Tf_draw_29 rfl ?_
  refine tf_get (fs := ?fs_30_3) (v := ?v_30_3) 33 d_Tf_draw_30 rfl fl_Tf_27 ?ha_30_3 ?hf_30_3 ?hv_30_3 ?kk_30_3
  case ha_30_3 => first | assumption | (simp only [List.mem_append, List.mem_singleton]; simp [*])
  case hf_30_3 => first | assumption | exact va_up_self _ _ _ | (refine tf_u (by first | assumption | (apply Ne.symm; assumption) | (intro hh; subst hh; contradiction) | exact tf_n1 (by assumption) (by assumption) | exact tf_n2 (by assumption) (by assumption)) ?_; first | assumption | exact va_up_self _ _ _ | (refine tf_u (by first | assumption | (apply Ne.symm; assumption) | (intro hh; subst hh; contradiction) | exact tf_n1 (by assumption) (by assumption) | exact tf_n2 (by assumption) (by assumption)) ?_; first | assumption | exact va_up_self _ _ _ | (refine tf_u (by first | assumption | (apply Ne.symm; assumption) | (intro hh; subst hh; contradiction) | exact tf_n1 (by assumption) (by assumption) | exact tf_n2 (by assumption) (by assumption)) ?_; first | assumption | exact va_up_self _ _ _ | (refine tf_u (by first | assumption | (apply Ne.symm; assumption) | (intro hh; subst hh; contradiction) | exact tf_n1 (by assumption) (by assumption) | exact tf_n2 (by assumption) (by assumption)) ?_; first | assumption | exact va_up_self _ _ _ | (refine tf_u (by first | assumption | (apply Ne.symm; assumption) | (intro hh; subst hh; contradiction) | exact tf_n1 (by assumption) (by assumption) | exact tf_n2 (by assumption) (by assumption)) ?_; first | assumption | exact va_up_self _ _ _)))))
  case hv_30_3 => rfl
  refine tf_blk _ b_Tf_draw_33 rfl ?_
  refine tf_get (fs := ?fs_36_4) (v := ?v_36_4) 39 d_Tf_draw_36 rfl fl_Tf_14 ?ha_36_4 ?hf_36_4 ?hv_36_4 ?kk_36_4
  case ha_36_4 => first | assumption | (simp only [List.mem_append, List.mem_singleton]; simp [*])
  case hf_36_4 => first | assumption | exact va_up_self _ _ _ | (refine tf_u (by first | assumption | (apply Ne.symm; assumption) | (intro hh; subst hh; contradiction) | exact tf_n1 (by assumption) (by assumption) | exact tf_n2 (by assumption) (by assumption)) ?_; first | assumption | exact va_up_self _ _ _ | (refine tf_u (by first | assumption | (apply Ne.symm; assumption) | (intro hh; subst hh; contradiction) | exact tf_n1 (by assumption) (by assumption) | exact tf_n2 (by assumption) (by assumption)) ?_; first | assumption | exact va_up_self _ _ _ | (refine tf_u (by first | assumption | (apply Ne.symm; assumption) | (intro hh; subst hh; contradiction) | exact tf_n1 (by assumption) (by assumption) | exact tf_n2 (by assumption) (by assumption)) ?_; first | assumption | exact va_up_self _ _ _ | (refine tf_u (by first | assumption | (apply Ne.symm; assumption) | (intro hh; subst hh; contradiction) | exact tf_n1 (by assumption) (by assumption) | exact tf_n2 (by assumption) (by assumption)) ?_; first | assumption | exact va_up_self _ _ _ | (refine tf_u (by first | assumption | (apply Ne.symm; assumption) | (intro hh; subst hh; contradiction) | exact tf_n1 (by assumption) (by assumption) | exact tf_n2 (by assumption) (by assumption)) ?_; first | assumption | exact va_up_self _ _ _)))))
  case hv_36_4 => rfl
  refine tf_cV (tf_gok _ _) (c_Outline_become l D q (d - 1) _ _ (by omega) h hm hG hi hdp h0) 42 d_Tf_draw_39 rfl lk_Tf_168 cw_Outline_become (by rfl) in_Outline_become se_Outline_become (by exact (tc_c3 h).1) (by exact (tc_c3 h).2) (by rfl) (by rfl) (by omega) (by exact Nat.le_of_ble_eq_true rfl) rfl ?_
  rintro v39 L39 f39 ⟨rfl, rfl, hT⟩
  rw [hos] at hT
  have h2 := tc_og h hT
  obtain ⟨hx2, fx2⟩ := tc_c0 h2.1
  refine tf_blk _ b_Tf_draw_42 rfl ?_
  refine tf_get (fs := ?fs_43_6) (v := ?v_43_6) 46 d_Tf_draw_43 rfl fl_Tf_48 ?ha_43_6 ?hf_43_6 ?hv_43_6 ?kk_43_6
  case ha_43_6 => exact hx2
  case hf_43_6 => exact fx2
  case hv_43_6 => rfl
  refine tf_blk _ b_Tf_draw_46 rfl ?_
  refine tf_cV (tf_gok _ _) (c_Canvas_start l D q (d - 1) _ _ (by omega) s s2 s1 s3 (tc_c14 h2.1).1 (tc_c15 h2.1).1 (tc_c14 h2.1).2 (tc_c15 h2.1).2) 50 d_Tf_draw_47 rfl lk_Tf_184 cw_Canvas_start (by rfl) in_Canvas_start se_Canvas_start (by exact (tc_c14 h2.1).1) (by exact (tc_c14 h2.1).2) (by rfl) (by rfl) (by omega) (by exact Nat.le_of_ble_eq_true rfl) rfl ?_
  rintro v47 L47 f47 ⟨rfl, rfl, c1, c2, c3⟩
  refine tf_blk _ b_Tf_draw_50 rfl ?_
  have h3 := tc_cst h2.1 c1 c2 c3
  rw [h2e] at h3
  have hU : ∀ z, z < os.2.1 → st z + 3 ≤ st (z + 1) ∧ st (z + 1) ≤ st z + 40 ∧ st (z + 1) ≤ 160 := fun z hz => by
    have y1 := t3 z (by omega)
    have y2 := o2 z (by omega)
    rw [t2 z (by omega), t2 (z + 1) (by omega)] at y2
    have y4 := og_le t3 (os.2.1 - (z + 1)) (z + 1) (by omega)
    rw [show z + 1 + (os.2.1 - (z + 1)) = os.2.1 by omega, t1, o3] at y4
    rw [nI_clamp (by omega), nI_clamp (by omega)] at y2
    exact ⟨y1, y2, by omega⟩
  have e1 : S2.cs = s := by rw [← h2e]; rfl
  have e2 : S2.ca = n := by rw [← h2e]; rfl
  have e3 : S2.hn = S.hn := by rw [← h2e]; rfl
  have e4 : S2.oc = nI os.2.1 := by rw [← h2e]; rfl
  have e5 : S2.oA = os.2.2 := by rw [← h2e]; rfl
  subst e1
  subst e2
  rw [← tc_dr_eta S2] at h3
  refine t_Tf_draw l D q d _ _ (by omega) (S := S2) (C := os.2.1) b s1 s2 (by rw [e3]; exact hh) e4 (by omega) (st := st) (fun z hz => by rw [e5]; exact t2 z (by omega)) hU os.2.1 0 (S2.pz, S2.px, S2.py) S2.ce _ (by omega) h3.1 (fun z hz => (h3.2 z hz).trans (h2.2 z hz)) (fun f9 h9 hB9 => ?_)
  refine tf_blk _ b_Tf_draw_111 rfl ?_
  refine tf_get (fs := ?fs_112_8) (v := ?v_112_8) 115 d_Tf_draw_112 rfl fl_Tf_48 ?ha_112_8 ?hf_112_8 ?hv_112_8 ?kk_112_8
  case ha_112_8 => exact (tc_c0 h9).1
  case hf_112_8 => exact (tc_c0 h9).2
  case hv_112_8 => rfl
  refine tf_cV (tf_gok _ _) (c_Canvas_turnToGreys l D q (d - 1) _ _ (by omega) s2 (tc_c14 h9).1 (tc_c15 h9).1 (tc_c14 h9).2 (tc_c15 h9).2) 118 d_Tf_draw_115 rfl lk_Tf_202 cw_Canvas_turnToGreys (by rfl) in_Canvas_turnToGreys se_Canvas_turnToGreys (by exact (tc_c14 h9).1) (by exact (tc_c14 h9).2) (by rfl) (by rfl) (by omega) (by exact Nat.le_of_ble_eq_true rfl) rfl ?_
  rintro v115 L115 f115 ⟨rfl, rfl, k1, k2⟩
  refine tx_ret ?_
  refine tf_iret d_Tf_draw_118 rfl ?_
  have h10 := tc_gg h9 k1 k2
  exact ⟨rfl, rfl, h10.1, fun z hz => (h10.2 z hz).trans (hB9 z hz)⟩
end
