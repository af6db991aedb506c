/-! public methods: height, kern, sort -/
section
variable (l : Launch) (D : va_G) (q : Nat → ClassId) (d : Nat) (L : List Nat) (f : tf_F)
end
theorem tw_inR {x : Int32} {a b : Nat} (ha : a < 2 ^ 31) (hb : b < 2 ^ 31) (h : tw_in x (nI a) (nI b) = true) : ∃ n, a ≤ n ∧ n ≤ b ∧ x = nI n := by
  unfold tw_in at h
  simp only [Bool.and_eq_true, decide_eq_true_eq] at h
  have h0 : ¬ x < 0 := fun z => absurd (Int32.lt_of_le_of_lt h.1 z) (nI_pos ha)
  obtain ⟨j, hj, rfl⟩ := nI_of h0
  exact ⟨j, (nI_leI ha hj).mp h.1, (nI_leI hj hb).mp h.2, rfl⟩
theorem tw_kidx {x y : Int32} (h1 : tw_in x (kI 1) (kI 15) = true) (h2 : tw_in y (kI 1) (kI 15) = true) : vp_in (x * kI 16 + y) 256 := by
  obtain ⟨a, a1, a2, rfl⟩ := tw_inR (a := 1) (b := 15) (by decide) (by decide) h1
  obtain ⟨b, b1, b2, rfl⟩ := tw_inR (a := 1) (b := 15) (by decide) (by decide) h2
  have e : nI a * kI 16 + nI b = nI (a * 16 + b) := by
    rw [show kI 16 = nI 16 from rfl, nI_mul, nI_add]
  rw [e]
  exact vp_in_nI (by omega) (by omega)
theorem tw_max {a b : Nat} (ha : a < 2 ^ 31) (hb : b + 1 < 2 ^ 31) : (if nI a < nI b + kI 1 then nI b + kI 1 else nI a) = nI (max a (b + 1)) := by
  rw [show nI b + kI 1 = nI (b + 1) from nI_1 b]
  by_cases h : a < b + 1
  · rw [if_pos ((nI_ltI ha hb).mpr h), Nat.max_eq_right (by omega)]
  · rw [if_neg (fun z => h ((nI_ltI ha hb).mp z)), Nat.max_eq_left (by omega)]
section
variable (l : Launch) (D : va_G) (q : Nat → ClassId) (d : Nat) (L : List Nat) (f : tf_F)
theorem c_Heights_add_t (y : Int32) {a b n : Nat} {g : Nat → Int32} (hn : n ≤ 8) (ha : a ∈ L) (fa : f a = to 4 [.int (nI n), .ref b]) (hb : b ∈ L) (fb : f b = ti q 8 g) (hok : n < 8 ∧ ¬ (tw_hat g y n 0 < n ∧ g (tw_hat g y n 0) = y)) : tf_C l (tf_H D q) d i_Heights_add [.ref a, .int y] L f 0 0 (fun v L2 f2 => v = some (.int (kI 1)) ∧ L2 = L ∧ f2 = va_up (va_up f b (ti q 8 (upd (tw_up1 g (n - tw_hat g y n 0) n) (tw_hat g y n 0) y))) a (to 4 [.int (nI (n + 1)), .ref b])) := by
  refine (c_Heights_add l D q d L f y hn ha fa hb fb).mono (fun v L2 f2 z => ?_)
  rcases z with ⟨z1, ⟨-, -, z2, z3⟩ | ⟨z4, -⟩⟩
  · exact ⟨z2, z1, z3⟩
  · exact absurd hok z4
theorem c_Heights_add_f (y : Int32) {a b n : Nat} {g : Nat → Int32} (hn : n ≤ 8) (ha : a ∈ L) (fa : f a = to 4 [.int (nI n), .ref b]) (hb : b ∈ L) (fb : f b = ti q 8 g) (hok : ¬ (n < 8 ∧ ¬ (tw_hat g y n 0 < n ∧ g (tw_hat g y n 0) = y))) : tf_C l (tf_H D q) d i_Heights_add [.ref a, .int y] L f 0 0 (fun v L2 f2 => v = some (.int (kI 0)) ∧ L2 = L ∧ f2 = f) := by
  refine (c_Heights_add l D q d L f y hn ha fa hb fb).mono (fun v L2 f2 z => ?_)
  rcases z with ⟨z1, ⟨z4, z5, -⟩ | ⟨-, z2, z3⟩⟩
  · exact absurd ⟨z4, z5⟩ hok
  · exact ⟨z2, z1, z3⟩
set_option maxHeartbeats 4000000 in
set_option maxRecDepth 100000 in
theorem c_Tf_height_t (hd : 2 ≤ d) {ad : Nat → Nat} {S : tc_S} {B : Nat → Prop} (h : tc_at q ad S B L f) (y : Int32) (h8 : S.hn ≤ 8) (hok : tc_hok y S) : tf_C l (tf_H D q) d i_Tf_height [.ref (ad 0), .int y] L f 0 0 (tc_po q ad B L f (tc_height y S).1 (tc_height y S).2) := by
  obtain ⟨hx, fx⟩ := tc_c0 h
  obtain ⟨hh, fh⟩ := tc_c12 h
  obtain ⟨hy, fy⟩ := tc_c13 h
  refine tf_C.of (tf_gok _ _) (by decide) w_269 (Nat.le_of_ble_eq_true rfl) ?_
  refine tf_blk _ b_Tf_height_0 rfl ?_
  refine tf_cS (tf_gok _ _) (c_Tf_within l D q (d - 1) _ _ _ _ _) 10 d_Tf_height_7 rfl lk_Tf_111 cw_Tf_within (by rfl) sa_Tf_within (by omega) (by exact Nat.le_of_ble_eq_true rfl) rfl ?_
  rintro v7 L7 f7 ⟨rfl, rfl, rfl⟩
  refine tf_if_eq 28 13 d_Tf_height_10 rfl rfl (fun h10 => ?_) (fun h10 => ?_)
  · refine tf_blk _ b_Tf_height_28 rfl ?_
    refine tf_zret d_Tf_height_29 rfl (rfl) ?_
    rw [show tc_height y S = (kI 0, S) from if_neg (fun z => absurd z.1 (by rw [bI_f h10]; decide))]
    exact ⟨rfl, rfl, h, fun _ _ => rfl⟩
  · refine tf_blk _ b_Tf_height_13 rfl ?_
    refine tf_get (fs := ?fs_14_3) (v := ?v_14_3) 17 d_Tf_height_14 rfl fl_Tf_41 ?ha_14_3 ?hf_14_3 ?hv_14_3 ?kk_14_3
    case ha_14_3 => first | assumption | (simp only [List.mem_append, List.mem_singleton]; simp [*])
    case hf_14_3 => first | assumption | exact va_up_self _ _ _ | (refine tf_u (by first | assumption | (apply Ne.symm; assumption) | (intro hh; subst hh; contradiction) | exact tf_n1 (by assumption) (by assumption) | exact tf_n2 (by assumption) (by assumption)) ?_; first | assumption | exact va_up_self _ _ _ | (refine tf_u (by first | assumption | (apply Ne.symm; assumption) | (intro hh; subst hh; contradiction) | exact tf_n1 (by assumption) (by assumption) | exact tf_n2 (by assumption) (by assumption)) ?_; first | assumption | exact va_up_self _ _ _ | (refine tf_u (by first | assumption | (apply Ne.symm; assumption) | (intro hh; subst hh; contradiction) | exact tf_n1 (by assumption) (by assumption) | exact tf_n2 (by assumption) (by assumption)) ?_; first | assumption | exact va_up_self _ _ _ | (refine tf_u (by first | assumption | (apply Ne.symm; assumption) | (intro hh; subst hh; contradiction) | exact tf_n1 (by assumption) (by assumption) | exact tf_n2 (by assumption) (by assumption)) ?_; first | assumption | exact va_up_self _ _ _ | (refine tf_u (by first | assumption | (apply Ne.symm; assumption) | (intro hh; subst hh; contradiction) | exact tf_n1 (by assumption) (by assumption) | exact tf_n2 (by assumption) (by assumption)) ?_; first | assumption | exact va_up_self _ _ _)))))
    case hv_14_3 => rfl
    refine tf_blk _ b_Tf_height_17 rfl ?_
    refine tf_cV (tf_gok _ _) (c_Heights_add_t l D q (d - 1) _ _ y h8 hh fh hy fy hok) 21 d_Tf_height_18 rfl lk_Tf_176 cw_Heights_add (by rfl) in_Heights_add se_Heights_add (by first | assumption | (simp only [List.mem_append, List.mem_singleton]; simp [*])) (by first | assumption | exact va_up_self _ _ _ | (refine tf_u (by first | assumption | (apply Ne.symm; assumption) | (intro hh; subst hh; contradiction) | exact tf_n1 (by assumption) (by assumption) | exact tf_n2 (by assumption) (by assumption)) ?_; first | assumption | exact va_up_self _ _ _ | (refine tf_u (by first | assumption | (apply Ne.symm; assumption) | (intro hh; subst hh; contradiction) | exact tf_n1 (by assumption) (by assumption) | exact tf_n2 (by assumption) (by assumption)) ?_; first | assumption | exact va_up_self _ _ _ | (refine tf_u (by first | assumption | (apply Ne.symm; assumption) | (intro hh; subst hh; contradiction) | exact tf_n1 (by assumption) (by assumption) | exact tf_n2 (by assumption) (by assumption)) ?_; first | assumption | exact va_up_self _ _ _ | (refine tf_u (by first | assumption | (apply Ne.symm; assumption) | (intro hh; subst hh; contradiction) | exact tf_n1 (by assumption) (by assumption) | exact tf_n2 (by assumption) (by assumption)) ?_; first | assumption | exact va_up_self _ _ _ | (refine tf_u (by first | assumption | (apply Ne.symm; assumption) | (intro hh; subst hh; contradiction) | exact tf_n1 (by assumption) (by assumption) | exact tf_n2 (by assumption) (by assumption)) ?_; first | assumption | exact va_up_self _ _ _)))))) (by rfl) (by rfl) (by omega) (by exact Nat.le_of_ble_eq_true rfl) rfl ?_
    rintro v18 L18 f18 ⟨rfl, rfl, rfl⟩
    refine tf_if_eq 28 24 d_Tf_height_21 rfl rfl (fun h21 => absurd h21 (show ¬ kI 1 = 0 by decide)) (fun h21 => ?_)
    refine tf_blk _ b_Tf_height_24 rfl ?_
    refine tf_goto 29 d_Tf_height_25 rfl ?_
    refine tf_zret d_Tf_height_29 rfl (rfl) ?_
    rw [show tc_height y S = (kI 1, _) from if_pos ⟨bI_t h10, hok⟩]
    exact ⟨rfl, rfl, tc_goF (S2 := (tc_S_mk S.mm S.u S.w S.n S.T S.oc S.op S.oA S.pz S.px S.py (S.hn + 1) (upd (tw_up1 S.hy (S.hn - tw_hat S.hy y S.hn 0) S.hn) (tw_hat S.hy y S.hn 0) y) S.cs S.ca S.ce S.kp S.kl S.kr S.kc S.kL S.kR S.kO S.row S.rs S.ts S.rn S.pu S.tx S.R)) h [(13, ti q 8 (upd (tw_up1 S.hy (S.hn - tw_hat S.hy y S.hn 0) S.hn) (tw_hat S.hy y S.hn 0) y)), (12, to 4 [.int (nI (S.hn + 1)), .ref (ad 13)])] (by simp) rfl rfl rfl rfl rfl rfl⟩
set_option maxHeartbeats 4000000 in
set_option maxRecDepth 100000 in
theorem c_Tf_height_f (hd : 2 ≤ d) {ad : Nat → Nat} {S : tc_S} {B : Nat → Prop} (h : tc_at q ad S B L f) (y : Int32) (h8 : S.hn ≤ 8) (hok : ¬ tc_hok y S) : tf_C l (tf_H D q) d i_Tf_height [.ref (ad 0), .int y] L f 0 0 (tc_po q ad B L f (tc_height y S).1 (tc_height y S).2) := by
  obtain ⟨hx, fx⟩ := tc_c0 h
  obtain ⟨hh, fh⟩ := tc_c12 h
  obtain ⟨hy, fy⟩ := tc_c13 h
  refine tf_C.of (tf_gok _ _) (by decide) w_269 (Nat.le_of_ble_eq_true rfl) ?_
  refine tf_blk _ b_Tf_height_0 rfl ?_
  refine tf_cS (tf_gok _ _) (c_Tf_within l D q (d - 1) _ _ _ _ _) 10 d_Tf_height_7 rfl lk_Tf_111 cw_Tf_within (by rfl) sa_Tf_within (by omega) (by exact Nat.le_of_ble_eq_true rfl) rfl ?_
  rintro v7 L7 f7 ⟨rfl, rfl, rfl⟩
  refine tf_if_eq 28 13 d_Tf_height_10 rfl rfl (fun h10 => ?_) (fun h10 => ?_)
  · refine tf_blk _ b_Tf_height_28 rfl ?_
    refine tf_zret d_Tf_height_29 rfl (rfl) ?_
    rw [show tc_height y S = (kI 0, S) from if_neg (fun z => hok z.2)]
    exact ⟨rfl, rfl, h, fun _ _ => rfl⟩
  · refine tf_blk _ b_Tf_height_13 rfl ?_
    refine tf_get (fs := ?fs_14_8) (v := ?v_14_8) 17 d_Tf_height_14 rfl fl_Tf_41 ?ha_14_8 ?hf_14_8 ?hv_14_8 ?kk_14_8
    case ha_14_8 => first | assumption | (simp only [List.mem_append, List.mem_singleton]; simp [*])
    case hf_14_8 => first | assumption | exact va_up_self _ _ _ | (refine tf_u (by first | assumption | (apply Ne.symm; assumption) | (intro hh; subst hh; contradiction) | exact tf_n1 (by assumption) (by assumption) | exact tf_n2 (by assumption) (by assumption)) ?_; first | assumption | exact va_up_self _ _ _ | (refine tf_u (by first | assumption | (apply Ne.symm; assumption) | (intro hh; subst hh; contradiction) | exact tf_n1 (by assumption) (by assumption) | exact tf_n2 (by assumption) (by assumption)) ?_; first | assumption | exact va_up_self _ _ _ | (refine tf_u (by first | assumption | (apply Ne.symm; assumption) | (intro hh; subst hh; contradiction) | exact tf_n1 (by assumption) (by assumption) | exact tf_n2 (by assumption) (by assumption)) ?_; first | assumption | exact va_up_self _ _ _ | (refine tf_u (by first | assumption | (apply Ne.symm; assumption) | (intro hh; subst hh; contradiction) | exact tf_n1 (by assumption) (by assumption) | exact tf_n2 (by assumption) (by assumption)) ?_; first | assumption | exact va_up_self _ _ _ | (refine tf_u (by first | assumption | (apply Ne.symm; assumption) | (intro hh; subst hh; contradiction) | exact tf_n1 (by assumption) (by assumption) | exact tf_n2 (by assumption) (by assumption)) ?_; first | assumption | exact va_up_self _ _ _)))))
    case hv_14_8 => rfl
    refine tf_blk _ b_Tf_height_17 rfl ?_
    refine tf_cV (tf_gok _ _) (c_Heights_add_f l D q (d - 1) _ _ y h8 hh fh hy fy hok) 21 d_Tf_height_18 rfl lk_Tf_176 cw_Heights_add (by rfl) in_Heights_add se_Heights_add (by first | assumption | (simp only [List.mem_append, List.mem_singleton]; simp [*])) (by first | assumption | exact va_up_self _ _ _ | (refine tf_u (by first | assumption | (apply Ne.symm; assumption) | (intro hh; subst hh; contradiction) | exact tf_n1 (by assumption) (by assumption) | exact tf_n2 (by assumption) (by assumption)) ?_; first | assumption | exact va_up_self _ _ _ | (refine tf_u (by first | assumption | (apply Ne.symm; assumption) | (intro hh; subst hh; contradiction) | exact tf_n1 (by assumption) (by assumption) | exact tf_n2 (by assumption) (by assumption)) ?_; first | assumption | exact va_up_self _ _ _ | (refine tf_u (by first | assumption | (apply Ne.symm; assumption) | (intro hh; subst hh; contradiction) | exact tf_n1 (by assumption) (by assumption) | exact tf_n2 (by assumption) (by assumption)) ?_; first | assumption | exact va_up_self _ _ _ | (refine tf_u (by first | assumption | (apply Ne.symm; assumption) | (intro hh; subst hh; contradiction) | exact tf_n1 (by assumption) (by assumption) | exact tf_n2 (by assumption) (by assumption)) ?_; first | assumption | exact va_up_self _ _ _ | (refine tf_u (by first | assumption | (apply Ne.symm; assumption) | (intro hh; subst hh; contradiction) | exact tf_n1 (by assumption) (by assumption) | exact tf_n2 (by assumption) (by assumption)) ?_; first | assumption | exact va_up_self _ _ _)))))) (by rfl) (by rfl) (by omega) (by exact Nat.le_of_ble_eq_true rfl) rfl ?_
    rintro v18 L18 f18 ⟨rfl, rfl, rfl⟩
    refine tf_if_eq 28 24 d_Tf_height_21 rfl rfl (fun h21 => ?_) (fun h21 => absurd (show kI 0 = 0 by decide) h21)
    refine tf_blk _ b_Tf_height_28 rfl ?_
    refine tf_zret d_Tf_height_29 rfl (rfl) ?_
    rw [show tc_height y S = (kI 0, S) from if_neg (fun z => hok z.2)]
    exact ⟨rfl, rfl, h, fun _ _ => rfl⟩
theorem c_Tf_height (hd : 2 ≤ d) {ad : Nat → Nat} {S : tc_S} {B : Nat → Prop} (h : tc_at q ad S B L f) (y : Int32) (h8 : S.hn ≤ 8) : tf_C l (tf_H D q) d i_Tf_height [.ref (ad 0), .int y] L f 0 0 (tc_po q ad B L f (tc_height y S).1 (tc_height y S).2) := by
  by_cases hok : tc_hok y S
  · exact c_Tf_height_t l D q d L f hd h y h8 hok
  · exact c_Tf_height_f l D q d L f hd h y h8 hok
set_option maxHeartbeats 4000000 in
set_option maxRecDepth 100000 in
theorem c_Tf_kern (hd : 2 ≤ d) {ad : Nat → Nat} {S : tc_S} {B : Nat → Prop} (h : tc_at q ad S B L f) (x y b : Int32) : tf_C l (tf_H D q) d i_Tf_kern [.ref (ad 0), .int x, .int y, .int b] L f 0 0 (tc_po q ad B L f (tc_kern x y b S).1 (tc_kern x y b S).2) := by
  obtain ⟨hx, fx⟩ := tc_c0 h
  obtain ⟨hk, fk⟩ := tc_c16 h
  obtain ⟨hc, fc⟩ := tc_c19 h
  refine tf_C.of (tf_gok _ _) (by decide) w_294 (Nat.le_of_ble_eq_true rfl) ?_
  refine tf_blk _ b_Tf_kern_0 rfl ?_
  refine tf_cS (tf_gok _ _) (c_Tf_within l D q (d - 1) _ _ _ _ _) 7 d_Tf_kern_4 rfl lk_Tf_111 cw_Tf_within (by rfl) sa_Tf_within (by omega) (by exact Nat.le_of_ble_eq_true rfl) rfl ?_
  rintro v4 L4 f4 ⟨rfl, rfl, rfl⟩
  refine tf_if_eq 27 10 d_Tf_kern_7 rfl rfl (fun h7 => ?_) (fun h7 => ?_)
  · refine tf_blk _ b_Tf_kern_27 rfl ?_
    refine tf_zret d_Tf_kern_28 rfl (rfl) ?_
    have e9 : tc_kern x y b S = (kI 0, S) := by
      simp only [bI_eq0, Bool.not_eq_false] at h7
      simp [tc_kern, h7, ]
    rw [e9]
    exact ⟨rfl, rfl, h, fun _ _ => rfl⟩
  · refine tf_blk _ b_Tf_kern_10 rfl ?_
    refine tf_cS (tf_gok _ _) (c_Tf_within l D q (d - 1) _ _ _ _ _) 17 d_Tf_kern_14 rfl lk_Tf_111 cw_Tf_within (by rfl) sa_Tf_within (by omega) (by exact Nat.le_of_ble_eq_true rfl) rfl ?_
    rintro v14 L14 f14 ⟨rfl, rfl, rfl⟩
    refine tf_if_eq 27 20 d_Tf_kern_17 rfl rfl (fun h17 => ?_) (fun h17 => ?_)
    · refine tf_blk _ b_Tf_kern_27 rfl ?_
      refine tf_zret d_Tf_kern_28 rfl (rfl) ?_
      have e9 : tc_kern x y b S = (kI 0, S) := by
        simp only [bI_eq0, Bool.not_eq_false] at h7 h17
        simp [tc_kern, h7, h17, ]
      rw [e9]
      exact ⟨rfl, rfl, h, fun _ _ => rfl⟩
    · refine tf_blk _ b_Tf_kern_20 rfl ?_
      refine tf_cS (tf_gok _ _) (c_Tf_isKerning l D q (d - 1) _ _ (by omega) _) 24 d_Tf_kern_21 rfl lk_Tf_212 cw_Tf_isKerning (by rfl) sa_Tf_isKerning (by omega) (by exact Nat.le_of_ble_eq_true rfl) rfl ?_
      rintro v21 L21 f21 ⟨rfl, rfl, rfl⟩
      refine tf_if_ne 29 27 d_Tf_kern_24 rfl rfl (fun h24 => ?_) (fun h24 => ?_)
      · refine tf_blk _ b_Tf_kern_29 rfl ?_
        refine tf_get (fs := ?fs_30_16) (v := ?v_30_16) 33 d_Tf_kern_30 rfl fl_Tf_55 ?ha_30_16 ?hf_30_16 ?hv_30_16 ?kk_30_16
        case ha_30_16 => first | assumption | (simp only [List.mem_append, List.mem_singleton]; simp [*])
        case hf_30_16 => first | assumption | exact va_up_self _ _ _ | (refine tf_u (by first | assumption | (apply Ne.symm; assumption) | (intro hh; subst hh; contradiction) | exact tf_n1 (by assumption) (by assumption) | exact tf_n2 (by assumption) (by assumption)) ?_; first | assumption | exact va_up_self _ _ _ | (refine tf_u (by first | assumption | (apply Ne.symm; assumption) | (intro hh; subst hh; contradiction) | exact tf_n1 (by assumption) (by assumption) | exact tf_n2 (by assumption) (by assumption)) ?_; first | assumption | exact va_up_self _ _ _ | (refine tf_u (by first | assumption | (apply Ne.symm; assumption) | (intro hh; subst hh; contradiction) | exact tf_n1 (by assumption) (by assumption) | exact tf_n2 (by assumption) (by assumption)) ?_; first | assumption | exact va_up_self _ _ _ | (refine tf_u (by first | assumption | (apply Ne.symm; assumption) | (intro hh; subst hh; contradiction) | exact tf_n1 (by assumption) (by assumption) | exact tf_n2 (by assumption) (by assumption)) ?_; first | assumption | exact va_up_self _ _ _ | (refine tf_u (by first | assumption | (apply Ne.symm; assumption) | (intro hh; subst hh; contradiction) | exact tf_n1 (by assumption) (by assumption) | exact tf_n2 (by assumption) (by assumption)) ?_; first | assumption | exact va_up_self _ _ _)))))
        case hv_30_16 => rfl
        refine tf_blk _ b_Tf_kern_33 rfl ?_
        refine tf_cV (tf_gok _ _) (c_Kerning_tellClasses l D q (d - 1) _ _ hk fk hc fc x y b (tw_kidx (bI_t h7) (bI_t h17))) 39 d_Tf_kern_36 rfl lk_Tf_215 cw_Kerning_tellClasses (by rfl) in_Kerning_tellClasses se_Kerning_tellClasses (by first | assumption | (simp only [List.mem_append, List.mem_singleton]; simp [*])) (by first | assumption | exact va_up_self _ _ _ | (refine tf_u (by first | assumption | (apply Ne.symm; assumption) | (intro hh; subst hh; contradiction) | exact tf_n1 (by assumption) (by assumption) | exact tf_n2 (by assumption) (by assumption)) ?_; first | assumption | exact va_up_self _ _ _ | (refine tf_u (by first | assumption | (apply Ne.symm; assumption) | (intro hh; subst hh; contradiction) | exact tf_n1 (by assumption) (by assumption) | exact tf_n2 (by assumption) (by assumption)) ?_; first | assumption | exact va_up_self _ _ _ | (refine tf_u (by first | assumption | (apply Ne.symm; assumption) | (intro hh; subst hh; contradiction) | exact tf_n1 (by assumption) (by assumption) | exact tf_n2 (by assumption) (by assumption)) ?_; first | assumption | exact va_up_self _ _ _ | (refine tf_u (by first | assumption | (apply Ne.symm; assumption) | (intro hh; subst hh; contradiction) | exact tf_n1 (by assumption) (by assumption) | exact tf_n2 (by assumption) (by assumption)) ?_; first | assumption | exact va_up_self _ _ _ | (refine tf_u (by first | assumption | (apply Ne.symm; assumption) | (intro hh; subst hh; contradiction) | exact tf_n1 (by assumption) (by assumption) | exact tf_n2 (by assumption) (by assumption)) ?_; first | assumption | exact va_up_self _ _ _)))))) (by rfl) (by rfl) (by omega) (by exact Nat.le_of_ble_eq_true rfl) rfl ?_
        rintro v36 L36 f36 ⟨rfl, rfl, rfl⟩
        refine tf_blk _ b_Tf_kern_39 rfl ?_
        refine tf_zret d_Tf_kern_40 rfl (rfl) ?_
        rw [show tc_kern x y b S = (kI 1, _) from if_pos ⟨bI_t h7, bI_t h17, bI_t h24⟩]
        exact ⟨rfl, rfl, tc_goF (S2 := (tc_S_mk S.mm S.u S.w S.n S.T S.oc S.op S.oA S.pz S.px S.py S.hn S.hy S.cs S.ca S.ce S.kp S.kl S.kr (upd S.kc (x * kI 16 + y).toNatClampNeg b) S.kL S.kR S.kO S.row S.rs S.ts S.rn S.pu S.tx S.R)) h [(19, ti q 256 (upd S.kc (x * kI 16 + y).toNatClampNeg b))] (by simp) rfl rfl rfl rfl rfl rfl⟩
      · refine tf_blk _ b_Tf_kern_27 rfl ?_
        refine tf_zret d_Tf_kern_28 rfl (rfl) ?_
        have e9 : tc_kern x y b S = (kI 0, S) := by
          simp only [bI_eq0, Bool.not_eq_false] at h7 h17 h24
          simp [tc_kern, h7, h17, h24, ]
        rw [e9]
        exact ⟨rfl, rfl, h, fun _ _ => rfl⟩
set_option maxHeartbeats 4000000 in
set_option maxRecDepth 100000 in
theorem c_Tf_sort_n (hd : 2 ≤ d) {ad : Nat → Nat} {S : tc_S} {B : Nat → Prop} (h : tc_at q ad S B L f) (hn : S.n ≤ 40) {k : Int32} (hk : ∀ i, i < S.n → k ≠ nI i) (s t : Int32) : tf_C l (tf_H D q) d i_Tf_sort [.ref (ad 0), .int s, .int k, .int t] L f 0 0 (tf_rd (.int (kI 0)) L f) := by
  obtain ⟨hx, fx⟩ := tc_c0 h
  
  refine tf_C.of (tf_gok _ _) (by decide) w_286 (Nat.le_of_ble_eq_true rfl) ?_
  refine tf_blk _ b_Tf_sort_0 rfl ?_
  refine tf_cS (tf_gok _ _) (c_Tf_within l D q (d - 1) _ _ _ _ _) 6 d_Tf_sort_3 rfl lk_Tf_111 cw_Tf_within (by rfl) sa_Tf_within (by omega) (by exact Nat.le_of_ble_eq_true rfl) rfl ?_
  rintro v3 L3 f3 ⟨rfl, rfl, rfl⟩
  refine tf_if_eq 27 9 d_Tf_sort_6 rfl rfl (fun h6 => ?_) (fun h6 => ?_)
  · refine tf_blk _ b_Tf_sort_27 rfl ?_
    refine tf_zret d_Tf_sort_28 rfl (rfl) ?_
    exact ⟨rfl, rfl, rfl⟩
  · refine tf_blk _ b_Tf_sort_9 rfl ?_
    refine tf_cV (tf_gok _ _) (c_find_n l D q (d - 1) _ _ (by omega) h hn hk) 14 d_Tf_sort_11 rfl lk_Tf_81 cw_Tf_find (by rfl) in_Tf_find se_Tf_find (by first | assumption | (simp only [List.mem_append, List.mem_singleton]; simp [*])) (by first | assumption | exact va_up_self _ _ _ | (refine tf_u (by first | assumption | (apply Ne.symm; assumption) | (intro hh; subst hh; contradiction) | exact tf_n1 (by assumption) (by assumption) | exact tf_n2 (by assumption) (by assumption)) ?_; first | assumption | exact va_up_self _ _ _ | (refine tf_u (by first | assumption | (apply Ne.symm; assumption) | (intro hh; subst hh; contradiction) | exact tf_n1 (by assumption) (by assumption) | exact tf_n2 (by assumption) (by assumption)) ?_; first | assumption | exact va_up_self _ _ _ | (refine tf_u (by first | assumption | (apply Ne.symm; assumption) | (intro hh; subst hh; contradiction) | exact tf_n1 (by assumption) (by assumption) | exact tf_n2 (by assumption) (by assumption)) ?_; first | assumption | exact va_up_self _ _ _ | (refine tf_u (by first | assumption | (apply Ne.symm; assumption) | (intro hh; subst hh; contradiction) | exact tf_n1 (by assumption) (by assumption) | exact tf_n2 (by assumption) (by assumption)) ?_; first | assumption | exact va_up_self _ _ _ | (refine tf_u (by first | assumption | (apply Ne.symm; assumption) | (intro hh; subst hh; contradiction) | exact tf_n1 (by assumption) (by assumption) | exact tf_n2 (by assumption) (by assumption)) ?_; first | assumption | exact va_up_self _ _ _)))))) (by rfl) (by rfl) (by omega) (by exact Nat.le_of_ble_eq_true rfl) rfl ?_
    rintro v11 L11 f11 ⟨rfl, rfl, rfl⟩
    refine tf_ifnull_n 27 d_Tf_sort_14 rfl ?_
    refine tf_blk _ b_Tf_sort_27 rfl ?_
    refine tf_zret d_Tf_sort_28 rfl (rfl) ?_
    exact ⟨rfl, rfl, rfl⟩
set_option maxHeartbeats 4000000 in
set_option maxRecDepth 100000 in
theorem c_Tf_sort (hd : 2 ≤ d) {ad : Nat → Nat} {S : tc_S} {B : Nat → Prop} (h : tc_at q ad S B L f) (hn : S.n ≤ 40) {i : Nat} (hi : i < S.n) (s t : Int32) : tf_C l (tf_H D q) d i_Tf_sort [.ref (ad 0), .int s, .int (nI i), .int t] L f 0 0 (tc_po q ad B L f (tc_sort s t i S).1 (tc_sort s t i S).2) := by
  obtain ⟨hx, fx⟩ := tc_c0 h
  obtain ⟨hk, fk⟩ := tc_c16 h
  obtain ⟨hl0, fl0⟩ := tc_c17 h
  obtain ⟨hr0, fr0⟩ := tc_c18 h
  refine tf_C.of (tf_gok _ _) (by decide) w_286 (Nat.le_of_ble_eq_true rfl) ?_
  refine tf_blk _ b_Tf_sort_0 rfl ?_
  refine tf_cS (tf_gok _ _) (c_Tf_within l D q (d - 1) _ _ _ _ _) 6 d_Tf_sort_3 rfl lk_Tf_111 cw_Tf_within (by rfl) sa_Tf_within (by omega) (by exact Nat.le_of_ble_eq_true rfl) rfl ?_
  rintro v3 L3 f3 ⟨rfl, rfl, rfl⟩
  refine tf_if_eq 27 9 d_Tf_sort_6 rfl rfl (fun h6 => ?_) (fun h6 => ?_)
  · refine tf_blk _ b_Tf_sort_27 rfl ?_
    refine tf_zret d_Tf_sort_28 rfl (rfl) ?_
    have e9 : tc_sort s t i S = (kI 0, S) := by
      simp only [bI_eq0, Bool.not_eq_false] at h6
      simp [tc_sort, h6, ]
    rw [e9]
    exact ⟨rfl, rfl, h, fun _ _ => rfl⟩
  · refine tf_blk _ b_Tf_sort_9 rfl ?_
    refine tf_cV (tf_gok _ _) (c_find_r l D q (d - 1) _ _ (by omega) h hn hi) 14 d_Tf_sort_11 rfl lk_Tf_81 cw_Tf_find (by rfl) in_Tf_find se_Tf_find (by first | assumption | (simp only [List.mem_append, List.mem_singleton]; simp [*])) (by first | assumption | exact va_up_self _ _ _ | (refine tf_u (by first | assumption | (apply Ne.symm; assumption) | (intro hh; subst hh; contradiction) | exact tf_n1 (by assumption) (by assumption) | exact tf_n2 (by assumption) (by assumption)) ?_; first | assumption | exact va_up_self _ _ _ | (refine tf_u (by first | assumption | (apply Ne.symm; assumption) | (intro hh; subst hh; contradiction) | exact tf_n1 (by assumption) (by assumption) | exact tf_n2 (by assumption) (by assumption)) ?_; first | assumption | exact va_up_self _ _ _ | (refine tf_u (by first | assumption | (apply Ne.symm; assumption) | (intro hh; subst hh; contradiction) | exact tf_n1 (by assumption) (by assumption) | exact tf_n2 (by assumption) (by assumption)) ?_; first | assumption | exact va_up_self _ _ _ | (refine tf_u (by first | assumption | (apply Ne.symm; assumption) | (intro hh; subst hh; contradiction) | exact tf_n1 (by assumption) (by assumption) | exact tf_n2 (by assumption) (by assumption)) ?_; first | assumption | exact va_up_self _ _ _ | (refine tf_u (by first | assumption | (apply Ne.symm; assumption) | (intro hh; subst hh; contradiction) | exact tf_n1 (by assumption) (by assumption) | exact tf_n2 (by assumption) (by assumption)) ?_; first | assumption | exact va_up_self _ _ _)))))) (by rfl) (by rfl) (by omega) (by exact Nat.le_of_ble_eq_true rfl) rfl ?_
    rintro v11 L11 f11 ⟨rfl, rfl, rfl⟩
    refine tf_ifnull_r 17 d_Tf_sort_14 rfl ?_
    refine tf_blk _ b_Tf_sort_17 rfl ?_
    refine tf_cS (tf_gok _ _) (c_Tf_within l D q (d - 1) _ _ _ _ _) 24 d_Tf_sort_21 rfl lk_Tf_111 cw_Tf_within (by rfl) sa_Tf_within (by omega) (by exact Nat.le_of_ble_eq_true rfl) rfl ?_
    rintro v21 L21 f21 ⟨rfl, rfl, rfl⟩
    refine tf_if_ne 29 27 d_Tf_sort_24 rfl rfl (fun h24 => ?_) (fun h24 => ?_)
    · refine tf_blk _ b_Tf_sort_29 rfl ?_
      refine tf_get (fs := ?fs_30_28) (v := ?v_30_28) 33 d_Tf_sort_30 rfl fl_Tf_55 ?ha_30_28 ?hf_30_28 ?hv_30_28 ?kk_30_28
      case ha_30_28 => first | assumption | (simp only [List.mem_append, List.mem_singleton]; simp [*])
      case hf_30_28 => first | assumption | exact va_up_self _ _ _ | (refine tf_u (by first | assumption | (apply Ne.symm; assumption) | (intro hh; subst hh; contradiction) | exact tf_n1 (by assumption) (by assumption) | exact tf_n2 (by assumption) (by assumption)) ?_; first | assumption | exact va_up_self _ _ _ | (refine tf_u (by first | assumption | (apply Ne.symm; assumption) | (intro hh; subst hh; contradiction) | exact tf_n1 (by assumption) (by assumption) | exact tf_n2 (by assumption) (by assumption)) ?_; first | assumption | exact va_up_self _ _ _ | (refine tf_u (by first | assumption | (apply Ne.symm; assumption) | (intro hh; subst hh; contradiction) | exact tf_n1 (by assumption) (by assumption) | exact tf_n2 (by assumption) (by assumption)) ?_; first | assumption | exact va_up_self _ _ _ | (refine tf_u (by first | assumption | (apply Ne.symm; assumption) | (intro hh; subst hh; contradiction) | exact tf_n1 (by assumption) (by assumption) | exact tf_n2 (by assumption) (by assumption)) ?_; first | assumption | exact va_up_self _ _ _ | (refine tf_u (by first | assumption | (apply Ne.symm; assumption) | (intro hh; subst hh; contradiction) | exact tf_n1 (by assumption) (by assumption) | exact tf_n2 (by assumption) (by assumption)) ?_; first | assumption | exact va_up_self _ _ _)))))
      case hv_30_28 => rfl
      refine tf_blk _ b_Tf_sort_33 rfl ?_
      refine tf_cV (tf_gok _ _) (c_Kerning_setClass l D q (d - 1) _ _ hk fk hl0 fl0 hr0 fr0 s (nI i) t (vp_in_nI (by omega) (by omega))) 39 d_Tf_sort_36 rfl lk_Tf_208 cw_Kerning_setClass (by rfl) in_Kerning_setClass se_Kerning_setClass (by first | assumption | (simp only [List.mem_append, List.mem_singleton]; simp [*])) (by first | assumption | exact va_up_self _ _ _ | (refine tf_u (by first | assumption | (apply Ne.symm; assumption) | (intro hh; subst hh; contradiction) | exact tf_n1 (by assumption) (by assumption) | exact tf_n2 (by assumption) (by assumption)) ?_; first | assumption | exact va_up_self _ _ _ | (refine tf_u (by first | assumption | (apply Ne.symm; assumption) | (intro hh; subst hh; contradiction) | exact tf_n1 (by assumption) (by assumption) | exact tf_n2 (by assumption) (by assumption)) ?_; first | assumption | exact va_up_self _ _ _ | (refine tf_u (by first | assumption | (apply Ne.symm; assumption) | (intro hh; subst hh; contradiction) | exact tf_n1 (by assumption) (by assumption) | exact tf_n2 (by assumption) (by assumption)) ?_; first | assumption | exact va_up_self _ _ _ | (refine tf_u (by first | assumption | (apply Ne.symm; assumption) | (intro hh; subst hh; contradiction) | exact tf_n1 (by assumption) (by assumption) | exact tf_n2 (by assumption) (by assumption)) ?_; first | assumption | exact va_up_self _ _ _ | (refine tf_u (by first | assumption | (apply Ne.symm; assumption) | (intro hh; subst hh; contradiction) | exact tf_n1 (by assumption) (by assumption) | exact tf_n2 (by assumption) (by assumption)) ?_; first | assumption | exact va_up_self _ _ _)))))) (by rfl) (by rfl) (by omega) (by exact Nat.le_of_ble_eq_true rfl) rfl ?_
      rintro v36 L36 f36 ⟨rfl, rfl, rfl⟩
      refine tf_blk _ b_Tf_sort_39 rfl ?_
      refine tf_zret d_Tf_sort_40 rfl (rfl) ?_
      rw [show tc_sort s t i S = (kI 1, _) from if_pos ⟨bI_t h6, bI_t h24⟩]
      rw [nI_clamp (show i < 2 ^ 31 by omega)]
      by_cases s0 : s = 0
      · rw [if_pos s0, if_pos s0]
        exact ⟨rfl, rfl, tc_goF (S2 := (tc_S_mk S.mm S.u S.w S.n S.T S.oc S.op S.oA S.pz S.px S.py S.hn S.hy S.cs S.ca S.ce S.kp (upd S.kl i t) S.kr S.kc S.kL S.kR S.kO S.row S.rs S.ts S.rn S.pu S.tx S.R)) h [(17, ti q 40 (upd S.kl i t))] (by simp) rfl rfl rfl rfl rfl rfl⟩
      · rw [if_neg s0, if_neg s0]
        exact ⟨rfl, rfl, tc_goF (S2 := (tc_S_mk S.mm S.u S.w S.n S.T S.oc S.op S.oA S.pz S.px S.py S.hn S.hy S.cs S.ca S.ce S.kp S.kl (upd S.kr i t) S.kc S.kL S.kR S.kO S.row S.rs S.ts S.rn S.pu S.tx S.R)) h [(18, ti q 40 (upd S.kr i t))] (by simp) rfl rfl rfl rfl rfl rfl⟩
    · refine tf_blk _ b_Tf_sort_27 rfl ?_
      refine tf_zret d_Tf_sort_28 rfl (rfl) ?_
      have e9 : tc_sort s t i S = (kI 0, S) := by
        simp only [bI_eq0, Bool.not_eq_false] at h6 h24
        simp [tc_sort, h6, h24, ]
      rw [e9]
      exact ⟨rfl, rfl, h, fun _ _ => rfl⟩
end
