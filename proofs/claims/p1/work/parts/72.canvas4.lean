/-! Canvas.addPart: the cuts -/
theorem w_1026 : Cond.methodLink "TypeFoundry$Canvas" 79 (⟨"java/lang/Math", "abs", "(I)I"⟩ : MethodName) ∈ tf_Ts := tf_mem 1026 (by decide +kernel) rfl
section
variable (l : Launch) (D : va_G) (q : Nat → ClassId) (d : Nat) (L : List Nat) (f : tf_F)
end
def tw_abs (x : Int32) : Int32 := if 0 ≤ x then x else 0 - x
/-- what addRise reads and writes lies in the cells -/
theorem tw_riseIn {r n : Nat} (hr : r < n) (hn : n ≤ 64) (x s : Int32) : (¬ fdI x s < nI n → vp_in (nI r * nI n + nI n - kI 1) 4096) ∧ (fdI x s < nI n → ¬ fdI x s < 0 → vp_in (nI r * nI n + fdI x s) 4096) ∧ (fdI x s < nI n → ¬ fdI x s < 0 → ¬ fdI x s ≤ 0 → vp_in (nI r * nI n + fdI x s - kI 1) 4096) := by
  have hrn : r * n + n ≤ 4096 := by
    have h1 : (r + 1) * n ≤ n * n := Nat.mul_le_mul_right n hr
    have h2 : n * n ≤ 64 * 64 := Nat.mul_le_mul hn hn
    rw [Nat.succ_mul] at h1
    omega
  refine ⟨fun _ => ?_, fun h1 h2 => ?_, fun h1 h2 h3 => ?_⟩
  · rw [nI_mul, nI_add, nI_sub1 (by omega)]
    exact vp_in_nI (by omega) (by omega)
  · obtain ⟨j, hj, e⟩ := nI_of h2
    rw [e] at h1 ⊢
    have := (nI_ltI hj (by omega)).mp h1
    rw [nI_mul, nI_add]
    exact vp_in_nI (by omega) (by omega)
  · obtain ⟨j, hj, e⟩ := nI_of h2
    rw [e] at h1 h3 ⊢
    have := (nI_ltI hj (by omega)).mp h1
    have h0 : 0 < j := by
      rcases Nat.eq_zero_or_pos j with h | h
      · rw [h] at h3
        exact absurd (show nI 0 ≤ 0 by decide) h3
      · exact h
    rw [nI_mul, nI_add, nI_sub1 (by omega)]
    exact vp_in_nI (by omega) (by omega)
/-- a piece of a line within one row, cut at the columns from k on, m of them at most: where it came to, the cells -/
def tw_cut (s : Int32) (n r : Nat) (way lx ly rx ry : Int32) : Nat → Nat → Int32 → Int32 → (Nat → Int32) → Int32 × Int32 × (Nat → Int32)
  | 0, _, x, y, g => (x, y, g)
  | m + 1, k, x, y, g => if rx ≤ nI k * s then (x, y, g) else tw_cut s n r way lx ly rx ry m (k + 1) (nI k * s) (tw_cross lx ly rx ry (nI k * s)) (tw_rise g s (nI n) (nI r) x (nI k * s) (way * tw_abs (tw_cross lx ly rx ry (nI k * s) - y)))
def tw_part2 (s : Int32) (n r : Nat) (way lx ly rx ry : Int32) (k : Nat) (g : Nat → Int32) : Nat → Int32 :=
  tw_rise (tw_cut s n r way lx ly rx ry (n + 1 - k) k lx ly g).2.2 s (nI n) (nI r) (tw_cut s n r way lx ly rx ry (n + 1 - k) k lx ly g).1 rx (way * tw_abs (ry - (tw_cut s n r way lx ly rx ry (n + 1 - k) k lx ly g).2.1))
section
variable (l : Launch) (D : va_G) (q : Nat → ClassId) (d : Nat) (L : List Nat) (f : tf_F)
set_option maxHeartbeats 4000000 in
set_option maxRecDepth 100000 in
theorem t_Canvas_cut (hd : 3 ≤ d) {QB : tf_B} {kc ks : Nat} {a ce n : Nat} {s : Int32} (hn : n ≤ 64) (hs : ¬ s = 0) (ha : a ∈ L) (hce : ce ∈ L) {r : Nat} (hr : r < n) (p1 p2 p3 p4 p7 way lx ly rx ry : Int32) : ∀ m k (x y : Int32) (g : Nat → Int32) (fc : tf_F), m = n + 1 - k → k < 2 ^ 31 → fc a = to 2 [.ref ce, .int s, .int (nI n)] → fc ce = ti q 4096 g → (∀ z, z ≠ ce → fc z = f z) → (∀ (f2 : tf_F) (k2 : Int32), f2 ce = ti q 4096 (tw_cut s n r way lx ly rx ry m k x y g).2.2 → (∀ z, z ≠ ce → f2 z = f z) → tf_W l (tf_H D q) tf_T QB d i_Canvas_addPart 188 [(0, .ref a), (1, .int p1), (2, .int p2), (3, .int p3), (4, .int p4), (5, .int way), (6, .int (nI r)), (7, .int p7), (8, .int lx), (9, .int ly), (10, .int rx), (11, .int ry), (12, .int (tw_cut s n r way lx ly rx ry m k x y g).1), (13, .int (tw_cut s n r way lx ly rx ry m k x y g).2.1), (14, .int k2)] [] L f2 kc ks) → tf_W l (tf_H D q) tf_T QB d i_Canvas_addPart 108 [(0, .ref a), (1, .int p1), (2, .int p2), (3, .int p3), (4, .int p4), (5, .int way), (6, .int (nI r)), (7, .int p7), (8, .int lx), (9, .int ly), (10, .int rx), (11, .int ry), (12, .int x), (13, .int y), (14, .int (nI k))] [] L fc kc ks := by
  intro m
  induction m with
  | zero =>
    intro k x y g fc hm hk fa fg hf hK
    refine tf_blk _ b_Canvas_addPart_108 rfl ?_
    refine tf_get (fs := ?fs_111_1) (v := ?v_111_1) 114 d_Canvas_addPart_111 rfl fl_Canvas_19 ?ha_111_1 ?hf_111_1 ?hv_111_1 ?kk_111_1
    case ha_111_1 => first | assumption | (simp only [List.mem_append, List.mem_singleton]; simp [*])
    case hf_111_1 => first | assumption | exact va_up_self _ _ _ | (refine tf_u (by first | assumption | (apply Ne.symm; assumption) | (intro hh; subst hh; contradiction) | exact tf_n1 (by assumption) (by assumption) | exact tf_n2 (by assumption) (by assumption)) ?_; first | assumption | exact va_up_self _ _ _ | (refine tf_u (by first | assumption | (apply Ne.symm; assumption) | (intro hh; subst hh; contradiction) | exact tf_n1 (by assumption) (by assumption) | exact tf_n2 (by assumption) (by assumption)) ?_; first | assumption | exact va_up_self _ _ _ | (refine tf_u (by first | assumption | (apply Ne.symm; assumption) | (intro hh; subst hh; contradiction) | exact tf_n1 (by assumption) (by assumption) | exact tf_n2 (by assumption) (by assumption)) ?_; first | assumption | exact va_up_self _ _ _ | (refine tf_u (by first | assumption | (apply Ne.symm; assumption) | (intro hh; subst hh; contradiction) | exact tf_n1 (by assumption) (by assumption) | exact tf_n2 (by assumption) (by assumption)) ?_; first | assumption | exact va_up_self _ _ _ | (refine tf_u (by first | assumption | (apply Ne.symm; assumption) | (intro hh; subst hh; contradiction) | exact tf_n1 (by assumption) (by assumption) | exact tf_n2 (by assumption) (by assumption)) ?_; first | assumption | exact va_up_self _ _ _)))))
    case hv_111_1 => rfl
    refine tf_ic_gt 188 117 d_Canvas_addPart_114 rfl rfl (fun h114 => ?_) (fun h114 => absurd (nI_lt (by omega) (by omega)) h114)
    exact hK _ _ fg hf
  | succ m ih =>
    intro k x y g fc hm hk fa fg hf hK
    refine tf_blk _ b_Canvas_addPart_108 rfl ?_
    refine tf_get (fs := ?fs_111_2) (v := ?v_111_2) 114 d_Canvas_addPart_111 rfl fl_Canvas_19 ?ha_111_2 ?hf_111_2 ?hv_111_2 ?kk_111_2
    case ha_111_2 => first | assumption | (simp only [List.mem_append, List.mem_singleton]; simp [*])
    case hf_111_2 => first | assumption | exact va_up_self _ _ _ | (refine tf_u (by first | assumption | (apply Ne.symm; assumption) | (intro hh; subst hh; contradiction) | exact tf_n1 (by assumption) (by assumption) | exact tf_n2 (by assumption) (by assumption)) ?_; first | assumption | exact va_up_self _ _ _ | (refine tf_u (by first | assumption | (apply Ne.symm; assumption) | (intro hh; subst hh; contradiction) | exact tf_n1 (by assumption) (by assumption) | exact tf_n2 (by assumption) (by assumption)) ?_; first | assumption | exact va_up_self _ _ _ | (refine tf_u (by first | assumption | (apply Ne.symm; assumption) | (intro hh; subst hh; contradiction) | exact tf_n1 (by assumption) (by assumption) | exact tf_n2 (by assumption) (by assumption)) ?_; first | assumption | exact va_up_self _ _ _ | (refine tf_u (by first | assumption | (apply Ne.symm; assumption) | (intro hh; subst hh; contradiction) | exact tf_n1 (by assumption) (by assumption) | exact tf_n2 (by assumption) (by assumption)) ?_; first | assumption | exact va_up_self _ _ _ | (refine tf_u (by first | assumption | (apply Ne.symm; assumption) | (intro hh; subst hh; contradiction) | exact tf_n1 (by assumption) (by assumption) | exact tf_n2 (by assumption) (by assumption)) ?_; first | assumption | exact va_up_self _ _ _)))))
    case hv_111_2 => rfl
    refine tf_ic_gt 188 117 d_Canvas_addPart_114 rfl rfl (fun h114 => absurd h114 (nI_nlt (by omega) (by omega))) (fun h114 => ?_)
    refine tf_blk _ b_Canvas_addPart_117 rfl ?_
    refine tf_get (fs := ?fs_120_3) (v := ?v_120_3) 123 d_Canvas_addPart_120 rfl fl_Canvas_15 ?ha_120_3 ?hf_120_3 ?hv_120_3 ?kk_120_3
    case ha_120_3 => first | assumption | (simp only [List.mem_append, List.mem_singleton]; simp [*])
    case hf_120_3 => first | assumption | exact va_up_self _ _ _ | (refine tf_u (by first | assumption | (apply Ne.symm; assumption) | (intro hh; subst hh; contradiction) | exact tf_n1 (by assumption) (by assumption) | exact tf_n2 (by assumption) (by assumption)) ?_; first | assumption | exact va_up_self _ _ _ | (refine tf_u (by first | assumption | (apply Ne.symm; assumption) | (intro hh; subst hh; contradiction) | exact tf_n1 (by assumption) (by assumption) | exact tf_n2 (by assumption) (by assumption)) ?_; first | assumption | exact va_up_self _ _ _ | (refine tf_u (by first | assumption | (apply Ne.symm; assumption) | (intro hh; subst hh; contradiction) | exact tf_n1 (by assumption) (by assumption) | exact tf_n2 (by assumption) (by assumption)) ?_; first | assumption | exact va_up_self _ _ _ | (refine tf_u (by first | assumption | (apply Ne.symm; assumption) | (intro hh; subst hh; contradiction) | exact tf_n1 (by assumption) (by assumption) | exact tf_n2 (by assumption) (by assumption)) ?_; first | assumption | exact va_up_self _ _ _ | (refine tf_u (by first | assumption | (apply Ne.symm; assumption) | (intro hh; subst hh; contradiction) | exact tf_n1 (by assumption) (by assumption) | exact tf_n2 (by assumption) (by assumption)) ?_; first | assumption | exact va_up_self _ _ _)))))
    case hv_120_3 => rfl
    refine tf_blk _ b_Canvas_addPart_123 rfl ?_
    refine tf_ic_ge 188 129 d_Canvas_addPart_126 rfl rfl (fun h126 => ?_) (fun h126 => ?_)
    · rw [show tw_cut s n r way lx ly rx ry (m + 1) k x y g = (x, y, g) from if_pos h126] at hK
      exact hK _ _ fg hf
    · refine tf_blk _ b_Canvas_addPart_129 rfl ?_
      refine tf_get (fs := ?fs_132_4) (v := ?v_132_4) 135 d_Canvas_addPart_132 rfl fl_Canvas_15 ?ha_132_4 ?hf_132_4 ?hv_132_4 ?kk_132_4
      case ha_132_4 => first | assumption | (simp only [List.mem_append, List.mem_singleton]; simp [*])
      case hf_132_4 => first | assumption | exact va_up_self _ _ _ | (refine tf_u (by first | assumption | (apply Ne.symm; assumption) | (intro hh; subst hh; contradiction) | exact tf_n1 (by assumption) (by assumption) | exact tf_n2 (by assumption) (by assumption)) ?_; first | assumption | exact va_up_self _ _ _ | (refine tf_u (by first | assumption | (apply Ne.symm; assumption) | (intro hh; subst hh; contradiction) | exact tf_n1 (by assumption) (by assumption) | exact tf_n2 (by assumption) (by assumption)) ?_; first | assumption | exact va_up_self _ _ _ | (refine tf_u (by first | assumption | (apply Ne.symm; assumption) | (intro hh; subst hh; contradiction) | exact tf_n1 (by assumption) (by assumption) | exact tf_n2 (by assumption) (by assumption)) ?_; first | assumption | exact va_up_self _ _ _ | (refine tf_u (by first | assumption | (apply Ne.symm; assumption) | (intro hh; subst hh; contradiction) | exact tf_n1 (by assumption) (by assumption) | exact tf_n2 (by assumption) (by assumption)) ?_; first | assumption | exact va_up_self _ _ _ | (refine tf_u (by first | assumption | (apply Ne.symm; assumption) | (intro hh; subst hh; contradiction) | exact tf_n1 (by assumption) (by assumption) | exact tf_n2 (by assumption) (by assumption)) ?_; first | assumption | exact va_up_self _ _ _)))))
      case hv_132_4 => rfl
      refine tf_blk _ b_Canvas_addPart_135 rfl ?_
      refine tf_cS (tf_gok _ _) (c_Canvas_crossing l D q (d - 1) _ _ (by omega) _ _ _ _ _) 151 d_Canvas_addPart_148 rfl lk_Canvas_69 cw_Canvas_crossing (by rfl) sa_Canvas_crossing (by omega) (by exact Nat.le_of_ble_eq_true rfl) rfl ?_
      rintro v148 L148 f148 ⟨rfl, rfl, rfl⟩
      refine tf_blk _ b_Canvas_addPart_151 rfl ?_
      refine tf_abs 170 d_Canvas_addPart_167 rfl w_1026 ws_abs wm_Math wc_abs (by omega) (by exact Nat.le_of_ble_eq_true rfl) ?_
      refine tf_blk _ b_Canvas_addPart_170 rfl ?_
      refine tf_cV (tf_gok _ _) (c_Canvas_addRise l D q (d - 1) _ _ (by omega) ha fa (nI r) _ _ _ hce fg hs (tw_riseIn hr hn _ s).1 (tw_riseIn hr hn _ s).2.1 (tw_riseIn hr hn _ s).2.2) 174 d_Canvas_addPart_171 rfl lk_Canvas_82 cw_Canvas_addRise (by rfl) in_Canvas_addRise se_Canvas_addRise (by first | assumption | (simp only [List.mem_append, List.mem_singleton]; simp [*])) (by first | assumption | exact va_up_self _ _ _ | (refine tf_u (by first | assumption | (apply Ne.symm; assumption) | (intro hh; subst hh; contradiction) | exact tf_n1 (by assumption) (by assumption) | exact tf_n2 (by assumption) (by assumption)) ?_; first | assumption | exact va_up_self _ _ _ | (refine tf_u (by first | assumption | (apply Ne.symm; assumption) | (intro hh; subst hh; contradiction) | exact tf_n1 (by assumption) (by assumption) | exact tf_n2 (by assumption) (by assumption)) ?_; first | assumption | exact va_up_self _ _ _ | (refine tf_u (by first | assumption | (apply Ne.symm; assumption) | (intro hh; subst hh; contradiction) | exact tf_n1 (by assumption) (by assumption) | exact tf_n2 (by assumption) (by assumption)) ?_; first | assumption | exact va_up_self _ _ _ | (refine tf_u (by first | assumption | (apply Ne.symm; assumption) | (intro hh; subst hh; contradiction) | exact tf_n1 (by assumption) (by assumption) | exact tf_n2 (by assumption) (by assumption)) ?_; first | assumption | exact va_up_self _ _ _ | (refine tf_u (by first | assumption | (apply Ne.symm; assumption) | (intro hh; subst hh; contradiction) | exact tf_n1 (by assumption) (by assumption) | exact tf_n2 (by assumption) (by assumption)) ?_; first | assumption | exact va_up_self _ _ _)))))) (by rfl) (by rfl) (by omega) (by exact Nat.le_of_ble_eq_true rfl) rfl ?_
      rintro v171 L171 f171 ⟨rfl, rfl, k1, k2⟩
      refine tf_blk _ b_Canvas_addPart_174 rfl ?_
      refine tf_goto 108 d_Canvas_addPart_185 rfl ?_
      refine tf_drop [0, 1, 2, 3, 4, 5, 6, 7, 8, 9, 10, 11, 12, 13, 14] rfl ?_
      rw [show tw_cut s n r way lx ly rx ry (m + 1) k x y g = tw_cut s n r way lx ly rx ry m (k + 1) (nI k * s) (tw_cross lx ly rx ry (nI k * s)) (tw_rise g s (nI n) (nI r) x (nI k * s) (way * tw_abs (tw_cross lx ly rx ry (nI k * s) - y))) from if_neg h126] at hK
      have h9 := ih (k + 1) _ _ _ _ (by omega) (by omega) ((k2 a (tf_n1 fa fg)).trans fa) k1 (fun z hz => (k2 z hz).trans (hf z hz)) hK
      rw [nI_succ] at h9
      exact h9
end
