/-! Canvas.turnToGreys -/
section
variable (l : Launch) (D : va_G) (q : Nat → ClassId) (d : Nat) (L : List Nat) (f : tf_F)
end
/-- a row of cells from place b + k - 1 down to b: covers become greys; their sum and the cells -/
def tw_gr1 (s : Int32) (b : Nat) : Nat → Int32 → Int32 → (Nat → Int32) → Int32 × (Nat → Int32)
  | 0, _, su, g => (su, g)
  | k + 1, cv, su, g => tw_gr1 s b k (cv + g (b + k)) (su + upd g (b + k) (tw_grey s (cv + g (b + k))) (b + k)) (upd g (b + k) (tw_grey s (cv + g (b + k))))
/-- the rows from r on, m of them -/
def tw_gr (s : Int32) (n : Nat) : Nat → Nat → Int32 → (Nat → Int32) → Int32 × (Nat → Int32)
  | 0, _, su, g => (su, g)
  | m + 1, r, su, g => tw_gr s n m (r + 1) (tw_gr1 s (r * n) n (kI 0) su g).1 (tw_gr1 s (r * n) n (kI 0) su g).2
section
variable (l : Launch) (D : va_G) (q : Nat → ClassId) (d : Nat) (L : List Nat) (f : tf_F)
set_option maxHeartbeats 4000000 in
set_option maxRecDepth 100000 in
theorem t_Canvas_gr1 (hd : 3 ≤ d) {QB : tf_B} {kc ks : Nat} {a ce n : Nat} {s : Int32} (hn : n ≤ 64) (ha : a ∈ L) (hce : ce ∈ L) {r : Nat} (hr : r < n) : ∀ k (cv su : Int32) (g : Nat → Int32) (fc : tf_F), k ≤ n → fc a = to 2 [.ref ce, .int s, .int (nI n)] → fc ce = ti q 4096 g → (∀ z, z ≠ ce → fc z = f z) → (∀ f2 : tf_F, f2 ce = ti q 4096 (tw_gr1 s (r * n) k cv su g).2 → (∀ z, z ≠ ce → f2 z = f z) → tf_W l (tf_H D q) tf_T QB d i_Canvas_turnToGreys 76 [(0, .ref a), (1, .int (tw_gr1 s (r * n) k cv su g).1), (2, .int (nI r))] [] L f2 kc ks) → tf_W l (tf_H D q) tf_T QB d i_Canvas_turnToGreys 22 [(0, .ref a), (1, .int su), (2, .int (nI r)), (3, .int cv), (4, .int (nI k - kI 1))] [] L fc kc ks := by
  have hrn : r * n + n ≤ 4096 := by
    have h1 : (r + 1) * n ≤ n * n := Nat.mul_le_mul_right n hr
    have h2 : n * n ≤ 64 * 64 := Nat.mul_le_mul hn hn
    rw [Nat.succ_mul] at h1
    omega
  intro k
  induction k with
  | zero =>
    intro cv su g fc hk fa fg hf hK
    refine tf_blk _ b_Canvas_turnToGreys_22 rfl ?_
    refine tf_if_lt 76 27 d_Canvas_turnToGreys_24 rfl rfl (fun h24 => ?_) (fun h24 => absurd (show nI 0 - kI 1 < 0 by decide) h24)
    refine tf_drop [0, 1, 2] rfl ?_
    exact hK _ fg hf
  | succ k ih =>
    intro cv su g fc hk fa fg hf hK
    have e0 : nI (k + 1) - kI 1 = nI k := nI_sub1 (by omega)
    rw [e0]
    have e1 : nI r * nI n + nI k = nI (r * n + k) := by rw [nI_mul, nI_add]
    have hv : vp_in (nI r * nI n + nI k) 4096 := by rw [e1]; exact vp_in_nI (by omega) (by omega)
    have hc : (nI r * nI n + nI k).toNatClampNeg = r * n + k := by rw [e1]; exact nI_clamp (by omega)
    refine tf_blk _ b_Canvas_turnToGreys_22 rfl ?_
    refine tf_if_lt 76 27 d_Canvas_turnToGreys_24 rfl rfl (fun h24 => absurd h24 (nI_pos (by omega))) (fun h24 => ?_)
    refine tf_blk _ b_Canvas_turnToGreys_27 rfl ?_
    refine tf_get (fs := ?fs_29_1) (v := ?v_29_1) 32 d_Canvas_turnToGreys_29 rfl fl_Canvas_19 ?ha_29_1 ?hf_29_1 ?hv_29_1 ?kk_29_1
    case ha_29_1 => first | assumption | (simp only [List.mem_append, List.mem_singleton]; simp [*])
    case hf_29_1 => first | assumption | exact va_up_self _ _ _ | (refine tf_u (by first | assumption | (apply Ne.symm; assumption) | (intro hh; subst hh; contradiction) | exact tf_n1 (by assumption) (by assumption) | exact tf_n2 (by assumption) (by assumption)) ?_; first | assumption | exact va_up_self _ _ _ | (refine tf_u (by first | assumption | (apply Ne.symm; assumption) | (intro hh; subst hh; contradiction) | exact tf_n1 (by assumption) (by assumption) | exact tf_n2 (by assumption) (by assumption)) ?_; first | assumption | exact va_up_self _ _ _ | (refine tf_u (by first | assumption | (apply Ne.symm; assumption) | (intro hh; subst hh; contradiction) | exact tf_n1 (by assumption) (by assumption) | exact tf_n2 (by assumption) (by assumption)) ?_; first | assumption | exact va_up_self _ _ _ | (refine tf_u (by first | assumption | (apply Ne.symm; assumption) | (intro hh; subst hh; contradiction) | exact tf_n1 (by assumption) (by assumption) | exact tf_n2 (by assumption) (by assumption)) ?_; first | assumption | exact va_up_self _ _ _ | (refine tf_u (by first | assumption | (apply Ne.symm; assumption) | (intro hh; subst hh; contradiction) | exact tf_n1 (by assumption) (by assumption) | exact tf_n2 (by assumption) (by assumption)) ?_; first | assumption | exact va_up_self _ _ _)))))
    case hv_29_1 => rfl
    refine tf_blk _ b_Canvas_turnToGreys_32 rfl ?_
    refine tf_get (fs := ?fs_40_2) (v := ?v_40_2) 43 d_Canvas_turnToGreys_40 rfl fl_Canvas_11 ?ha_40_2 ?hf_40_2 ?hv_40_2 ?kk_40_2
    case ha_40_2 => first | assumption | (simp only [List.mem_append, List.mem_singleton]; simp [*])
    case hf_40_2 => first | assumption | exact va_up_self _ _ _ | (refine tf_u (by first | assumption | (apply Ne.symm; assumption) | (intro hh; subst hh; contradiction) | exact tf_n1 (by assumption) (by assumption) | exact tf_n2 (by assumption) (by assumption)) ?_; first | assumption | exact va_up_self _ _ _ | (refine tf_u (by first | assumption | (apply Ne.symm; assumption) | (intro hh; subst hh; contradiction) | exact tf_n1 (by assumption) (by assumption) | exact tf_n2 (by assumption) (by assumption)) ?_; first | assumption | exact va_up_self _ _ _ | (refine tf_u (by first | assumption | (apply Ne.symm; assumption) | (intro hh; subst hh; contradiction) | exact tf_n1 (by assumption) (by assumption) | exact tf_n2 (by assumption) (by assumption)) ?_; first | assumption | exact va_up_self _ _ _ | (refine tf_u (by first | assumption | (apply Ne.symm; assumption) | (intro hh; subst hh; contradiction) | exact tf_n1 (by assumption) (by assumption) | exact tf_n2 (by assumption) (by assumption)) ?_; first | assumption | exact va_up_self _ _ _ | (refine tf_u (by first | assumption | (apply Ne.symm; assumption) | (intro hh; subst hh; contradiction) | exact tf_n1 (by assumption) (by assumption) | exact tf_n2 (by assumption) (by assumption)) ?_; first | assumption | exact va_up_self _ _ _)))))
    case hv_40_2 => rfl
    refine tf_blk _ b_Canvas_turnToGreys_43 rfl ?_
    refine tf_iald (n := ?n_45_3) (g := ?g_45_3) 46 0 d_Canvas_turnToGreys_45 rfl rfl ?ha_45_3 ?hf_45_3 ?hi_45_3 ?kk_45_3
    case ha_45_3 => first | assumption | (simp only [List.mem_append, List.mem_singleton]; simp [*])
    case hf_45_3 => first | assumption | exact va_up_self _ _ _ | (refine tf_u (by first | assumption | (apply Ne.symm; assumption) | (intro hh; subst hh; contradiction) | exact tf_n1 (by assumption) (by assumption) | exact tf_n2 (by assumption) (by assumption)) ?_; first | assumption | exact va_up_self _ _ _ | (refine tf_u (by first | assumption | (apply Ne.symm; assumption) | (intro hh; subst hh; contradiction) | exact tf_n1 (by assumption) (by assumption) | exact tf_n2 (by assumption) (by assumption)) ?_; first | assumption | exact va_up_self _ _ _ | (refine tf_u (by first | assumption | (apply Ne.symm; assumption) | (intro hh; subst hh; contradiction) | exact tf_n1 (by assumption) (by assumption) | exact tf_n2 (by assumption) (by assumption)) ?_; first | assumption | exact va_up_self _ _ _ | (refine tf_u (by first | assumption | (apply Ne.symm; assumption) | (intro hh; subst hh; contradiction) | exact tf_n1 (by assumption) (by assumption) | exact tf_n2 (by assumption) (by assumption)) ?_; first | assumption | exact va_up_self _ _ _ | (refine tf_u (by first | assumption | (apply Ne.symm; assumption) | (intro hh; subst hh; contradiction) | exact tf_n1 (by assumption) (by assumption) | exact tf_n2 (by assumption) (by assumption)) ?_; first | assumption | exact va_up_self _ _ _)))))
    case hi_45_3 => exact hv
    refine tf_blk _ b_Canvas_turnToGreys_46 rfl ?_
    refine tf_get (fs := ?fs_49_4) (v := ?v_49_4) 52 d_Canvas_turnToGreys_49 rfl fl_Canvas_11 ?ha_49_4 ?hf_49_4 ?hv_49_4 ?kk_49_4
    case ha_49_4 => first | assumption | (simp only [List.mem_append, List.mem_singleton]; simp [*])
    case hf_49_4 => first | assumption | exact va_up_self _ _ _ | (refine tf_u (by first | assumption | (apply Ne.symm; assumption) | (intro hh; subst hh; contradiction) | exact tf_n1 (by assumption) (by assumption) | exact tf_n2 (by assumption) (by assumption)) ?_; first | assumption | exact va_up_self _ _ _ | (refine tf_u (by first | assumption | (apply Ne.symm; assumption) | (intro hh; subst hh; contradiction) | exact tf_n1 (by assumption) (by assumption) | exact tf_n2 (by assumption) (by assumption)) ?_; first | assumption | exact va_up_self _ _ _ | (refine tf_u (by first | assumption | (apply Ne.symm; assumption) | (intro hh; subst hh; contradiction) | exact tf_n1 (by assumption) (by assumption) | exact tf_n2 (by assumption) (by assumption)) ?_; first | assumption | exact va_up_self _ _ _ | (refine tf_u (by first | assumption | (apply Ne.symm; assumption) | (intro hh; subst hh; contradiction) | exact tf_n1 (by assumption) (by assumption) | exact tf_n2 (by assumption) (by assumption)) ?_; first | assumption | exact va_up_self _ _ _ | (refine tf_u (by first | assumption | (apply Ne.symm; assumption) | (intro hh; subst hh; contradiction) | exact tf_n1 (by assumption) (by assumption) | exact tf_n2 (by assumption) (by assumption)) ?_; first | assumption | exact va_up_self _ _ _)))))
    case hv_49_4 => rfl
    refine tf_blk _ b_Canvas_turnToGreys_52 rfl ?_
    refine tf_cV (tf_gok _ _) (c_Canvas_grey l D q (d - 1) _ _ (by omega) ha fa _) 59 d_Canvas_turnToGreys_56 rfl lk_Canvas_43 cw_Canvas_grey (by rfl) in_Canvas_grey se_Canvas_grey (by first | assumption | (simp only [List.mem_append, List.mem_singleton]; simp [*])) (by first | assumption | exact va_up_self _ _ _ | (refine tf_u (by first | assumption | (apply Ne.symm; assumption) | (intro hh; subst hh; contradiction) | exact tf_n1 (by assumption) (by assumption) | exact tf_n2 (by assumption) (by assumption)) ?_; first | assumption | exact va_up_self _ _ _ | (refine tf_u (by first | assumption | (apply Ne.symm; assumption) | (intro hh; subst hh; contradiction) | exact tf_n1 (by assumption) (by assumption) | exact tf_n2 (by assumption) (by assumption)) ?_; first | assumption | exact va_up_self _ _ _ | (refine tf_u (by first | assumption | (apply Ne.symm; assumption) | (intro hh; subst hh; contradiction) | exact tf_n1 (by assumption) (by assumption) | exact tf_n2 (by assumption) (by assumption)) ?_; first | assumption | exact va_up_self _ _ _ | (refine tf_u (by first | assumption | (apply Ne.symm; assumption) | (intro hh; subst hh; contradiction) | exact tf_n1 (by assumption) (by assumption) | exact tf_n2 (by assumption) (by assumption)) ?_; first | assumption | exact va_up_self _ _ _ | (refine tf_u (by first | assumption | (apply Ne.symm; assumption) | (intro hh; subst hh; contradiction) | exact tf_n1 (by assumption) (by assumption) | exact tf_n2 (by assumption) (by assumption)) ?_; first | assumption | exact va_up_self _ _ _)))))) (by rfl) (by rfl) (by omega) (by exact Nat.le_of_ble_eq_true rfl) rfl ?_
    rintro v56 L56 f56 ⟨rfl, rfl, rfl⟩
    refine tf_iast (n := ?n_59_6) (g := ?g_59_6) 60 0 d_Canvas_turnToGreys_59 rfl rfl ?ha_59_6 ?hf_59_6 ?hi_59_6 ?kk_59_6
    case ha_59_6 => first | assumption | (simp only [List.mem_append, List.mem_singleton]; simp [*])
    case hf_59_6 => first | assumption | exact va_up_self _ _ _ | (refine tf_u (by first | assumption | (apply Ne.symm; assumption) | (intro hh; subst hh; contradiction) | exact tf_n1 (by assumption) (by assumption) | exact tf_n2 (by assumption) (by assumption)) ?_; first | assumption | exact va_up_self _ _ _ | (refine tf_u (by first | assumption | (apply Ne.symm; assumption) | (intro hh; subst hh; contradiction) | exact tf_n1 (by assumption) (by assumption) | exact tf_n2 (by assumption) (by assumption)) ?_; first | assumption | exact va_up_self _ _ _ | (refine tf_u (by first | assumption | (apply Ne.symm; assumption) | (intro hh; subst hh; contradiction) | exact tf_n1 (by assumption) (by assumption) | exact tf_n2 (by assumption) (by assumption)) ?_; first | assumption | exact va_up_self _ _ _ | (refine tf_u (by first | assumption | (apply Ne.symm; assumption) | (intro hh; subst hh; contradiction) | exact tf_n1 (by assumption) (by assumption) | exact tf_n2 (by assumption) (by assumption)) ?_; first | assumption | exact va_up_self _ _ _ | (refine tf_u (by first | assumption | (apply Ne.symm; assumption) | (intro hh; subst hh; contradiction) | exact tf_n1 (by assumption) (by assumption) | exact tf_n2 (by assumption) (by assumption)) ?_; first | assumption | exact va_up_self _ _ _)))))
    case hi_59_6 => exact hv
    refine tf_blk _ b_Canvas_turnToGreys_60 rfl ?_
    refine tf_get (fs := ?fs_62_7) (v := ?v_62_7) 65 d_Canvas_turnToGreys_62 rfl fl_Canvas_11 ?ha_62_7 ?hf_62_7 ?hv_62_7 ?kk_62_7
    case ha_62_7 => first | assumption | (simp only [List.mem_append, List.mem_singleton]; simp [*])
    case hf_62_7 => first | assumption | exact va_up_self _ _ _ | (refine tf_u (by first | assumption | (apply Ne.symm; assumption) | (intro hh; subst hh; contradiction) | exact tf_n1 (by assumption) (by assumption) | exact tf_n2 (by assumption) (by assumption)) ?_; first | assumption | exact va_up_self _ _ _ | (refine tf_u (by first | assumption | (apply Ne.symm; assumption) | (intro hh; subst hh; contradiction) | exact tf_n1 (by assumption) (by assumption) | exact tf_n2 (by assumption) (by assumption)) ?_; first | assumption | exact va_up_self _ _ _ | (refine tf_u (by first | assumption | (apply Ne.symm; assumption) | (intro hh; subst hh; contradiction) | exact tf_n1 (by assumption) (by assumption) | exact tf_n2 (by assumption) (by assumption)) ?_; first | assumption | exact va_up_self _ _ _ | (refine tf_u (by first | assumption | (apply Ne.symm; assumption) | (intro hh; subst hh; contradiction) | exact tf_n1 (by assumption) (by assumption) | exact tf_n2 (by assumption) (by assumption)) ?_; first | assumption | exact va_up_self _ _ _ | (refine tf_u (by first | assumption | (apply Ne.symm; assumption) | (intro hh; subst hh; contradiction) | exact tf_n1 (by assumption) (by assumption) | exact tf_n2 (by assumption) (by assumption)) ?_; first | assumption | exact va_up_self _ _ _)))))
    case hv_62_7 => rfl
    refine tf_blk _ b_Canvas_turnToGreys_65 rfl ?_
    refine tf_iald (n := ?n_67_8) (g := ?g_67_8) 68 0 d_Canvas_turnToGreys_67 rfl rfl ?ha_67_8 ?hf_67_8 ?hi_67_8 ?kk_67_8
    case ha_67_8 => first | assumption | (simp only [List.mem_append, List.mem_singleton]; simp [*])
    case hf_67_8 => first | assumption | exact va_up_self _ _ _ | (refine tf_u (by first | assumption | (apply Ne.symm; assumption) | (intro hh; subst hh; contradiction) | exact tf_n1 (by assumption) (by assumption) | exact tf_n2 (by assumption) (by assumption)) ?_; first | assumption | exact va_up_self _ _ _ | (refine tf_u (by first | assumption | (apply Ne.symm; assumption) | (intro hh; subst hh; contradiction) | exact tf_n1 (by assumption) (by assumption) | exact tf_n2 (by assumption) (by assumption)) ?_; first | assumption | exact va_up_self _ _ _ | (refine tf_u (by first | assumption | (apply Ne.symm; assumption) | (intro hh; subst hh; contradiction) | exact tf_n1 (by assumption) (by assumption) | exact tf_n2 (by assumption) (by assumption)) ?_; first | assumption | exact va_up_self _ _ _ | (refine tf_u (by first | assumption | (apply Ne.symm; assumption) | (intro hh; subst hh; contradiction) | exact tf_n1 (by assumption) (by assumption) | exact tf_n2 (by assumption) (by assumption)) ?_; first | assumption | exact va_up_self _ _ _ | (refine tf_u (by first | assumption | (apply Ne.symm; assumption) | (intro hh; subst hh; contradiction) | exact tf_n1 (by assumption) (by assumption) | exact tf_n2 (by assumption) (by assumption)) ?_; first | assumption | exact va_up_self _ _ _)))))
    case hi_67_8 => exact hv
    refine tf_blk _ b_Canvas_turnToGreys_68 rfl ?_
    refine tf_goto 22 d_Canvas_turnToGreys_73 rfl ?_
    refine tf_drop [0, 1, 2, 3, 4] rfl ?_
    rw [hc]
    have h9 := ih (cv + g (r * n + k)) (su + upd g (r * n + k) (tw_grey s (cv + g (r * n + k))) (r * n + k)) (upd g (r * n + k) (tw_grey s (cv + g (r * n + k)))) _ (by omega) (tf_u (tf_n1 fa fg) fa) (va_up_self _ _ _) (fun z hz => tf_u hz (hf z hz)) hK
    rw [show nI k - kI 1 = nI k + kI (-1) from Int32.sub_eq_add_neg _ _] at h9
    exact h9
set_option maxHeartbeats 4000000 in
set_option maxRecDepth 100000 in
theorem t_Canvas_gr (hd : 3 ≤ d) {a ce n : Nat} {s : Int32} (hn : n ≤ 64) (ha : a ∈ L) (hce : ce ∈ L) : ∀ m r (su : Int32) (g : Nat → Int32) (fc : tf_F), r + m = n → fc a = to 2 [.ref ce, .int s, .int (nI n)] → fc ce = ti q 4096 g → (∀ z, z ≠ ce → fc z = f z) → tf_W l (tf_H D q) tf_T (tf_QM (tf_H D q) (fun v L2 f2 => v = some (.int (tw_gr s n m r su g).1) ∧ L2 = L ∧ f2 ce = ti q 4096 (tw_gr s n m r su g).2 ∧ ∀ z, z ≠ ce → f2 z = f z)) d i_Canvas_turnToGreys 4 [(0, .ref a), (1, .int su), (2, .int (nI r))] [] L fc 0 0 := by
  intro m
  induction m with
  | zero =>
    intro r su g fc hm fa fg hf
    refine tf_blk _ b_Canvas_turnToGreys_4 rfl ?_
    refine tf_get (fs := ?fs_6_9) (v := ?v_6_9) 9 d_Canvas_turnToGreys_6 rfl fl_Canvas_19 ?ha_6_9 ?hf_6_9 ?hv_6_9 ?kk_6_9
    case ha_6_9 => first | assumption | (simp only [List.mem_append, List.mem_singleton]; simp [*])
    case hf_6_9 => first | assumption | exact va_up_self _ _ _ | (refine tf_u (by first | assumption | (apply Ne.symm; assumption) | (intro hh; subst hh; contradiction) | exact tf_n1 (by assumption) (by assumption) | exact tf_n2 (by assumption) (by assumption)) ?_; first | assumption | exact va_up_self _ _ _ | (refine tf_u (by first | assumption | (apply Ne.symm; assumption) | (intro hh; subst hh; contradiction) | exact tf_n1 (by assumption) (by assumption) | exact tf_n2 (by assumption) (by assumption)) ?_; first | assumption | exact va_up_self _ _ _ | (refine tf_u (by first | assumption | (apply Ne.symm; assumption) | (intro hh; subst hh; contradiction) | exact tf_n1 (by assumption) (by assumption) | exact tf_n2 (by assumption) (by assumption)) ?_; first | assumption | exact va_up_self _ _ _ | (refine tf_u (by first | assumption | (apply Ne.symm; assumption) | (intro hh; subst hh; contradiction) | exact tf_n1 (by assumption) (by assumption) | exact tf_n2 (by assumption) (by assumption)) ?_; first | assumption | exact va_up_self _ _ _ | (refine tf_u (by first | assumption | (apply Ne.symm; assumption) | (intro hh; subst hh; contradiction) | exact tf_n1 (by assumption) (by assumption) | exact tf_n2 (by assumption) (by assumption)) ?_; first | assumption | exact va_up_self _ _ _)))))
    case hv_6_9 => rfl
    refine tf_ic_ge 82 12 d_Canvas_turnToGreys_9 rfl rfl (fun h9 => ?_) (fun h9 => absurd (nI_le (by omega) (by omega)) h9)
    refine tf_blk _ b_Canvas_turnToGreys_82 rfl ?_
    refine tf_iret d_Canvas_turnToGreys_83 rfl ?_
    exact ⟨rfl, rfl, fg, hf⟩
  | succ m ih =>
    intro r su g fc hm fa fg hf
    refine tf_blk _ b_Canvas_turnToGreys_4 rfl ?_
    refine tf_get (fs := ?fs_6_11) (v := ?v_6_11) 9 d_Canvas_turnToGreys_6 rfl fl_Canvas_19 ?ha_6_11 ?hf_6_11 ?hv_6_11 ?kk_6_11
    case ha_6_11 => first | assumption | (simp only [List.mem_append, List.mem_singleton]; simp [*])
    case hf_6_11 => first | assumption | exact va_up_self _ _ _ | (refine tf_u (by first | assumption | (apply Ne.symm; assumption) | (intro hh; subst hh; contradiction) | exact tf_n1 (by assumption) (by assumption) | exact tf_n2 (by assumption) (by assumption)) ?_; first | assumption | exact va_up_self _ _ _ | (refine tf_u (by first | assumption | (apply Ne.symm; assumption) | (intro hh; subst hh; contradiction) | exact tf_n1 (by assumption) (by assumption) | exact tf_n2 (by assumption) (by assumption)) ?_; first | assumption | exact va_up_self _ _ _ | (refine tf_u (by first | assumption | (apply Ne.symm; assumption) | (intro hh; subst hh; contradiction) | exact tf_n1 (by assumption) (by assumption) | exact tf_n2 (by assumption) (by assumption)) ?_; first | assumption | exact va_up_self _ _ _ | (refine tf_u (by first | assumption | (apply Ne.symm; assumption) | (intro hh; subst hh; contradiction) | exact tf_n1 (by assumption) (by assumption) | exact tf_n2 (by assumption) (by assumption)) ?_; first | assumption | exact va_up_self _ _ _ | (refine tf_u (by first | assumption | (apply Ne.symm; assumption) | (intro hh; subst hh; contradiction) | exact tf_n1 (by assumption) (by assumption) | exact tf_n2 (by assumption) (by assumption)) ?_; first | assumption | exact va_up_self _ _ _)))))
    case hv_6_11 => rfl
    refine tf_ic_ge 82 12 d_Canvas_turnToGreys_9 rfl rfl (fun h9 => absurd h9 (nI_ge (by omega) (by omega))) (fun h9 => ?_)
    refine tf_blk _ b_Canvas_turnToGreys_12 rfl ?_
    refine tf_get (fs := ?fs_15_12) (v := ?v_15_12) 18 d_Canvas_turnToGreys_15 rfl fl_Canvas_19 ?ha_15_12 ?hf_15_12 ?hv_15_12 ?kk_15_12
    case ha_15_12 => first | assumption | (simp only [List.mem_append, List.mem_singleton]; simp [*])
    case hf_15_12 => first | assumption | exact va_up_self _ _ _ | (refine tf_u (by first | assumption | (apply Ne.symm; assumption) | (intro hh; subst hh; contradiction) | exact tf_n1 (by assumption) (by assumption) | exact tf_n2 (by assumption) (by assumption)) ?_; first | assumption | exact va_up_self _ _ _ | (refine tf_u (by first | assumption | (apply Ne.symm; assumption) | (intro hh; subst hh; contradiction) | exact tf_n1 (by assumption) (by assumption) | exact tf_n2 (by assumption) (by assumption)) ?_; first | assumption | exact va_up_self _ _ _ | (refine tf_u (by first | assumption | (apply Ne.symm; assumption) | (intro hh; subst hh; contradiction) | exact tf_n1 (by assumption) (by assumption) | exact tf_n2 (by assumption) (by assumption)) ?_; first | assumption | exact va_up_self _ _ _ | (refine tf_u (by first | assumption | (apply Ne.symm; assumption) | (intro hh; subst hh; contradiction) | exact tf_n1 (by assumption) (by assumption) | exact tf_n2 (by assumption) (by assumption)) ?_; first | assumption | exact va_up_self _ _ _ | (refine tf_u (by first | assumption | (apply Ne.symm; assumption) | (intro hh; subst hh; contradiction) | exact tf_n1 (by assumption) (by assumption) | exact tf_n2 (by assumption) (by assumption)) ?_; first | assumption | exact va_up_self _ _ _)))))
    case hv_15_12 => rfl
    refine tf_blk _ b_Canvas_turnToGreys_18 rfl ?_
    refine t_Canvas_gr1 l D q d L f hd hn ha hce (r := r) (by omega) n (kI 0) su g fc (Nat.le_refl _) fa fg hf (fun f2 k1 k2 => ?_)
    have fa2 : f2 a = to 2 [.ref ce, .int s, .int (nI n)] := (k2 a (tf_n1 fa fg)).trans ((hf a (tf_n1 fa fg)).symm.trans fa)
    refine tf_blk _ b_Canvas_turnToGreys_76 rfl ?_
    refine tf_goto 4 d_Canvas_turnToGreys_79 rfl ?_
    have h9 := ih (r + 1) (tw_gr1 s (r * n) n (kI 0) su g).1 _ f2 (by omega) fa2 k1 k2
    rw [nI_succ] at h9
    exact h9
set_option maxHeartbeats 4000000 in
set_option maxRecDepth 100000 in
theorem c_Canvas_turnToGreys (hd : 3 ≤ d) {a ce n : Nat} {s : Int32} (hn : n ≤ 64) (ha : a ∈ L) (hce : ce ∈ L) {g : Nat → Int32} (fa : f a = to 2 [.ref ce, .int s, .int (nI n)]) (fg : f ce = ti q 4096 g) : tf_C l (tf_H D q) d i_Canvas_turnToGreys [.ref a] L f 0 0 (fun v L2 f2 => v = some (.int (tw_gr s n n 0 (kI 0) g).1) ∧ L2 = L ∧ f2 ce = ti q 4096 (tw_gr s n n 0 (kI 0) g).2 ∧ ∀ z, z ≠ ce → f2 z = f z) := by
  refine tf_C.of (tf_gok _ _) (by decide) w_1036 (Nat.le_of_ble_eq_true rfl) ?_
  refine tf_blk _ b_Canvas_turnToGreys_0 rfl ?_
  exact t_Canvas_gr l D q d L f hd hn ha hce n 0 (kI 0) g f (by omega) fa fg (fun _ _ => rfl)
end
