/-! Arrays.fill, Canvas.start -/
section
variable (l : Launch) (D : va_G) (q : Nat → ClassId) (d : Nat) (L : List Nat) (f : tf_F)
end
/-- m places from k on hold x -/
def tw_fl (x : Int32) : Nat → Nat → (Nat → Int32) → Nat → Int32
  | 0, _, g => g
  | m + 1, k, g => tw_fl x m (k + 1) (upd g k x)
section
variable (l : Launch) (D : va_G) (q : Nat → ClassId) (d : Nat) (L : List Nat) (f : tf_F)
set_option maxHeartbeats 4000000 in
set_option maxRecDepth 100000 in
theorem c_Arrays_rangeCheck {n N : Nat} (h1 : n ≤ N) (h2 : N < 2 ^ 31) : tf_C l (tf_H D q) d i_Arrays_rangeCheck [.int (nI N), .int (kI 0), .int (nI n)] L f 0 0 (fun v L2 f2 => v = none ∧ L2 = L ∧ f2 = f) := by
  refine tf_C.ofF (tf_gok _ _) (by decide +kernel) w_708 (Nat.le_of_ble_eq_true rfl) ?_
  refine tf_blk _ b_Arrays_rangeCheck_0 rfl ?_
  refine tf_ic_le 46 5 d_Arrays_rangeCheck_2 rfl rfl (fun h2 => ?_) (fun h2 => absurd (nI_le (a := 0) (by omega) (by omega)) h2)
  refine tf_blk _ b_Arrays_rangeCheck_46 rfl ?_
  refine tf_if_ge 59 50 d_Arrays_rangeCheck_47 rfl rfl (fun h47 => ?_) (fun h47 => absurd (show (0 : Int32) ≤ kI 0 by decide) h47)
  refine tf_blk _ b_Arrays_rangeCheck_59 rfl ?_
  refine tf_ic_le 73 64 d_Arrays_rangeCheck_61 rfl rfl (fun h61 => ?_) (fun h61 => absurd (nI_le (by omega) (by omega)) h61)
  refine tf_vret d_Arrays_rangeCheck_73 rfl ?_
  exact ⟨rfl, rfl, rfl⟩
set_option maxHeartbeats 4000000 in
set_option maxRecDepth 100000 in
theorem t_Arrays_fill {a n N : Nat} (x : Int32) (hn : n ≤ N) (hN : N < 2 ^ 31) (ha : a ∈ L) : ∀ m k (g : Nat → Int32) (fc : tf_F), k + m = n → fc a = ti q N g → (∀ z, z ≠ a → fc z = f z) → tf_W l (tf_H D q) tf_T (tf_QM (tf_H D q) (fun v L2 f2 => v = none ∧ L2 = L ∧ f2 a = ti q N (tw_fl x m k g) ∧ ∀ z, z ≠ a → f2 z = f z)) d i_Arrays_fill 10 [(0, .ref a), (1, .int (kI 0)), (2, .int (nI n)), (3, .int x), (4, .int (nI k))] [] L fc 0 0 := by
  intro m
  induction m with
  | zero =>
    intro k g fc hm fg hf
    refine tf_blk _ b_Arrays_fill_10 rfl ?_
    refine tf_ic_ge 27 16 d_Arrays_fill_13 rfl rfl (fun h13 => ?_) (fun h13 => absurd (nI_le (by omega) (by omega)) h13)
    refine tf_vret d_Arrays_fill_27 rfl ?_
    exact ⟨rfl, rfl, fg, hf⟩
  | succ m ih =>
    intro k g fc hm fg hf
    refine tf_blk _ b_Arrays_fill_10 rfl ?_
    refine tf_ic_ge 27 16 d_Arrays_fill_13 rfl rfl (fun h13 => absurd h13 (nI_ge (by omega) (by omega))) (fun h13 => ?_)
    refine tf_blk _ b_Arrays_fill_16 rfl ?_
    refine tf_iast (n := ?n_20_3) (g := ?g_20_3) 21 0 d_Arrays_fill_20 rfl rfl ?ha_20_3 ?hf_20_3 ?hi_20_3 ?kk_20_3
    case ha_20_3 => first | assumption | (simp only [List.mem_append, List.mem_singleton]; simp [*])
    case hf_20_3 => first | assumption | exact va_up_self _ _ _ | (refine tf_u (by first | assumption | (apply Ne.symm; assumption) | (intro hh; subst hh; contradiction) | exact tf_n1 (by assumption) (by assumption) | exact tf_n2 (by assumption) (by assumption)) ?_; first | assumption | exact va_up_self _ _ _ | (refine tf_u (by first | assumption | (apply Ne.symm; assumption) | (intro hh; subst hh; contradiction) | exact tf_n1 (by assumption) (by assumption) | exact tf_n2 (by assumption) (by assumption)) ?_; first | assumption | exact va_up_self _ _ _ | (refine tf_u (by first | assumption | (apply Ne.symm; assumption) | (intro hh; subst hh; contradiction) | exact tf_n1 (by assumption) (by assumption) | exact tf_n2 (by assumption) (by assumption)) ?_; first | assumption | exact va_up_self _ _ _ | (refine tf_u (by first | assumption | (apply Ne.symm; assumption) | (intro hh; subst hh; contradiction) | exact tf_n1 (by assumption) (by assumption) | exact tf_n2 (by assumption) (by assumption)) ?_; first | assumption | exact va_up_self _ _ _ | (refine tf_u (by first | assumption | (apply Ne.symm; assumption) | (intro hh; subst hh; contradiction) | exact tf_n1 (by assumption) (by assumption) | exact tf_n2 (by assumption) (by assumption)) ?_; first | assumption | exact va_up_self _ _ _)))))
    case hi_20_3 => exact vp_in_nI (by omega) (by omega)
    refine tf_blk _ b_Arrays_fill_21 rfl ?_
    refine tf_goto 10 d_Arrays_fill_24 rfl ?_
    rw [show (nI k).toNatClampNeg = k from nI_clamp (by omega)]
    have h9 := ih (k + 1) (upd g k x) _ (by omega) (va_up_self _ _ _) (fun z hz => (va_up_ne _ _ hz).trans (hf z hz))
    rw [nI_succ] at h9
    exact h9
set_option maxHeartbeats 4000000 in
set_option maxRecDepth 100000 in
theorem c_Arrays_fill (hd : 1 ≤ d) {a n N : Nat} {g : Nat → Int32} (x : Int32) (hn : n ≤ N) (hN : N < 2 ^ 31) (ha : a ∈ L) (fg : f a = ti q N g) : tf_C l (tf_H D q) d i_Arrays_fill [.ref a, .int (kI 0), .int (nI n), .int x] L f 0 0 (fun v L2 f2 => v = none ∧ L2 = L ∧ f2 a = ti q N (tw_fl x n 0 g) ∧ ∀ z, z ≠ a → f2 z = f z) := by
  refine tf_C.ofF (tf_gok _ _) (by decide +kernel) w_705 (Nat.le_of_ble_eq_true rfl) ?_
  refine tf_blk _ b_Arrays_fill_0 rfl ?_
  refine tf_alen (w := ?w_1_4) 2 0 d_Arrays_fill_1 rfl rfl ?ha_1_4 ?hf_1_4 ?kk_1_4
  case ha_1_4 => first | assumption | (simp only [List.mem_append, List.mem_singleton]; simp [*])
  case hf_1_4 => first | assumption | exact va_up_self _ _ _ | (refine tf_u (by first | assumption | (apply Ne.symm; assumption) | (intro hh; subst hh; contradiction) | exact tf_n1 (by assumption) (by assumption) | exact tf_n2 (by assumption) (by assumption)) ?_; first | assumption | exact va_up_self _ _ _ | (refine tf_u (by first | assumption | (apply Ne.symm; assumption) | (intro hh; subst hh; contradiction) | exact tf_n1 (by assumption) (by assumption) | exact tf_n2 (by assumption) (by assumption)) ?_; first | assumption | exact va_up_self _ _ _ | (refine tf_u (by first | assumption | (apply Ne.symm; assumption) | (intro hh; subst hh; contradiction) | exact tf_n1 (by assumption) (by assumption) | exact tf_n2 (by assumption) (by assumption)) ?_; first | assumption | exact va_up_self _ _ _ | (refine tf_u (by first | assumption | (apply Ne.symm; assumption) | (intro hh; subst hh; contradiction) | exact tf_n1 (by assumption) (by assumption) | exact tf_n2 (by assumption) (by assumption)) ?_; first | assumption | exact va_up_self _ _ _ | (refine tf_u (by first | assumption | (apply Ne.symm; assumption) | (intro hh; subst hh; contradiction) | exact tf_n1 (by assumption) (by assumption) | exact tf_n2 (by assumption) (by assumption)) ?_; first | assumption | exact va_up_self _ _ _)))))
  refine tf_blk _ b_Arrays_fill_2 rfl ?_
  refine tf_cS (tf_gok _ _) (c_Arrays_rangeCheck l D q (d - 1) _ _ hn hN) 7 d_Arrays_fill_4 rfl lk_Arrays_13 cw_Arrays_rangeCheck (by rfl) sa_Arrays_rangeCheck (by omega) (by exact Nat.le_of_ble_eq_true rfl) rfl ?_
  rintro v4 L4 f4 ⟨rfl, rfl, rfl⟩
  refine tf_blk _ b_Arrays_fill_7 rfl ?_
  exact t_Arrays_fill l D q d _ _ x hn hN ha n 0 g _ (by omega) fg (fun _ _ => rfl)
set_option maxHeartbeats 4000000 in
set_option maxRecDepth 100000 in
theorem c_Canvas_start (hd : 2 ≤ d) {a ce n : Nat} {v1 v2 : Int32} {g : Nat → Int32} (s : Int32) (hn : n ≤ 64) (hs : ¬ s = 0) (he : kI 2048 / s = nI n) (ha : a ∈ L) (hce : ce ∈ L) (fa : f a = to 2 [.ref ce, .int v1, .int v2]) (fg : f ce = ti q 4096 g) : tf_C l (tf_H D q) d i_Canvas_start [.ref a, .int s] L f 0 0 (fun v L2 f2 => v = none ∧ L2 = L ∧ f2 a = to 2 [.ref ce, .int s, .int (nI n)] ∧ f2 ce = ti q 4096 (tw_fl (kI 0) (n * n) 0 g) ∧ ∀ z, z ≠ a → z ≠ ce → f2 z = f z) := by
  have hca : ce ≠ a := tf_n2 fg fa
  have h4 : n * n ≤ 4096 := Nat.le_trans (Nat.mul_le_mul hn hn) (by decide)
  refine tf_C.of (tf_gok _ _) (by decide) w_702 (Nat.le_of_ble_eq_true rfl) ?_
  refine tf_blk _ b_Canvas_start_0 rfl ?_
  refine tf_put (fs := ?fs_2_6) 5 d_Canvas_start_2 rfl fw_Canvas_15 ?ha_2_6 ?hf_2_6 ?hl_2_6 ?hn_2_6 ?ht_2_6 ?kk_2_6
  case ha_2_6 => first | assumption | (simp only [List.mem_append, List.mem_singleton]; simp [*])
  case hf_2_6 => first | assumption | exact va_up_self _ _ _ | (refine tf_u (by first | assumption | (apply Ne.symm; assumption) | (intro hh; subst hh; contradiction) | exact tf_n1 (by assumption) (by assumption) | exact tf_n2 (by assumption) (by assumption)) ?_; first | assumption | exact va_up_self _ _ _ | (refine tf_u (by first | assumption | (apply Ne.symm; assumption) | (intro hh; subst hh; contradiction) | exact tf_n1 (by assumption) (by assumption) | exact tf_n2 (by assumption) (by assumption)) ?_; first | assumption | exact va_up_self _ _ _ | (refine tf_u (by first | assumption | (apply Ne.symm; assumption) | (intro hh; subst hh; contradiction) | exact tf_n1 (by assumption) (by assumption) | exact tf_n2 (by assumption) (by assumption)) ?_; first | assumption | exact va_up_self _ _ _ | (refine tf_u (by first | assumption | (apply Ne.symm; assumption) | (intro hh; subst hh; contradiction) | exact tf_n1 (by assumption) (by assumption) | exact tf_n2 (by assumption) (by assumption)) ?_; first | assumption | exact va_up_self _ _ _ | (refine tf_u (by first | assumption | (apply Ne.symm; assumption) | (intro hh; subst hh; contradiction) | exact tf_n1 (by assumption) (by assumption) | exact tf_n2 (by assumption) (by assumption)) ?_; first | assumption | exact va_up_self _ _ _)))))
  case hl_2_6 => exact Nat.le_of_ble_eq_true rfl
  case hn_2_6 => rfl
  case ht_2_6 => rfl
  refine tf_blk _ b_Canvas_start_5 rfl ?_
  refine tf_idiv 11 d_Canvas_start_10 rfl (hs) ?_
  refine tf_put (fs := ?fs_11_7) 14 d_Canvas_start_11 rfl fw_Canvas_19 ?ha_11_7 ?hf_11_7 ?hl_11_7 ?hn_11_7 ?ht_11_7 ?kk_11_7
  case ha_11_7 => first | assumption | (simp only [List.mem_append, List.mem_singleton]; simp [*])
  case hf_11_7 => first | assumption | exact va_up_self _ _ _ | (refine tf_u (by first | assumption | (apply Ne.symm; assumption) | (intro hh; subst hh; contradiction) | exact tf_n1 (by assumption) (by assumption) | exact tf_n2 (by assumption) (by assumption)) ?_; first | assumption | exact va_up_self _ _ _ | (refine tf_u (by first | assumption | (apply Ne.symm; assumption) | (intro hh; subst hh; contradiction) | exact tf_n1 (by assumption) (by assumption) | exact tf_n2 (by assumption) (by assumption)) ?_; first | assumption | exact va_up_self _ _ _ | (refine tf_u (by first | assumption | (apply Ne.symm; assumption) | (intro hh; subst hh; contradiction) | exact tf_n1 (by assumption) (by assumption) | exact tf_n2 (by assumption) (by assumption)) ?_; first | assumption | exact va_up_self _ _ _ | (refine tf_u (by first | assumption | (apply Ne.symm; assumption) | (intro hh; subst hh; contradiction) | exact tf_n1 (by assumption) (by assumption) | exact tf_n2 (by assumption) (by assumption)) ?_; first | assumption | exact va_up_self _ _ _ | (refine tf_u (by first | assumption | (apply Ne.symm; assumption) | (intro hh; subst hh; contradiction) | exact tf_n1 (by assumption) (by assumption) | exact tf_n2 (by assumption) (by assumption)) ?_; first | assumption | exact va_up_self _ _ _)))))
  case hl_11_7 => exact Nat.le_of_ble_eq_true rfl
  case hn_11_7 => rfl
  case ht_11_7 => rfl
  rw [he]
  refine tf_blk _ b_Canvas_start_14 rfl ?_
  refine tf_get (fs := ?fs_15_8) (v := ?v_15_8) 18 d_Canvas_start_15 rfl fl_Canvas_11 ?ha_15_8 ?hf_15_8 ?hv_15_8 ?kk_15_8
  case ha_15_8 => first | assumption | (simp only [List.mem_append, List.mem_singleton]; simp [*])
  case hf_15_8 => first | assumption | exact va_up_self _ _ _ | (refine tf_u (by first | assumption | (apply Ne.symm; assumption) | (intro hh; subst hh; contradiction) | exact tf_n1 (by assumption) (by assumption) | exact tf_n2 (by assumption) (by assumption)) ?_; first | assumption | exact va_up_self _ _ _ | (refine tf_u (by first | assumption | (apply Ne.symm; assumption) | (intro hh; subst hh; contradiction) | exact tf_n1 (by assumption) (by assumption) | exact tf_n2 (by assumption) (by assumption)) ?_; first | assumption | exact va_up_self _ _ _ | (refine tf_u (by first | assumption | (apply Ne.symm; assumption) | (intro hh; subst hh; contradiction) | exact tf_n1 (by assumption) (by assumption) | exact tf_n2 (by assumption) (by assumption)) ?_; first | assumption | exact va_up_self _ _ _ | (refine tf_u (by first | assumption | (apply Ne.symm; assumption) | (intro hh; subst hh; contradiction) | exact tf_n1 (by assumption) (by assumption) | exact tf_n2 (by assumption) (by assumption)) ?_; first | assumption | exact va_up_self _ _ _ | (refine tf_u (by first | assumption | (apply Ne.symm; assumption) | (intro hh; subst hh; contradiction) | exact tf_n1 (by assumption) (by assumption) | exact tf_n2 (by assumption) (by assumption)) ?_; first | assumption | exact va_up_self _ _ _)))))
  case hv_15_8 => rfl
  refine tf_blk _ b_Canvas_start_18 rfl ?_
  refine tf_get (fs := ?fs_20_9) (v := ?v_20_9) 23 d_Canvas_start_20 rfl fl_Canvas_19 ?ha_20_9 ?hf_20_9 ?hv_20_9 ?kk_20_9
  case ha_20_9 => first | assumption | (simp only [List.mem_append, List.mem_singleton]; simp [*])
  case hf_20_9 => first | assumption | exact va_up_self _ _ _ | (refine tf_u (by first | assumption | (apply Ne.symm; assumption) | (intro hh; subst hh; contradiction) | exact tf_n1 (by assumption) (by assumption) | exact tf_n2 (by assumption) (by assumption)) ?_; first | assumption | exact va_up_self _ _ _ | (refine tf_u (by first | assumption | (apply Ne.symm; assumption) | (intro hh; subst hh; contradiction) | exact tf_n1 (by assumption) (by assumption) | exact tf_n2 (by assumption) (by assumption)) ?_; first | assumption | exact va_up_self _ _ _ | (refine tf_u (by first | assumption | (apply Ne.symm; assumption) | (intro hh; subst hh; contradiction) | exact tf_n1 (by assumption) (by assumption) | exact tf_n2 (by assumption) (by assumption)) ?_; first | assumption | exact va_up_self _ _ _ | (refine tf_u (by first | assumption | (apply Ne.symm; assumption) | (intro hh; subst hh; contradiction) | exact tf_n1 (by assumption) (by assumption) | exact tf_n2 (by assumption) (by assumption)) ?_; first | assumption | exact va_up_self _ _ _ | (refine tf_u (by first | assumption | (apply Ne.symm; assumption) | (intro hh; subst hh; contradiction) | exact tf_n1 (by assumption) (by assumption) | exact tf_n2 (by assumption) (by assumption)) ?_; first | assumption | exact va_up_self _ _ _)))))
  case hv_20_9 => rfl
  refine tf_blk _ b_Canvas_start_23 rfl ?_
  refine tf_get (fs := ?fs_24_10) (v := ?v_24_10) 27 d_Canvas_start_24 rfl fl_Canvas_19 ?ha_24_10 ?hf_24_10 ?hv_24_10 ?kk_24_10
  case ha_24_10 => first | assumption | (simp only [List.mem_append, List.mem_singleton]; simp [*])
  case hf_24_10 => first | assumption | exact va_up_self _ _ _ | (refine tf_u (by first | assumption | (apply Ne.symm; assumption) | (intro hh; subst hh; contradiction) | exact tf_n1 (by assumption) (by assumption) | exact tf_n2 (by assumption) (by assumption)) ?_; first | assumption | exact va_up_self _ _ _ | (refine tf_u (by first | assumption | (apply Ne.symm; assumption) | (intro hh; subst hh; contradiction) | exact tf_n1 (by assumption) (by assumption) | exact tf_n2 (by assumption) (by assumption)) ?_; first | assumption | exact va_up_self _ _ _ | (refine tf_u (by first | assumption | (apply Ne.symm; assumption) | (intro hh; subst hh; contradiction) | exact tf_n1 (by assumption) (by assumption) | exact tf_n2 (by assumption) (by assumption)) ?_; first | assumption | exact va_up_self _ _ _ | (refine tf_u (by first | assumption | (apply Ne.symm; assumption) | (intro hh; subst hh; contradiction) | exact tf_n1 (by assumption) (by assumption) | exact tf_n2 (by assumption) (by assumption)) ?_; first | assumption | exact va_up_self _ _ _ | (refine tf_u (by first | assumption | (apply Ne.symm; assumption) | (intro hh; subst hh; contradiction) | exact tf_n1 (by assumption) (by assumption) | exact tf_n2 (by assumption) (by assumption)) ?_; first | assumption | exact va_up_self _ _ _)))))
  case hv_24_10 => rfl
  refine tf_blk _ b_Canvas_start_27 rfl ?_
  rw [nI_mul]
  refine tf_cS (tf_gok _ _) (c_Arrays_fill l D q (d - 1) _ _ (by omega) (kI 0) h4 (by decide) hce ((va_up_ne _ _ hca).trans ((va_up_ne _ _ hca).trans fg))) 32 d_Canvas_start_29 rfl lk_Canvas_22 cw_Arrays_fill (by rfl) sa_Arrays_fill (by omega) (by exact Nat.le_of_ble_eq_true rfl) rfl ?_
  rintro v29 L29 f29 ⟨rfl, rfl, k1, k2⟩
  refine tf_vret d_Canvas_start_32 rfl ?_
  exact ⟨rfl, rfl, (k2 a (Ne.symm hca)).trans (va_up_self _ _ _), k1, fun z h8 h9 => (k2 z h9).trans ((va_up_ne _ _ h8).trans (va_up_ne _ _ h8))⟩
end
