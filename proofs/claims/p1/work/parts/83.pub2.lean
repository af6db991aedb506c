/-! public methods over the class's world: instance, pixel, count, shape -/
section
variable (l : Launch) (D : va_G) (q : Nat → ClassId) (d : Nat) (L : List Nat) (f : tf_F)
end
def tc_po (q : Nat → ClassId) (ad : Nat → Nat) (B : Nat → Prop) (L : List Nat) (f : tf_F) (a : Int32) (S2 : tc_S) : tf_O := fun v L2 f2 => v = some (.int a) ∧ L2 = L ∧ tc_at q ad S2 B L f2 ∧ ∀ z, B z → f2 z = f z
theorem tw_inI {i n : Nat} (hn : n ≤ 64) (hi : i < n) : tw_in (nI i) (kI 0) (nI n - kI 1) = true := by
  unfold tw_in
  rw [nI_sub1 (by omega), Bool.and_eq_true, decide_eq_true_eq, decide_eq_true_eq]
  exact ⟨Int32.not_lt.mp (nI_pos (by omega)), nI_le (by omega) (by omega)⟩
theorem tc_find_r {ad : Nat → Nat} {n i : Nat} (hn : n ≤ 40) (hi : i < n) : tw_find n (tc_ga ad n) (nI i) = some (ad (tc_k i 0)) := by
  unfold tw_find
  rw [if_pos (tw_inI (by omega) hi), nI_clamp (by omega), tc_ga, if_pos hi]
theorem tc_find_n {ad : Nat → Nat} {n : Nat} {k : Int32} (hn : n ≤ 40) (hk : ∀ i, i < n → k ≠ nI i) : tw_find n (tc_ga ad n) k = none := by
  unfold tw_find
  split
  · rename_i h
    obtain ⟨r, hr, e⟩ := tw_inN (by omega) h
    exact absurd e (hk r hr)
  · rfl
def tc_inst (x y : Int32) (S : tc_S) : Int32 × tc_S := if tw_in x (kI 0) (kI 1024) = true ∧ tw_in y (kI 0) (kI 1024) = true then (kI 1, (tc_S_mk S.mm (x) (y) S.n S.T S.oc S.op S.oA S.pz S.px S.py S.hn S.hy S.cs S.ca S.ce S.kp S.kl S.kr S.kc S.kL S.kR S.kO S.row S.rs S.ts S.rn S.pu S.tx S.R)) else (kI 0, S)
/-- a height can be told -/
abbrev tc_hok (y : Int32) (S : tc_S) : Prop := S.hn < 8 ∧ ¬ (tw_hat S.hy y S.hn 0 < S.hn ∧ S.hy (tw_hat S.hy y S.hn 0) = y)
def tc_height (y : Int32) (S : tc_S) : Int32 × tc_S := if tw_in y (kI (-2000)) (kI 4000) = true ∧ tc_hok y S then (kI 1, (tc_S_mk S.mm S.u S.w S.n S.T S.oc S.op S.oA S.pz S.px S.py (S.hn + 1) (upd (tw_up1 S.hy (S.hn - tw_hat S.hy y S.hn 0) S.hn) (tw_hat S.hy y S.hn 0) y) S.cs S.ca S.ce S.kp S.kl S.kr S.kc S.kL S.kR S.kO S.row S.rs S.ts S.rn S.pu S.tx S.R)) else (kI 0, S)
def tc_kern (x y b : Int32) (S : tc_S) : Int32 × tc_S := if tw_in x (kI 1) (kI 15) = true ∧ tw_in y (kI 1) (kI 15) = true ∧ tw_isKern b = true then (kI 1, (tc_S_mk S.mm S.u S.w S.n S.T S.oc S.op S.oA S.pz S.px S.py S.hn S.hy S.cs S.ca S.ce S.kp S.kl S.kr (upd S.kc (x * kI 16 + y).toNatClampNeg b) S.kL S.kR S.kO S.row S.rs S.ts S.rn S.pu S.tx S.R)) else (kI 0, S)
/-- what sort does where there is such a glyph -/
def tc_sort (s t : Int32) (i : Nat) (S : tc_S) : Int32 × tc_S := if tw_in s (kI 0) (kI 1) = true ∧ tw_in t (kI 0) (kI 15) = true then (kI 1, if s = 0 then (tc_S_mk S.mm S.u S.w S.n S.T S.oc S.op S.oA S.pz S.px S.py S.hn S.hy S.cs S.ca S.ce S.kp (upd S.kl i t) S.kr S.kc S.kL S.kR S.kO S.row S.rs S.ts S.rn S.pu S.tx S.R) else (tc_S_mk S.mm S.u S.w S.n S.T S.oc S.op S.oA S.pz S.px S.py S.hn S.hy S.cs S.ca S.ce S.kp S.kl (upd S.kr i t) S.kc S.kL S.kR S.kO S.row S.rs S.ts S.rn S.pu S.tx S.R)) else (kI 0, S)
def tc_pairAt (i j : Nat) (S : tc_S) : Nat := tw_pf S.kL S.kR (nI i) (nI j) S.kp 0
def tc_pair (i j : Nat) (b : Int32) (S : tc_S) : Int32 × tc_S := if tw_isKern b = true ∧ tc_pairAt i j S < 40 then (kI 1, (tc_S_mk S.mm S.u S.w S.n S.T S.oc S.op S.oA S.pz S.px S.py S.hn S.hy S.cs S.ca S.ce (max S.kp (tc_pairAt i j S + 1)) S.kl S.kr S.kc (upd S.kL (tc_pairAt i j S) (nI i)) (upd S.kR (tc_pairAt i j S) (nI j)) (upd S.kO (tc_pairAt i j S) b) S.row S.rs S.ts S.rn S.pu S.tx S.R)) else (kI 0, S)
def tc_type (i : Nat) (S : tc_S) : Int32 × tc_S := if S.ts < 60 then (kI 1, (tc_S_mk S.mm S.u S.w S.n S.T S.oc S.op S.oA S.pz S.px S.py S.hn S.hy S.cs S.ca S.ce S.kp S.kl S.kr S.kc S.kL S.kR S.kO S.row S.rs (S.ts + 1) S.rn S.pu (upd S.tx S.ts (nI i)) S.R)) else (kI 0, S)
def tc_rows (S : tc_S) : tw_RW := tw_rows S.R S.rn 8 0 (va_cpy S.tx S.row 0 0 S.ts, S.ts, kI 0)
def tc_shape (S : tc_S) : Int32 × tc_S := (nI (tc_rows S).2.1, (tc_S_mk S.mm S.u S.w S.n S.T S.oc S.op S.oA S.pz S.px S.py S.hn S.hy S.cs S.ca S.ce S.kp S.kl S.kr S.kc S.kL S.kR S.kO ((tc_rows S).1) ((tc_rows S).2.1) (0) S.rn ((tc_rows S).2.2) S.tx S.R))
def tc_count (w : Int32) (S : tc_S) : Int32 := if w = kI 0 then nI S.n else if w = kI 1 then nI S.rn else if w = kI 2 then nI S.hn else if w = kI 3 then nI S.ts else if w = kI 4 then nI S.rs else if w = kI 5 then nI S.kp else if w = kI 6 then S.pu else kI (-1)
def tc_pixel (i j : Int32) (S : tc_S) : Int32 := if tw_in i (kI 0) (nI S.ca - kI 1) = true ∧ tw_in j (kI 0) (nI S.ca - kI 1) = true then S.ce (j * nI S.ca + i).toNatClampNeg else kI (-1)
def tc_close (i : Nat) (S : tc_S) : Int32 × tc_S := if (S.T i).lk = false ∧ (S.T i).cp + 3 ≤ (S.T i).pt then (kI 1, (tc_S_mk S.mm S.u S.w S.n (va_up S.T i (tc_G_mk (S.T i).X (S.T i).Y (S.T i).W (S.T i).O (upd (S.T i).E (S.T i).ct (nI (S.T i).pt)) (S.T i).pt ((S.T i).ct + 1) (S.T i).dp (S.T i).lk ((S.T i).pt) (S.T i).pc (S.T i).pp (S.T i).ps (S.T i).src (S.T i).dx (S.T i).dy (S.T i).tu)) S.oc S.op S.oA S.pz S.px S.py S.hn S.hy S.cs S.ca S.ce S.kp S.kl S.kr S.kc S.kL S.kR S.kO S.row S.rs S.ts S.rn S.pu S.tx S.R)) else (kI 0, S)
def tc_adv (i : Nat) (m w : Int32) (S : tc_S) : Int32 × tc_S := if tw_in m (kI 0) (nI S.mm - kI 1) = true ∧ tw_in w (kI 0) (kI 4000) = true then (kI 1, (tc_S_mk S.mm S.u S.w S.n (va_up S.T i (tc_G_mk (S.T i).X (S.T i).Y (upd (S.T i).W m.toNatClampNeg w) (S.T i).O (S.T i).E (S.T i).pt (S.T i).ct (S.T i).dp (S.T i).lk (S.T i).cp (S.T i).pc (S.T i).pp (S.T i).ps (S.T i).src (S.T i).dx (S.T i).dy (S.T i).tu)) S.oc S.op S.oA S.pz S.px S.py S.hn S.hy S.cs S.ca S.ce S.kp S.kl S.kr S.kc S.kL S.kR S.kO S.row S.rs S.ts S.rn S.pu S.tx S.R)) else (kI 0, S)
section
variable (l : Launch) (D : va_G) (q : Nat → ClassId) (d : Nat) (L : List Nat) (f : tf_F)
theorem c_find_r (hd : 1 ≤ d) {ad : Nat → Nat} {S : tc_S} {B : Nat → Prop} (h : tc_at q ad S B L f) (hn : S.n ≤ 40) {i : Nat} (hi : i < S.n) : tf_C l (tf_H D q) d i_Tf_find [.ref (ad 0), .int (nI i)] L f 0 0 (tf_rd (.ref (ad (tc_k i 0))) L f) := by
  have h9 := c_Tf_find l D q d L f hd (tc_c0 h).1 (tc_c2 h).1 hn (tc_c0 h).2 (tc_c2 h).2 (nI i)
  rw [tc_find_r hn hi] at h9
  exact h9
theorem c_find_n (hd : 1 ≤ d) {ad : Nat → Nat} {S : tc_S} {B : Nat → Prop} (h : tc_at q ad S B L f) (hn : S.n ≤ 40) {k : Int32} (hk : ∀ i, i < S.n → k ≠ nI i) : tf_C l (tf_H D q) d i_Tf_find [.ref (ad 0), .int k] L f 0 0 (tf_rd .null L f) := by
  have h9 := c_Tf_find l D q d L f hd (tc_c0 h).1 (tc_c2 h).1 hn (tc_c0 h).2 (tc_c2 h).2 k
  rw [tc_find_n hn hk] at h9
  exact h9
set_option maxHeartbeats 4000000 in
set_option maxRecDepth 100000 in
theorem c_Tf_instance (hd : 2 ≤ d) {ad : Nat → Nat} {S : tc_S} {B : Nat → Prop} (h : tc_at q ad S B L f) (x y : Int32) : tf_C l (tf_H D q) d i_Tf_instance [.ref (ad 0), .int x, .int y] L f 0 0 (tc_po q ad B L f (tc_inst x y S).1 (tc_inst x y S).2) := by
  obtain ⟨hx, fx⟩ := tc_c0 h
  obtain ⟨hb, fb⟩ := tc_c1 h
  refine tf_C.of (tf_gok _ _) (by decide) w_261 (Nat.le_of_ble_eq_true rfl) ?_
  refine tf_blk _ b_Tf_instance_0 rfl ?_
  refine tf_cS (tf_gok _ _) (c_Tf_within l D q (d - 1) _ _ _ _ _) 8 d_Tf_instance_5 rfl lk_Tf_111 cw_Tf_within (by rfl) sa_Tf_within (by omega) (by exact Nat.le_of_ble_eq_true rfl) rfl ?_
  rintro v5 L5 f5 ⟨rfl, rfl, rfl⟩
  refine tf_if_eq 22 11 d_Tf_instance_8 rfl rfl (fun h8 => ?_) (fun h8 => ?_)
  · refine tf_blk _ b_Tf_instance_22 rfl ?_
    refine tf_zret d_Tf_instance_23 rfl (rfl) ?_
    have e9 : tc_inst x y S = (kI 0, S) := by
      simp only [bI_eq0, Bool.not_eq_false] at h8
      simp [tc_inst, h8, ]
    rw [e9]
    exact ⟨rfl, rfl, h, fun _ _ => rfl⟩
  · refine tf_blk _ b_Tf_instance_11 rfl ?_
    refine tf_cS (tf_gok _ _) (c_Tf_within l D q (d - 1) _ _ _ _ _) 19 d_Tf_instance_16 rfl lk_Tf_111 cw_Tf_within (by rfl) sa_Tf_within (by omega) (by exact Nat.le_of_ble_eq_true rfl) rfl ?_
    rintro v16 L16 f16 ⟨rfl, rfl, rfl⟩
    refine tf_if_ne 24 22 d_Tf_instance_19 rfl rfl (fun h19 => ?_) (fun h19 => ?_)
    · refine tf_blk _ b_Tf_instance_24 rfl ?_
      refine tf_get (fs := ?fs_25_4) (v := ?v_25_4) 28 d_Tf_instance_25 rfl fl_Tf_14 ?ha_25_4 ?hf_25_4 ?hv_25_4 ?kk_25_4
      case ha_25_4 => first | assumption | (simp only [List.mem_append, List.mem_singleton]; simp [*])
      case hf_25_4 => first | assumption | exact va_up_self _ _ _ | (refine tf_u (by first | assumption | (apply Ne.symm; assumption) | (intro hh; subst hh; contradiction) | exact tf_n1 (by assumption) (by assumption) | exact tf_n2 (by assumption) (by assumption)) ?_; first | assumption | exact va_up_self _ _ _ | (refine tf_u (by first | assumption | (apply Ne.symm; assumption) | (intro hh; subst hh; contradiction) | exact tf_n1 (by assumption) (by assumption) | exact tf_n2 (by assumption) (by assumption)) ?_; first | assumption | exact va_up_self _ _ _ | (refine tf_u (by first | assumption | (apply Ne.symm; assumption) | (intro hh; subst hh; contradiction) | exact tf_n1 (by assumption) (by assumption) | exact tf_n2 (by assumption) (by assumption)) ?_; first | assumption | exact va_up_self _ _ _ | (refine tf_u (by first | assumption | (apply Ne.symm; assumption) | (intro hh; subst hh; contradiction) | exact tf_n1 (by assumption) (by assumption) | exact tf_n2 (by assumption) (by assumption)) ?_; first | assumption | exact va_up_self _ _ _ | (refine tf_u (by first | assumption | (apply Ne.symm; assumption) | (intro hh; subst hh; contradiction) | exact tf_n1 (by assumption) (by assumption) | exact tf_n2 (by assumption) (by assumption)) ?_; first | assumption | exact va_up_self _ _ _)))))
      case hv_25_4 => rfl
      refine tf_blk _ b_Tf_instance_28 rfl ?_
      refine tf_cV (tf_gok _ _) (c_Blend_set l D q (d - 1) _ _ hb fb _ _) 33 d_Tf_instance_30 rfl lk_Tf_154 cw_Blend_set (by rfl) in_Blend_set se_Blend_set (by first | assumption | (simp only [List.mem_append, List.mem_singleton]; simp [*])) (by first | assumption | exact va_up_self _ _ _ | (refine tf_u (by first | assumption | (apply Ne.symm; assumption) | (intro hh; subst hh; contradiction) | exact tf_n1 (by assumption) (by assumption) | exact tf_n2 (by assumption) (by assumption)) ?_; first | assumption | exact va_up_self _ _ _ | (refine tf_u (by first | assumption | (apply Ne.symm; assumption) | (intro hh; subst hh; contradiction) | exact tf_n1 (by assumption) (by assumption) | exact tf_n2 (by assumption) (by assumption)) ?_; first | assumption | exact va_up_self _ _ _ | (refine tf_u (by first | assumption | (apply Ne.symm; assumption) | (intro hh; subst hh; contradiction) | exact tf_n1 (by assumption) (by assumption) | exact tf_n2 (by assumption) (by assumption)) ?_; first | assumption | exact va_up_self _ _ _ | (refine tf_u (by first | assumption | (apply Ne.symm; assumption) | (intro hh; subst hh; contradiction) | exact tf_n1 (by assumption) (by assumption) | exact tf_n2 (by assumption) (by assumption)) ?_; first | assumption | exact va_up_self _ _ _ | (refine tf_u (by first | assumption | (apply Ne.symm; assumption) | (intro hh; subst hh; contradiction) | exact tf_n1 (by assumption) (by assumption) | exact tf_n2 (by assumption) (by assumption)) ?_; first | assumption | exact va_up_self _ _ _)))))) (by rfl) (by rfl) (by omega) (by exact Nat.le_of_ble_eq_true rfl) rfl ?_
      rintro v30 L30 f30 ⟨rfl, rfl, rfl⟩
      refine tf_blk _ b_Tf_instance_33 rfl ?_
      refine tf_zret d_Tf_instance_34 rfl (rfl) ?_
      have e9 : tc_inst x y S = (kI 1, (tc_S_mk S.mm (x) (y) S.n S.T S.oc S.op S.oA S.pz S.px S.py S.hn S.hy S.cs S.ca S.ce S.kp S.kl S.kr S.kc S.kL S.kR S.kO S.row S.rs S.ts S.rn S.pu S.tx S.R)) := if_pos ⟨bI_t h8, bI_t h19⟩
      rw [e9]
      exact ⟨rfl, rfl, tc_goF (S2 := (tc_S_mk S.mm (x) (y) S.n S.T S.oc S.op S.oA S.pz S.px S.py S.hn S.hy S.cs S.ca S.ce S.kp S.kl S.kr S.kc S.kL S.kR S.kO S.row S.rs S.ts S.rn S.pu S.tx S.R)) h [(1, to 1 [.int (nI S.mm), .int x, .int y])] (by simp) rfl rfl rfl rfl rfl rfl⟩
    · refine tf_blk _ b_Tf_instance_22 rfl ?_
      refine tf_zret d_Tf_instance_23 rfl (rfl) ?_
      have e9 : tc_inst x y S = (kI 0, S) := by
        simp only [bI_eq0, Bool.not_eq_false] at h8 h19
        simp [tc_inst, h8, h19, ]
      rw [e9]
      exact ⟨rfl, rfl, h, fun _ _ => rfl⟩
set_option maxHeartbeats 4000000 in
set_option maxRecDepth 100000 in
theorem c_Tf_pixel (hd : 2 ≤ d) {ad : Nat → Nat} {S : tc_S} {B : Nat → Prop} (h : tc_at q ad S B L f) (i j : Int32) (hv : tw_in i (kI 0) (nI S.ca - kI 1) = true → tw_in j (kI 0) (nI S.ca - kI 1) = true → vp_in (j * nI S.ca + i) 4096) : tf_C l (tf_H D q) d i_Tf_pixel [.ref (ad 0), .int i, .int j] L f 0 0 (tf_rd (.int (tc_pixel i j S)) L f) := by
  obtain ⟨hx, fx⟩ := tc_c0 h
  obtain ⟨hc, fc⟩ := tc_c14 h
  obtain ⟨he, fe⟩ := tc_c15 h
  refine tf_C.of (tf_gok _ _) (by decide) w_277 (Nat.le_of_ble_eq_true rfl) ?_
  refine tf_blk _ b_Tf_pixel_0 rfl ?_
  refine tf_get (fs := ?fs_1_8) (v := ?v_1_8) 4 d_Tf_pixel_1 rfl fl_Tf_48 ?ha_1_8 ?hf_1_8 ?hv_1_8 ?kk_1_8
  case ha_1_8 => first | assumption | (simp only [List.mem_append, List.mem_singleton]; simp [*])
  case hf_1_8 => first | assumption | exact va_up_self _ _ _ | (refine tf_u (by first | assumption | (apply Ne.symm; assumption) | (intro hh; subst hh; contradiction) | exact tf_n1 (by assumption) (by assumption) | exact tf_n2 (by assumption) (by assumption)) ?_; first | assumption | exact va_up_self _ _ _ | (refine tf_u (by first | assumption | (apply Ne.symm; assumption) | (intro hh; subst hh; contradiction) | exact tf_n1 (by assumption) (by assumption) | exact tf_n2 (by assumption) (by assumption)) ?_; first | assumption | exact va_up_self _ _ _ | (refine tf_u (by first | assumption | (apply Ne.symm; assumption) | (intro hh; subst hh; contradiction) | exact tf_n1 (by assumption) (by assumption) | exact tf_n2 (by assumption) (by assumption)) ?_; first | assumption | exact va_up_self _ _ _ | (refine tf_u (by first | assumption | (apply Ne.symm; assumption) | (intro hh; subst hh; contradiction) | exact tf_n1 (by assumption) (by assumption) | exact tf_n2 (by assumption) (by assumption)) ?_; first | assumption | exact va_up_self _ _ _ | (refine tf_u (by first | assumption | (apply Ne.symm; assumption) | (intro hh; subst hh; contradiction) | exact tf_n1 (by assumption) (by assumption) | exact tf_n2 (by assumption) (by assumption)) ?_; first | assumption | exact va_up_self _ _ _)))))
  case hv_1_8 => rfl
  refine tf_blk _ b_Tf_pixel_4 rfl ?_
  refine tf_cV (tf_gok _ _) (c_Canvas_greyAt l D q (d - 1) _ _ (by omega) hc fc i j he fe hv) 9 d_Tf_pixel_6 rfl lk_Tf_205 cw_Canvas_greyAt (by rfl) in_Canvas_greyAt se_Canvas_greyAt (by first | assumption | (simp only [List.mem_append, List.mem_singleton]; simp [*])) (by first | assumption | exact va_up_self _ _ _ | (refine tf_u (by first | assumption | (apply Ne.symm; assumption) | (intro hh; subst hh; contradiction) | exact tf_n1 (by assumption) (by assumption) | exact tf_n2 (by assumption) (by assumption)) ?_; first | assumption | exact va_up_self _ _ _ | (refine tf_u (by first | assumption | (apply Ne.symm; assumption) | (intro hh; subst hh; contradiction) | exact tf_n1 (by assumption) (by assumption) | exact tf_n2 (by assumption) (by assumption)) ?_; first | assumption | exact va_up_self _ _ _ | (refine tf_u (by first | assumption | (apply Ne.symm; assumption) | (intro hh; subst hh; contradiction) | exact tf_n1 (by assumption) (by assumption) | exact tf_n2 (by assumption) (by assumption)) ?_; first | assumption | exact va_up_self _ _ _ | (refine tf_u (by first | assumption | (apply Ne.symm; assumption) | (intro hh; subst hh; contradiction) | exact tf_n1 (by assumption) (by assumption) | exact tf_n2 (by assumption) (by assumption)) ?_; first | assumption | exact va_up_self _ _ _ | (refine tf_u (by first | assumption | (apply Ne.symm; assumption) | (intro hh; subst hh; contradiction) | exact tf_n1 (by assumption) (by assumption) | exact tf_n2 (by assumption) (by assumption)) ?_; first | assumption | exact va_up_self _ _ _)))))) (by rfl) (by rfl) (by omega) (by exact Nat.le_of_ble_eq_true rfl) rfl ?_
  rintro v6 L6 f6 ⟨rfl, rfl, rfl⟩
  refine tf_iret d_Tf_pixel_9 rfl ?_
  exact ⟨rfl, rfl, rfl⟩
set_option maxHeartbeats 4000000 in
set_option maxRecDepth 100000 in
theorem c_Tf_count {ad : Nat → Nat} {S : tc_S} {B : Nat → Prop} (h : tc_at q ad S B L f) (w : Int32) : tf_C l (tf_H D q) d i_Tf_count [.ref (ad 0), .int w] L f 0 0 (tf_rd (.int (tc_count w S)) L f) := by
  obtain ⟨hx, fx⟩ := tc_c0 h
  obtain ⟨h2, f2⟩ := tc_c12 h
  obtain ⟨h3, f3⟩ := tc_c16 h
  obtain ⟨h4, f4⟩ := tc_c23 h
  refine tf_C.of (tf_gok _ _) (by decide) w_366 (Nat.le_of_ble_eq_true rfl) ?_
  refine tf_blk _ b_Tf_count_0 rfl ?_
  by_cases s1_0 : w = kI 0
  · refine tf_tabIn 44 d_Tf_count_1 (by rw [s1_0]; decide) (by rw [s1_0]; decide) (by rw [s1_0]; rfl) rfl ?_
    refine tf_blk _ b_Tf_count_44 rfl ?_
    refine tf_get (fs := ?fs_45_12) (v := ?v_45_12) 48 d_Tf_count_45 rfl fl_Tf_66 ?ha_45_12 ?hf_45_12 ?hv_45_12 ?kk_45_12
    case ha_45_12 => first | assumption | (simp only [List.mem_append, List.mem_singleton]; simp [*])
    case hf_45_12 => first | assumption | exact va_up_self _ _ _ | (refine tf_u (by first | assumption | (apply Ne.symm; assumption) | (intro hh; subst hh; contradiction) | exact tf_n1 (by assumption) (by assumption) | exact tf_n2 (by assumption) (by assumption)) ?_; first | assumption | exact va_up_self _ _ _ | (refine tf_u (by first | assumption | (apply Ne.symm; assumption) | (intro hh; subst hh; contradiction) | exact tf_n1 (by assumption) (by assumption) | exact tf_n2 (by assumption) (by assumption)) ?_; first | assumption | exact va_up_self _ _ _ | (refine tf_u (by first | assumption | (apply Ne.symm; assumption) | (intro hh; subst hh; contradiction) | exact tf_n1 (by assumption) (by assumption) | exact tf_n2 (by assumption) (by assumption)) ?_; first | assumption | exact va_up_self _ _ _ | (refine tf_u (by first | assumption | (apply Ne.symm; assumption) | (intro hh; subst hh; contradiction) | exact tf_n1 (by assumption) (by assumption) | exact tf_n2 (by assumption) (by assumption)) ?_; first | assumption | exact va_up_self _ _ _ | (refine tf_u (by first | assumption | (apply Ne.symm; assumption) | (intro hh; subst hh; contradiction) | exact tf_n1 (by assumption) (by assumption) | exact tf_n2 (by assumption) (by assumption)) ?_; first | assumption | exact va_up_self _ _ _)))))
    case hv_45_12 => rfl
    refine tf_iret d_Tf_count_48 rfl ?_
    exact ⟨by (simp only [tc_count, s1_0, if_true, if_false]; try rfl), rfl, rfl⟩
  by_cases s1_1 : w = kI 1
  · refine tf_tabIn 49 d_Tf_count_1 (by rw [s1_1]; decide) (by rw [s1_1]; decide) (by rw [s1_1]; rfl) rfl ?_
    refine tf_blk _ b_Tf_count_49 rfl ?_
    refine tf_get (fs := ?fs_50_14) (v := ?v_50_14) 53 d_Tf_count_50 rfl fl_Tf_62 ?ha_50_14 ?hf_50_14 ?hv_50_14 ?kk_50_14
    case ha_50_14 => first | assumption | (simp only [List.mem_append, List.mem_singleton]; simp [*])
    case hf_50_14 => first | assumption | exact va_up_self _ _ _ | (refine tf_u (by first | assumption | (apply Ne.symm; assumption) | (intro hh; subst hh; contradiction) | exact tf_n1 (by assumption) (by assumption) | exact tf_n2 (by assumption) (by assumption)) ?_; first | assumption | exact va_up_self _ _ _ | (refine tf_u (by first | assumption | (apply Ne.symm; assumption) | (intro hh; subst hh; contradiction) | exact tf_n1 (by assumption) (by assumption) | exact tf_n2 (by assumption) (by assumption)) ?_; first | assumption | exact va_up_self _ _ _ | (refine tf_u (by first | assumption | (apply Ne.symm; assumption) | (intro hh; subst hh; contradiction) | exact tf_n1 (by assumption) (by assumption) | exact tf_n2 (by assumption) (by assumption)) ?_; first | assumption | exact va_up_self _ _ _ | (refine tf_u (by first | assumption | (apply Ne.symm; assumption) | (intro hh; subst hh; contradiction) | exact tf_n1 (by assumption) (by assumption) | exact tf_n2 (by assumption) (by assumption)) ?_; first | assumption | exact va_up_self _ _ _ | (refine tf_u (by first | assumption | (apply Ne.symm; assumption) | (intro hh; subst hh; contradiction) | exact tf_n1 (by assumption) (by assumption) | exact tf_n2 (by assumption) (by assumption)) ?_; first | assumption | exact va_up_self _ _ _)))))
    case hv_50_14 => rfl
    refine tf_get (fs := ?fs_53_15) (v := ?v_53_15) 56 d_Tf_count_53 rfl fl_Tf_231 ?ha_53_15 ?hf_53_15 ?hv_53_15 ?kk_53_15
    case ha_53_15 => first | assumption | (simp only [List.mem_append, List.mem_singleton]; simp [*])
    case hf_53_15 => first | assumption | exact va_up_self _ _ _ | (refine tf_u (by first | assumption | (apply Ne.symm; assumption) | (intro hh; subst hh; contradiction) | exact tf_n1 (by assumption) (by assumption) | exact tf_n2 (by assumption) (by assumption)) ?_; first | assumption | exact va_up_self _ _ _ | (refine tf_u (by first | assumption | (apply Ne.symm; assumption) | (intro hh; subst hh; contradiction) | exact tf_n1 (by assumption) (by assumption) | exact tf_n2 (by assumption) (by assumption)) ?_; first | assumption | exact va_up_self _ _ _ | (refine tf_u (by first | assumption | (apply Ne.symm; assumption) | (intro hh; subst hh; contradiction) | exact tf_n1 (by assumption) (by assumption) | exact tf_n2 (by assumption) (by assumption)) ?_; first | assumption | exact va_up_self _ _ _ | (refine tf_u (by first | assumption | (apply Ne.symm; assumption) | (intro hh; subst hh; contradiction) | exact tf_n1 (by assumption) (by assumption) | exact tf_n2 (by assumption) (by assumption)) ?_; first | assumption | exact va_up_self _ _ _ | (refine tf_u (by first | assumption | (apply Ne.symm; assumption) | (intro hh; subst hh; contradiction) | exact tf_n1 (by assumption) (by assumption) | exact tf_n2 (by assumption) (by assumption)) ?_; first | assumption | exact va_up_self _ _ _)))))
    case hv_53_15 => rfl
    refine tf_iret d_Tf_count_56 rfl ?_
    exact ⟨by (simp only [tc_count, s1_0, s1_1, if_true, if_false]; try rfl), rfl, rfl⟩
  by_cases s1_2 : w = kI 2
  · refine tf_tabIn 57 d_Tf_count_1 (by rw [s1_2]; decide) (by rw [s1_2]; decide) (by rw [s1_2]; rfl) rfl ?_
    refine tf_blk _ b_Tf_count_57 rfl ?_
    refine tf_get (fs := ?fs_58_17) (v := ?v_58_17) 61 d_Tf_count_58 rfl fl_Tf_41 ?ha_58_17 ?hf_58_17 ?hv_58_17 ?kk_58_17
    case ha_58_17 => first | assumption | (simp only [List.mem_append, List.mem_singleton]; simp [*])
    case hf_58_17 => first | assumption | exact va_up_self _ _ _ | (refine tf_u (by first | assumption | (apply Ne.symm; assumption) | (intro hh; subst hh; contradiction) | exact tf_n1 (by assumption) (by assumption) | exact tf_n2 (by assumption) (by assumption)) ?_; first | assumption | exact va_up_self _ _ _ | (refine tf_u (by first | assumption | (apply Ne.symm; assumption) | (intro hh; subst hh; contradiction) | exact tf_n1 (by assumption) (by assumption) | exact tf_n2 (by assumption) (by assumption)) ?_; first | assumption | exact va_up_self _ _ _ | (refine tf_u (by first | assumption | (apply Ne.symm; assumption) | (intro hh; subst hh; contradiction) | exact tf_n1 (by assumption) (by assumption) | exact tf_n2 (by assumption) (by assumption)) ?_; first | assumption | exact va_up_self _ _ _ | (refine tf_u (by first | assumption | (apply Ne.symm; assumption) | (intro hh; subst hh; contradiction) | exact tf_n1 (by assumption) (by assumption) | exact tf_n2 (by assumption) (by assumption)) ?_; first | assumption | exact va_up_self _ _ _ | (refine tf_u (by first | assumption | (apply Ne.symm; assumption) | (intro hh; subst hh; contradiction) | exact tf_n1 (by assumption) (by assumption) | exact tf_n2 (by assumption) (by assumption)) ?_; first | assumption | exact va_up_self _ _ _)))))
    case hv_58_17 => rfl
    refine tf_get (fs := ?fs_61_18) (v := ?v_61_18) 64 d_Tf_count_61 rfl fl_Tf_258 ?ha_61_18 ?hf_61_18 ?hv_61_18 ?kk_61_18
    case ha_61_18 => first | assumption | (simp only [List.mem_append, List.mem_singleton]; simp [*])
    case hf_61_18 => first | assumption | exact va_up_self _ _ _ | (refine tf_u (by first | assumption | (apply Ne.symm; assumption) | (intro hh; subst hh; contradiction) | exact tf_n1 (by assumption) (by assumption) | exact tf_n2 (by assumption) (by assumption)) ?_; first | assumption | exact va_up_self _ _ _ | (refine tf_u (by first | assumption | (apply Ne.symm; assumption) | (intro hh; subst hh; contradiction) | exact tf_n1 (by assumption) (by assumption) | exact tf_n2 (by assumption) (by assumption)) ?_; first | assumption | exact va_up_self _ _ _ | (refine tf_u (by first | assumption | (apply Ne.symm; assumption) | (intro hh; subst hh; contradiction) | exact tf_n1 (by assumption) (by assumption) | exact tf_n2 (by assumption) (by assumption)) ?_; first | assumption | exact va_up_self _ _ _ | (refine tf_u (by first | assumption | (apply Ne.symm; assumption) | (intro hh; subst hh; contradiction) | exact tf_n1 (by assumption) (by assumption) | exact tf_n2 (by assumption) (by assumption)) ?_; first | assumption | exact va_up_self _ _ _ | (refine tf_u (by first | assumption | (apply Ne.symm; assumption) | (intro hh; subst hh; contradiction) | exact tf_n1 (by assumption) (by assumption) | exact tf_n2 (by assumption) (by assumption)) ?_; first | assumption | exact va_up_self _ _ _)))))
    case hv_61_18 => rfl
    refine tf_iret d_Tf_count_64 rfl ?_
    exact ⟨by (simp only [tc_count, s1_0, s1_1, s1_2, if_true, if_false]; try rfl), rfl, rfl⟩
  by_cases s1_3 : w = kI 3
  · refine tf_tabIn 65 d_Tf_count_1 (by rw [s1_3]; decide) (by rw [s1_3]; decide) (by rw [s1_3]; rfl) rfl ?_
    refine tf_blk _ b_Tf_count_65 rfl ?_
    refine tf_get (fs := ?fs_66_20) (v := ?v_66_20) 69 d_Tf_count_66 rfl fl_Tf_62 ?ha_66_20 ?hf_66_20 ?hv_66_20 ?kk_66_20
    case ha_66_20 => first | assumption | (simp only [List.mem_append, List.mem_singleton]; simp [*])
    case hf_66_20 => first | assumption | exact va_up_self _ _ _ | (refine tf_u (by first | assumption | (apply Ne.symm; assumption) | (intro hh; subst hh; contradiction) | exact tf_n1 (by assumption) (by assumption) | exact tf_n2 (by assumption) (by assumption)) ?_; first | assumption | exact va_up_self _ _ _ | (refine tf_u (by first | assumption | (apply Ne.symm; assumption) | (intro hh; subst hh; contradiction) | exact tf_n1 (by assumption) (by assumption) | exact tf_n2 (by assumption) (by assumption)) ?_; first | assumption | exact va_up_self _ _ _ | (refine tf_u (by first | assumption | (apply Ne.symm; assumption) | (intro hh; subst hh; contradiction) | exact tf_n1 (by assumption) (by assumption) | exact tf_n2 (by assumption) (by assumption)) ?_; first | assumption | exact va_up_self _ _ _ | (refine tf_u (by first | assumption | (apply Ne.symm; assumption) | (intro hh; subst hh; contradiction) | exact tf_n1 (by assumption) (by assumption) | exact tf_n2 (by assumption) (by assumption)) ?_; first | assumption | exact va_up_self _ _ _ | (refine tf_u (by first | assumption | (apply Ne.symm; assumption) | (intro hh; subst hh; contradiction) | exact tf_n1 (by assumption) (by assumption) | exact tf_n2 (by assumption) (by assumption)) ?_; first | assumption | exact va_up_self _ _ _)))))
    case hv_66_20 => rfl
    refine tf_get (fs := ?fs_69_21) (v := ?v_69_21) 72 d_Tf_count_69 rfl fl_Tf_261 ?ha_69_21 ?hf_69_21 ?hv_69_21 ?kk_69_21
    case ha_69_21 => first | assumption | (simp only [List.mem_append, List.mem_singleton]; simp [*])
    case hf_69_21 => first | assumption | exact va_up_self _ _ _ | (refine tf_u (by first | assumption | (apply Ne.symm; assumption) | (intro hh; subst hh; contradiction) | exact tf_n1 (by assumption) (by assumption) | exact tf_n2 (by assumption) (by assumption)) ?_; first | assumption | exact va_up_self _ _ _ | (refine tf_u (by first | assumption | (apply Ne.symm; assumption) | (intro hh; subst hh; contradiction) | exact tf_n1 (by assumption) (by assumption) | exact tf_n2 (by assumption) (by assumption)) ?_; first | assumption | exact va_up_self _ _ _ | (refine tf_u (by first | assumption | (apply Ne.symm; assumption) | (intro hh; subst hh; contradiction) | exact tf_n1 (by assumption) (by assumption) | exact tf_n2 (by assumption) (by assumption)) ?_; first | assumption | exact va_up_self _ _ _ | (refine tf_u (by first | assumption | (apply Ne.symm; assumption) | (intro hh; subst hh; contradiction) | exact tf_n1 (by assumption) (by assumption) | exact tf_n2 (by assumption) (by assumption)) ?_; first | assumption | exact va_up_self _ _ _ | (refine tf_u (by first | assumption | (apply Ne.symm; assumption) | (intro hh; subst hh; contradiction) | exact tf_n1 (by assumption) (by assumption) | exact tf_n2 (by assumption) (by assumption)) ?_; first | assumption | exact va_up_self _ _ _)))))
    case hv_69_21 => rfl
    refine tf_iret d_Tf_count_72 rfl ?_
    exact ⟨by (simp only [tc_count, s1_0, s1_1, s1_2, s1_3, if_true, if_false]; try rfl), rfl, rfl⟩
  by_cases s1_4 : w = kI 4
  · refine tf_tabIn 73 d_Tf_count_1 (by rw [s1_4]; decide) (by rw [s1_4]; decide) (by rw [s1_4]; rfl) rfl ?_
    refine tf_blk _ b_Tf_count_73 rfl ?_
    refine tf_get (fs := ?fs_74_23) (v := ?v_74_23) 77 d_Tf_count_74 rfl fl_Tf_62 ?ha_74_23 ?hf_74_23 ?hv_74_23 ?kk_74_23
    case ha_74_23 => first | assumption | (simp only [List.mem_append, List.mem_singleton]; simp [*])
    case hf_74_23 => first | assumption | exact va_up_self _ _ _ | (refine tf_u (by first | assumption | (apply Ne.symm; assumption) | (intro hh; subst hh; contradiction) | exact tf_n1 (by assumption) (by assumption) | exact tf_n2 (by assumption) (by assumption)) ?_; first | assumption | exact va_up_self _ _ _ | (refine tf_u (by first | assumption | (apply Ne.symm; assumption) | (intro hh; subst hh; contradiction) | exact tf_n1 (by assumption) (by assumption) | exact tf_n2 (by assumption) (by assumption)) ?_; first | assumption | exact va_up_self _ _ _ | (refine tf_u (by first | assumption | (apply Ne.symm; assumption) | (intro hh; subst hh; contradiction) | exact tf_n1 (by assumption) (by assumption) | exact tf_n2 (by assumption) (by assumption)) ?_; first | assumption | exact va_up_self _ _ _ | (refine tf_u (by first | assumption | (apply Ne.symm; assumption) | (intro hh; subst hh; contradiction) | exact tf_n1 (by assumption) (by assumption) | exact tf_n2 (by assumption) (by assumption)) ?_; first | assumption | exact va_up_self _ _ _ | (refine tf_u (by first | assumption | (apply Ne.symm; assumption) | (intro hh; subst hh; contradiction) | exact tf_n1 (by assumption) (by assumption) | exact tf_n2 (by assumption) (by assumption)) ?_; first | assumption | exact va_up_self _ _ _)))))
    case hv_74_23 => rfl
    refine tf_get (fs := ?fs_77_24) (v := ?v_77_24) 80 d_Tf_count_77 rfl fl_Tf_246 ?ha_77_24 ?hf_77_24 ?hv_77_24 ?kk_77_24
    case ha_77_24 => first | assumption | (simp only [List.mem_append, List.mem_singleton]; simp [*])
    case hf_77_24 => first | assumption | exact va_up_self _ _ _ | (refine tf_u (by first | assumption | (apply Ne.symm; assumption) | (intro hh; subst hh; contradiction) | exact tf_n1 (by assumption) (by assumption) | exact tf_n2 (by assumption) (by assumption)) ?_; first | assumption | exact va_up_self _ _ _ | (refine tf_u (by first | assumption | (apply Ne.symm; assumption) | (intro hh; subst hh; contradiction) | exact tf_n1 (by assumption) (by assumption) | exact tf_n2 (by assumption) (by assumption)) ?_; first | assumption | exact va_up_self _ _ _ | (refine tf_u (by first | assumption | (apply Ne.symm; assumption) | (intro hh; subst hh; contradiction) | exact tf_n1 (by assumption) (by assumption) | exact tf_n2 (by assumption) (by assumption)) ?_; first | assumption | exact va_up_self _ _ _ | (refine tf_u (by first | assumption | (apply Ne.symm; assumption) | (intro hh; subst hh; contradiction) | exact tf_n1 (by assumption) (by assumption) | exact tf_n2 (by assumption) (by assumption)) ?_; first | assumption | exact va_up_self _ _ _ | (refine tf_u (by first | assumption | (apply Ne.symm; assumption) | (intro hh; subst hh; contradiction) | exact tf_n1 (by assumption) (by assumption) | exact tf_n2 (by assumption) (by assumption)) ?_; first | assumption | exact va_up_self _ _ _)))))
    case hv_77_24 => rfl
    refine tf_iret d_Tf_count_80 rfl ?_
    exact ⟨by (simp only [tc_count, s1_0, s1_1, s1_2, s1_3, s1_4, if_true, if_false]; try rfl), rfl, rfl⟩
  by_cases s1_5 : w = kI 5
  · refine tf_tabIn 81 d_Tf_count_1 (by rw [s1_5]; decide) (by rw [s1_5]; decide) (by rw [s1_5]; rfl) rfl ?_
    refine tf_blk _ b_Tf_count_81 rfl ?_
    refine tf_get (fs := ?fs_82_26) (v := ?v_82_26) 85 d_Tf_count_82 rfl fl_Tf_55 ?ha_82_26 ?hf_82_26 ?hv_82_26 ?kk_82_26
    case ha_82_26 => first | assumption | (simp only [List.mem_append, List.mem_singleton]; simp [*])
    case hf_82_26 => first | assumption | exact va_up_self _ _ _ | (refine tf_u (by first | assumption | (apply Ne.symm; assumption) | (intro hh; subst hh; contradiction) | exact tf_n1 (by assumption) (by assumption) | exact tf_n2 (by assumption) (by assumption)) ?_; first | assumption | exact va_up_self _ _ _ | (refine tf_u (by first | assumption | (apply Ne.symm; assumption) | (intro hh; subst hh; contradiction) | exact tf_n1 (by assumption) (by assumption) | exact tf_n2 (by assumption) (by assumption)) ?_; first | assumption | exact va_up_self _ _ _ | (refine tf_u (by first | assumption | (apply Ne.symm; assumption) | (intro hh; subst hh; contradiction) | exact tf_n1 (by assumption) (by assumption) | exact tf_n2 (by assumption) (by assumption)) ?_; first | assumption | exact va_up_self _ _ _ | (refine tf_u (by first | assumption | (apply Ne.symm; assumption) | (intro hh; subst hh; contradiction) | exact tf_n1 (by assumption) (by assumption) | exact tf_n2 (by assumption) (by assumption)) ?_; first | assumption | exact va_up_self _ _ _ | (refine tf_u (by first | assumption | (apply Ne.symm; assumption) | (intro hh; subst hh; contradiction) | exact tf_n1 (by assumption) (by assumption) | exact tf_n2 (by assumption) (by assumption)) ?_; first | assumption | exact va_up_self _ _ _)))))
    case hv_82_26 => rfl
    refine tf_get (fs := ?fs_85_27) (v := ?v_85_27) 88 d_Tf_count_85 rfl fl_Tf_264 ?ha_85_27 ?hf_85_27 ?hv_85_27 ?kk_85_27
    case ha_85_27 => first | assumption | (simp only [List.mem_append, List.mem_singleton]; simp [*])
    case hf_85_27 => first | assumption | exact va_up_self _ _ _ | (refine tf_u (by first | assumption | (apply Ne.symm; assumption) | (intro hh; subst hh; contradiction) | exact tf_n1 (by assumption) (by assumption) | exact tf_n2 (by assumption) (by assumption)) ?_; first | assumption | exact va_up_self _ _ _ | (refine tf_u (by first | assumption | (apply Ne.symm; assumption) | (intro hh; subst hh; contradiction) | exact tf_n1 (by assumption) (by assumption) | exact tf_n2 (by assumption) (by assumption)) ?_; first | assumption | exact va_up_self _ _ _ | (refine tf_u (by first | assumption | (apply Ne.symm; assumption) | (intro hh; subst hh; contradiction) | exact tf_n1 (by assumption) (by assumption) | exact tf_n2 (by assumption) (by assumption)) ?_; first | assumption | exact va_up_self _ _ _ | (refine tf_u (by first | assumption | (apply Ne.symm; assumption) | (intro hh; subst hh; contradiction) | exact tf_n1 (by assumption) (by assumption) | exact tf_n2 (by assumption) (by assumption)) ?_; first | assumption | exact va_up_self _ _ _ | (refine tf_u (by first | assumption | (apply Ne.symm; assumption) | (intro hh; subst hh; contradiction) | exact tf_n1 (by assumption) (by assumption) | exact tf_n2 (by assumption) (by assumption)) ?_; first | assumption | exact va_up_self _ _ _)))))
    case hv_85_27 => rfl
    refine tf_iret d_Tf_count_88 rfl ?_
    exact ⟨by (simp only [tc_count, s1_0, s1_1, s1_2, s1_3, s1_4, s1_5, if_true, if_false]; try rfl), rfl, rfl⟩
  by_cases s1_6 : w = kI 6
  · refine tf_tabIn 89 d_Tf_count_1 (by rw [s1_6]; decide) (by rw [s1_6]; decide) (by rw [s1_6]; rfl) rfl ?_
    refine tf_blk _ b_Tf_count_89 rfl ?_
    refine tf_get (fs := ?fs_90_29) (v := ?v_90_29) 93 d_Tf_count_90 rfl fl_Tf_62 ?ha_90_29 ?hf_90_29 ?hv_90_29 ?kk_90_29
    case ha_90_29 => first | assumption | (simp only [List.mem_append, List.mem_singleton]; simp [*])
    case hf_90_29 => first | assumption | exact va_up_self _ _ _ | (refine tf_u (by first | assumption | (apply Ne.symm; assumption) | (intro hh; subst hh; contradiction) | exact tf_n1 (by assumption) (by assumption) | exact tf_n2 (by assumption) (by assumption)) ?_; first | assumption | exact va_up_self _ _ _ | (refine tf_u (by first | assumption | (apply Ne.symm; assumption) | (intro hh; subst hh; contradiction) | exact tf_n1 (by assumption) (by assumption) | exact tf_n2 (by assumption) (by assumption)) ?_; first | assumption | exact va_up_self _ _ _ | (refine tf_u (by first | assumption | (apply Ne.symm; assumption) | (intro hh; subst hh; contradiction) | exact tf_n1 (by assumption) (by assumption) | exact tf_n2 (by assumption) (by assumption)) ?_; first | assumption | exact va_up_self _ _ _ | (refine tf_u (by first | assumption | (apply Ne.symm; assumption) | (intro hh; subst hh; contradiction) | exact tf_n1 (by assumption) (by assumption) | exact tf_n2 (by assumption) (by assumption)) ?_; first | assumption | exact va_up_self _ _ _ | (refine tf_u (by first | assumption | (apply Ne.symm; assumption) | (intro hh; subst hh; contradiction) | exact tf_n1 (by assumption) (by assumption) | exact tf_n2 (by assumption) (by assumption)) ?_; first | assumption | exact va_up_self _ _ _)))))
    case hv_90_29 => rfl
    refine tf_get (fs := ?fs_93_30) (v := ?v_93_30) 96 d_Tf_count_93 rfl fl_Tf_267 ?ha_93_30 ?hf_93_30 ?hv_93_30 ?kk_93_30
    case ha_93_30 => first | assumption | (simp only [List.mem_append, List.mem_singleton]; simp [*])
    case hf_93_30 => first | assumption | exact va_up_self _ _ _ | (refine tf_u (by first | assumption | (apply Ne.symm; assumption) | (intro hh; subst hh; contradiction) | exact tf_n1 (by assumption) (by assumption) | exact tf_n2 (by assumption) (by assumption)) ?_; first | assumption | exact va_up_self _ _ _ | (refine tf_u (by first | assumption | (apply Ne.symm; assumption) | (intro hh; subst hh; contradiction) | exact tf_n1 (by assumption) (by assumption) | exact tf_n2 (by assumption) (by assumption)) ?_; first | assumption | exact va_up_self _ _ _ | (refine tf_u (by first | assumption | (apply Ne.symm; assumption) | (intro hh; subst hh; contradiction) | exact tf_n1 (by assumption) (by assumption) | exact tf_n2 (by assumption) (by assumption)) ?_; first | assumption | exact va_up_self _ _ _ | (refine tf_u (by first | assumption | (apply Ne.symm; assumption) | (intro hh; subst hh; contradiction) | exact tf_n1 (by assumption) (by assumption) | exact tf_n2 (by assumption) (by assumption)) ?_; first | assumption | exact va_up_self _ _ _ | (refine tf_u (by first | assumption | (apply Ne.symm; assumption) | (intro hh; subst hh; contradiction) | exact tf_n1 (by assumption) (by assumption) | exact tf_n2 (by assumption) (by assumption)) ?_; first | assumption | exact va_up_self _ _ _)))))
    case hv_93_30 => rfl
    refine tf_iret d_Tf_count_96 rfl ?_
    exact ⟨by (simp only [tc_count, s1_0, s1_1, s1_2, s1_3, s1_4, s1_5, s1_6, if_true, if_false]; try rfl), rfl, rfl⟩
  refine tf_tabOut 97 d_Tf_count_1 (tw_out7 w s1_0 s1_1 s1_2 s1_3 s1_4 s1_5 s1_6) rfl ?_
  refine tf_blk _ b_Tf_count_97 rfl ?_
  refine tf_iret d_Tf_count_98 rfl ?_
  exact ⟨by (simp only [tc_count, s1_0, s1_1, s1_2, s1_3, s1_4, s1_5, s1_6, if_true, if_false]; try rfl), rfl, rfl⟩
theorem c_setRow_S (hd : 5 ≤ d) {ad : Nat → Nat} {S : tc_S} {B : Nat → Prop} (h : tc_at q ad S B L f) (ht : S.ts ≤ 60) (hs : S.rs ≤ 60) (hr : S.rn ≤ 40) (hR : ∀ i, i < S.rn → 1 ≤ tw_len (S.R i).2.2.1 4 0) (rr : tw_RW) (hrr : tw_rows S.R S.rn 8 0 (va_cpy S.tx S.row 0 0 S.ts, S.ts, kI 0) = rr) : tf_C l (tf_H D q) d i_Setter_setRow [.ref (ad 23)] L f 0 0 (fun v L2 f2 => v = some (.int (nI rr.2.1)) ∧ L2 = L ∧ f2 = va_up (va_up f (ad 24) (ti q 60 rr.1)) (ad 23) (to 10 [.ref (ad 24), .int (nI rr.2.1), .int (nI 0), .int (nI S.rn), .int rr.2.2, .ref (ad 25), .ref (ad 26)])) := by
  have hS : tf_SR q (ad 23) (ad 24) (ad 26) S.rn (.int (nI S.ts)) (.ref (ad 25)) (tc_ra ad S.rn) (fun r => ad (32 + r)) S.R L f (S.row, S.rs, S.pu) := ⟨hr, hs, (tc_c23 h).1, (tc_c23 h).2, (tc_c24 h).1, (tc_c24 h).2, (tc_c26 h).1, (tc_c26 h).2, fun i hi => ⟨if_pos hi, (tc_rule h hi hr).1, (tc_rule h hi hr).2, hR i hi⟩⟩
  refine (c_Setter_setRow l D q d L f hd ht hS (tc_c25 h).1 (tc_c25 h).2).mono (fun v L2 f2 z => ?_)
  dsimp only at z
  rw [hrr] at z
  obtain ⟨z1, z2, k1, k2⟩ := z
  refine ⟨z1, z2, ?_⟩
  funext w
  by_cases w1 : w = ad 23
  · rw [w1]; exact k1.2.2.2.1.trans (va_up_self _ _ _).symm
  · refine Eq.trans ?_ (va_up_ne _ _ w1).symm
    by_cases w2 : w = ad 24
    · rw [w2]; exact k1.2.2.2.2.2.1.trans (va_up_self _ _ _).symm
    · exact (k2 w w1 w2).trans (va_up_ne _ _ w2).symm
set_option maxHeartbeats 4000000 in
set_option maxRecDepth 100000 in
theorem c_Tf_shape_rr (hd : 6 ≤ d) {ad : Nat → Nat} {S : tc_S} {B : Nat → Prop} (h : tc_at q ad S B L f) (ht : S.ts ≤ 60) (hs : S.rs ≤ 60) (hr : S.rn ≤ 40) (hR : ∀ i, i < S.rn → 1 ≤ tw_len (S.R i).2.2.1 4 0) (rr : tw_RW) (hrr : tw_rows S.R S.rn 8 0 (va_cpy S.tx S.row 0 0 S.ts, S.ts, kI 0) = rr) : tf_C l (tf_H D q) d i_Tf_shape [.ref (ad 0)] L f 0 0 (tc_po q ad B L f (nI rr.2.1) (tc_S_mk S.mm S.u S.w S.n S.T S.oc S.op S.oA S.pz S.px S.py S.hn S.hy S.cs S.ca S.ce S.kp S.kl S.kr S.kc S.kL S.kR S.kO (rr.1) (rr.2.1) (0) S.rn (rr.2.2) S.tx S.R)) := by
  obtain ⟨hx, fx⟩ := tc_c0 h
  
  refine tf_C.of (tf_gok _ _) (by decide) w_328 (Nat.le_of_ble_eq_true rfl) ?_
  refine tf_blk _ b_Tf_shape_0 rfl ?_
  refine tf_get (fs := ?fs_1_33) (v := ?v_1_33) 4 d_Tf_shape_1 rfl fl_Tf_62 ?ha_1_33 ?hf_1_33 ?hv_1_33 ?kk_1_33
  case ha_1_33 => first | assumption | (simp only [List.mem_append, List.mem_singleton]; simp [*])
  case hf_1_33 => first | assumption | exact va_up_self _ _ _ | (refine tf_u (by first | assumption | (apply Ne.symm; assumption) | (intro hh; subst hh; contradiction) | exact tf_n1 (by assumption) (by assumption) | exact tf_n2 (by assumption) (by assumption)) ?_; first | assumption | exact va_up_self _ _ _ | (refine tf_u (by first | assumption | (apply Ne.symm; assumption) | (intro hh; subst hh; contradiction) | exact tf_n1 (by assumption) (by assumption) | exact tf_n2 (by assumption) (by assumption)) ?_; first | assumption | exact va_up_self _ _ _ | (refine tf_u (by first | assumption | (apply Ne.symm; assumption) | (intro hh; subst hh; contradiction) | exact tf_n1 (by assumption) (by assumption) | exact tf_n2 (by assumption) (by assumption)) ?_; first | assumption | exact va_up_self _ _ _ | (refine tf_u (by first | assumption | (apply Ne.symm; assumption) | (intro hh; subst hh; contradiction) | exact tf_n1 (by assumption) (by assumption) | exact tf_n2 (by assumption) (by assumption)) ?_; first | assumption | exact va_up_self _ _ _ | (refine tf_u (by first | assumption | (apply Ne.symm; assumption) | (intro hh; subst hh; contradiction) | exact tf_n1 (by assumption) (by assumption) | exact tf_n2 (by assumption) (by assumption)) ?_; first | assumption | exact va_up_self _ _ _)))))
  case hv_1_33 => rfl
  refine tf_cV (tf_gok _ _) (c_setRow_S l D q (d - 1) _ _ (by omega) h ht hs hr hR rr hrr) 7 d_Tf_shape_4 rfl lk_Tf_243 cw_Setter_setRow (by rfl) in_Setter_setRow se_Setter_setRow (by exact (tc_c23 h).1) (by exact (tc_c23 h).2) (by rfl) (by rfl) (by omega) (by exact Nat.le_of_ble_eq_true rfl) rfl ?_
  rintro v4 L4 f4 ⟨rfl, rfl, rfl⟩
  refine tf_iret d_Tf_shape_7 rfl ?_
  exact ⟨rfl, rfl, tc_goF (S2 := (tc_S_mk S.mm S.u S.w S.n S.T S.oc S.op S.oA S.pz S.px S.py S.hn S.hy S.cs S.ca S.ce S.kp S.kl S.kr S.kc S.kL S.kR S.kO (rr.1) (rr.2.1) (0) S.rn (rr.2.2) S.tx S.R)) h [(24, ti q 60 rr.1), (23, to 10 [.ref (ad 24), .int (nI rr.2.1), .int (nI 0), .int (nI S.rn), .int rr.2.2, .ref (ad 25), .ref (ad 26)])] (by simp) rfl rfl rfl rfl rfl rfl⟩
theorem c_Tf_shape (hd : 6 ≤ d) {ad : Nat → Nat} {S : tc_S} {B : Nat → Prop} (h : tc_at q ad S B L f) (ht : S.ts ≤ 60) (hs : S.rs ≤ 60) (hr : S.rn ≤ 40) (hR : ∀ i, i < S.rn → 1 ≤ tw_len (S.R i).2.2.1 4 0) : tf_C l (tf_H D q) d i_Tf_shape [.ref (ad 0)] L f 0 0 (tc_po q ad B L f (tc_shape S).1 (tc_shape S).2) := by
  unfold tc_shape
  dsimp only
  exact c_Tf_shape_rr l D q d L f hd h ht hs hr hR (tc_rows S) rfl
end
