/-! Canvas.addRising -/
section
variable (l : Launch) (D : va_G) (q : Nat → ClassId) (d : Nat) (L : List Nat) (f : tf_F)
end
/-- a rising line, cut at the rows from k on, m of them at most: where it came to, the cells -/
def tw_ris (s : Int32) (n : Nat) (way lx ly hx hy : Int32) : Nat → Nat → Int32 → Int32 → (Nat → Int32) → Int32 × Int32 × (Nat → Int32)
  | 0, _, x, y, g => (x, y, g)
  | m + 1, k, x, y, g => if hy ≤ nI k * s then (x, y, g) else tw_ris s n way lx ly hx hy m (k + 1) (tw_cross ly lx hy hx (nI k * s)) (nI k * s) (tw_part g s n x y (tw_cross ly lx hy hx (nI k * s)) (nI k * s) way)
def tw_rising (g : Nat → Int32) (s : Int32) (n : Nat) (lx ly hx hy way : Int32) : Nat → Int32 :=
  tw_part (tw_ris s n way lx ly hx hy (n + 1 - tw_k0 s ly) (tw_k0 s ly) lx ly g).2.2 s n (tw_ris s n way lx ly hx hy (n + 1 - tw_k0 s ly) (tw_k0 s ly) lx ly g).1 (tw_ris s n way lx ly hx hy (n + 1 - tw_k0 s ly) (tw_k0 s ly) lx ly g).2.1 hx hy way
section
variable (l : Launch) (D : va_G) (q : Nat → ClassId) (d : Nat) (L : List Nat) (f : tf_F)
set_option maxHeartbeats 4000000 in
set_option maxRecDepth 100000 in
theorem t_Canvas_ris (hd : 4 ≤ d) {QB : tf_B} {kc ks : Nat} {a ce n : Nat} {s : Int32} (hn : n ≤ 64) (hs : ¬ s = 0) (ha : a ∈ L) (hce : ce ∈ L) {g0 : Nat → Int32} (fa0 : f a = to 2 [.ref ce, .int s, .int (nI n)]) (fg0 : f ce = ti q 4096 g0) (way lx ly hx hy : Int32) : ∀ m k (x y : Int32) (g : Nat → Int32) (fc : tf_F), m = n + 1 - k → k < 2 ^ 31 → fc ce = ti q 4096 g → (∀ z, z ≠ ce → fc z = f z) → (∀ (f2 : tf_F) (k2 : Int32), f2 ce = ti q 4096 (tw_ris s n way lx ly hx hy m k x y g).2.2 → (∀ z, z ≠ ce → f2 z = f z) → tf_W l (tf_H D q) tf_T QB d i_Canvas_addRising 87 [(0, .ref a), (1, .int lx), (2, .int ly), (3, .int hx), (4, .int hy), (5, .int way), (6, .int (tw_ris s n way lx ly hx hy m k x y g).1), (7, .int (tw_ris s n way lx ly hx hy m k x y g).2.1), (8, .int k2)] [] L f2 kc ks) → tf_W l (tf_H D q) tf_T QB d i_Canvas_addRising 17 [(0, .ref a), (1, .int lx), (2, .int ly), (3, .int hx), (4, .int hy), (5, .int way), (6, .int x), (7, .int y), (8, .int (nI k))] [] L fc kc ks := by
  intro m
  induction m with
  | zero =>
    intro k x y g fc hm hk fg hf hK
    have fa : fc a = to 2 [.ref ce, .int s, .int (nI n)] := (hf a (tf_n1 fa0 fg0)).trans fa0
    refine tf_blk _ b_Canvas_addRising_17 rfl ?_
    refine tf_get (fs := ?fs_20_1) (v := ?v_20_1) 23 d_Canvas_addRising_20 rfl fl_Canvas_19 ?ha_20_1 ?hf_20_1 ?hv_20_1 ?kk_20_1
    case ha_20_1 => first | assumption | (simp only [List.mem_append, List.mem_singleton]; simp [*])
    case hf_20_1 => first | assumption | exact va_up_self _ _ _ | (refine tf_u (by first | assumption | (apply Ne.symm; assumption) | (intro hh; subst hh; contradiction) | exact tf_n1 (by assumption) (by assumption) | exact tf_n2 (by assumption) (by assumption)) ?_; first | assumption | exact va_up_self _ _ _ | (refine tf_u (by first | assumption | (apply Ne.symm; assumption) | (intro hh; subst hh; contradiction) | exact tf_n1 (by assumption) (by assumption) | exact tf_n2 (by assumption) (by assumption)) ?_; first | assumption | exact va_up_self _ _ _ | (refine tf_u (by first | assumption | (apply Ne.symm; assumption) | (intro hh; subst hh; contradiction) | exact tf_n1 (by assumption) (by assumption) | exact tf_n2 (by assumption) (by assumption)) ?_; first | assumption | exact va_up_self _ _ _ | (refine tf_u (by first | assumption | (apply Ne.symm; assumption) | (intro hh; subst hh; contradiction) | exact tf_n1 (by assumption) (by assumption) | exact tf_n2 (by assumption) (by assumption)) ?_; first | assumption | exact va_up_self _ _ _ | (refine tf_u (by first | assumption | (apply Ne.symm; assumption) | (intro hh; subst hh; contradiction) | exact tf_n1 (by assumption) (by assumption) | exact tf_n2 (by assumption) (by assumption)) ?_; first | assumption | exact va_up_self _ _ _)))))
    case hv_20_1 => rfl
    refine tf_ic_gt 87 26 d_Canvas_addRising_23 rfl rfl (fun h23 => ?_) (fun h23 => absurd (nI_lt (by omega) (by omega)) h23)
    exact hK _ _ fg hf
  | succ m ih =>
    intro k x y g fc hm hk fg hf hK
    have fa : fc a = to 2 [.ref ce, .int s, .int (nI n)] := (hf a (tf_n1 fa0 fg0)).trans fa0
    refine tf_blk _ b_Canvas_addRising_17 rfl ?_
    refine tf_get (fs := ?fs_20_2) (v := ?v_20_2) 23 d_Canvas_addRising_20 rfl fl_Canvas_19 ?ha_20_2 ?hf_20_2 ?hv_20_2 ?kk_20_2
    case ha_20_2 => first | assumption | (simp only [List.mem_append, List.mem_singleton]; simp [*])
    case hf_20_2 => first | assumption | exact va_up_self _ _ _ | (refine tf_u (by first | assumption | (apply Ne.symm; assumption) | (intro hh; subst hh; contradiction) | exact tf_n1 (by assumption) (by assumption) | exact tf_n2 (by assumption) (by assumption)) ?_; first | assumption | exact va_up_self _ _ _ | (refine tf_u (by first | assumption | (apply Ne.symm; assumption) | (intro hh; subst hh; contradiction) | exact tf_n1 (by assumption) (by assumption) | exact tf_n2 (by assumption) (by assumption)) ?_; first | assumption | exact va_up_self _ _ _ | (refine tf_u (by first | assumption | (apply Ne.symm; assumption) | (intro hh; subst hh; contradiction) | exact tf_n1 (by assumption) (by assumption) | exact tf_n2 (by assumption) (by assumption)) ?_; first | assumption | exact va_up_self _ _ _ | (refine tf_u (by first | assumption | (apply Ne.symm; assumption) | (intro hh; subst hh; contradiction) | exact tf_n1 (by assumption) (by assumption) | exact tf_n2 (by assumption) (by assumption)) ?_; first | assumption | exact va_up_self _ _ _ | (refine tf_u (by first | assumption | (apply Ne.symm; assumption) | (intro hh; subst hh; contradiction) | exact tf_n1 (by assumption) (by assumption) | exact tf_n2 (by assumption) (by assumption)) ?_; first | assumption | exact va_up_self _ _ _)))))
    case hv_20_2 => rfl
    refine tf_ic_gt 87 26 d_Canvas_addRising_23 rfl rfl (fun h23 => absurd h23 (nI_nlt (by omega) (by omega))) (fun h23 => ?_)
    refine tf_blk _ b_Canvas_addRising_26 rfl ?_
    refine tf_get (fs := ?fs_29_3) (v := ?v_29_3) 32 d_Canvas_addRising_29 rfl fl_Canvas_15 ?ha_29_3 ?hf_29_3 ?hv_29_3 ?kk_29_3
    case ha_29_3 => first | assumption | (simp only [List.mem_append, List.mem_singleton]; simp [*])
    case hf_29_3 => first | assumption | exact va_up_self _ _ _ | (refine tf_u (by first | assumption | (apply Ne.symm; assumption) | (intro hh; subst hh; contradiction) | exact tf_n1 (by assumption) (by assumption) | exact tf_n2 (by assumption) (by assumption)) ?_; first | assumption | exact va_up_self _ _ _ | (refine tf_u (by first | assumption | (apply Ne.symm; assumption) | (intro hh; subst hh; contradiction) | exact tf_n1 (by assumption) (by assumption) | exact tf_n2 (by assumption) (by assumption)) ?_; first | assumption | exact va_up_self _ _ _ | (refine tf_u (by first | assumption | (apply Ne.symm; assumption) | (intro hh; subst hh; contradiction) | exact tf_n1 (by assumption) (by assumption) | exact tf_n2 (by assumption) (by assumption)) ?_; first | assumption | exact va_up_self _ _ _ | (refine tf_u (by first | assumption | (apply Ne.symm; assumption) | (intro hh; subst hh; contradiction) | exact tf_n1 (by assumption) (by assumption) | exact tf_n2 (by assumption) (by assumption)) ?_; first | assumption | exact va_up_self _ _ _ | (refine tf_u (by first | assumption | (apply Ne.symm; assumption) | (intro hh; subst hh; contradiction) | exact tf_n1 (by assumption) (by assumption) | exact tf_n2 (by assumption) (by assumption)) ?_; first | assumption | exact va_up_self _ _ _)))))
    case hv_29_3 => rfl
    refine tf_blk _ b_Canvas_addRising_32 rfl ?_
    refine tf_ic_ge 87 38 d_Canvas_addRising_35 rfl rfl (fun h35 => ?_) (fun h35 => ?_)
    · rw [show tw_ris s n way lx ly hx hy (m + 1) k x y g = (x, y, g) from if_pos h35] at hK
      exact hK _ _ fg hf
    · refine tf_blk _ b_Canvas_addRising_38 rfl ?_
      refine tf_get (fs := ?fs_41_4) (v := ?v_41_4) 44 d_Canvas_addRising_41 rfl fl_Canvas_15 ?ha_41_4 ?hf_41_4 ?hv_41_4 ?kk_41_4
      case ha_41_4 => first | assumption | (simp only [List.mem_append, List.mem_singleton]; simp [*])
      case hf_41_4 => first | assumption | exact va_up_self _ _ _ | (refine tf_u (by first | assumption | (apply Ne.symm; assumption) | (intro hh; subst hh; contradiction) | exact tf_n1 (by assumption) (by assumption) | exact tf_n2 (by assumption) (by assumption)) ?_; first | assumption | exact va_up_self _ _ _ | (refine tf_u (by first | assumption | (apply Ne.symm; assumption) | (intro hh; subst hh; contradiction) | exact tf_n1 (by assumption) (by assumption) | exact tf_n2 (by assumption) (by assumption)) ?_; first | assumption | exact va_up_self _ _ _ | (refine tf_u (by first | assumption | (apply Ne.symm; assumption) | (intro hh; subst hh; contradiction) | exact tf_n1 (by assumption) (by assumption) | exact tf_n2 (by assumption) (by assumption)) ?_; first | assumption | exact va_up_self _ _ _ | (refine tf_u (by first | assumption | (apply Ne.symm; assumption) | (intro hh; subst hh; contradiction) | exact tf_n1 (by assumption) (by assumption) | exact tf_n2 (by assumption) (by assumption)) ?_; first | assumption | exact va_up_self _ _ _ | (refine tf_u (by first | assumption | (apply Ne.symm; assumption) | (intro hh; subst hh; contradiction) | exact tf_n1 (by assumption) (by assumption) | exact tf_n2 (by assumption) (by assumption)) ?_; first | assumption | exact va_up_self _ _ _)))))
      case hv_41_4 => rfl
      refine tf_blk _ b_Canvas_addRising_44 rfl ?_
      refine tf_cS (tf_gok _ _) (c_Canvas_crossing l D q (d - 1) _ _ (by omega) _ _ _ _ _) 57 d_Canvas_addRising_54 rfl lk_Canvas_69 cw_Canvas_crossing (by rfl) sa_Canvas_crossing (by omega) (by exact Nat.le_of_ble_eq_true rfl) rfl ?_
      rintro v54 L54 f54 ⟨rfl, rfl, rfl⟩
      refine tf_blk _ b_Canvas_addRising_57 rfl ?_
      refine tf_cV (tf_gok _ _) (c_Canvas_addPart l D q (d - 1) _ _ (by omega) hn hs ha hce _ _ _ _ _ fa fg) 73 d_Canvas_addRising_70 rfl lk_Canvas_73 cw_Canvas_addPart (by rfl) in_Canvas_addPart se_Canvas_addPart (by first | assumption | (simp only [List.mem_append, List.mem_singleton]; simp [*])) (by first | assumption | exact va_up_self _ _ _ | (refine tf_u (by first | assumption | (apply Ne.symm; assumption) | (intro hh; subst hh; contradiction) | exact tf_n1 (by assumption) (by assumption) | exact tf_n2 (by assumption) (by assumption)) ?_; first | assumption | exact va_up_self _ _ _ | (refine tf_u (by first | assumption | (apply Ne.symm; assumption) | (intro hh; subst hh; contradiction) | exact tf_n1 (by assumption) (by assumption) | exact tf_n2 (by assumption) (by assumption)) ?_; first | assumption | exact va_up_self _ _ _ | (refine tf_u (by first | assumption | (apply Ne.symm; assumption) | (intro hh; subst hh; contradiction) | exact tf_n1 (by assumption) (by assumption) | exact tf_n2 (by assumption) (by assumption)) ?_; first | assumption | exact va_up_self _ _ _ | (refine tf_u (by first | assumption | (apply Ne.symm; assumption) | (intro hh; subst hh; contradiction) | exact tf_n1 (by assumption) (by assumption) | exact tf_n2 (by assumption) (by assumption)) ?_; first | assumption | exact va_up_self _ _ _ | (refine tf_u (by first | assumption | (apply Ne.symm; assumption) | (intro hh; subst hh; contradiction) | exact tf_n1 (by assumption) (by assumption) | exact tf_n2 (by assumption) (by assumption)) ?_; first | assumption | exact va_up_self _ _ _)))))) (by rfl) (by rfl) (by omega) (by exact Nat.le_of_ble_eq_true rfl) rfl ?_
      rintro v70 L70 f70 ⟨rfl, rfl, k1, k2⟩
      refine tf_blk _ b_Canvas_addRising_73 rfl ?_
      refine tf_goto 17 d_Canvas_addRising_84 rfl ?_
      refine tf_drop [0, 1, 2, 3, 4, 5, 6, 7, 8] rfl ?_
      rw [show tw_ris s n way lx ly hx hy (m + 1) k x y g = tw_ris s n way lx ly hx hy m (k + 1) (tw_cross ly lx hy hx (nI k * s)) (nI k * s) (tw_part g s n x y (tw_cross ly lx hy hx (nI k * s)) (nI k * s) way) from if_neg h35] at hK
      have h9 := ih (k + 1) _ _ _ _ (by omega) (by omega) k1 (fun z hz => (k2 z hz).trans (hf z hz)) hK
      rw [nI_succ] at h9
      exact h9
set_option maxHeartbeats 4000000 in
set_option maxRecDepth 100000 in
theorem c_Canvas_addRising (hd : 4 ≤ d) {a ce n : Nat} {s : Int32} (hn : n ≤ 64) (hs : ¬ s = 0) (ha : a ∈ L) (hce : ce ∈ L) {g0 : Nat → Int32} (fa0 : f a = to 2 [.ref ce, .int s, .int (nI n)]) (fg0 : f ce = ti q 4096 g0) (lx ly hx hy way : Int32) : tf_C l (tf_H D q) d i_Canvas_addRising [.ref a, .int lx, .int ly, .int hx, .int hy, .int way] L f 0 0 (fun v L2 f2 => v = none ∧ L2 = L ∧ f2 ce = ti q 4096 (tw_rising g0 s n lx ly hx hy way) ∧ ∀ w, w ≠ ce → f2 w = f w) := by
  refine tf_C.of (tf_gok _ _) (by decide) w_1009 (Nat.le_of_ble_eq_true rfl) ?_
  refine tf_blk _ b_Canvas_addRising_0 rfl ?_
  refine tf_cV (tf_gok _ _) (c_Canvas_firstCut l D q (d - 1) _ _ (by omega) ha fa0 _ hs) 12 d_Canvas_addRising_9 rfl lk_Canvas_66 cw_Canvas_firstCut (by rfl) in_Canvas_firstCut se_Canvas_firstCut (by first | assumption | (simp only [List.mem_append, List.mem_singleton]; simp [*])) (by first | assumption | exact va_up_self _ _ _ | (refine tf_u (by first | assumption | (apply Ne.symm; assumption) | (intro hh; subst hh; contradiction) | exact tf_n1 (by assumption) (by assumption) | exact tf_n2 (by assumption) (by assumption)) ?_; first | assumption | exact va_up_self _ _ _ | (refine tf_u (by first | assumption | (apply Ne.symm; assumption) | (intro hh; subst hh; contradiction) | exact tf_n1 (by assumption) (by assumption) | exact tf_n2 (by assumption) (by assumption)) ?_; first | assumption | exact va_up_self _ _ _ | (refine tf_u (by first | assumption | (apply Ne.symm; assumption) | (intro hh; subst hh; contradiction) | exact tf_n1 (by assumption) (by assumption) | exact tf_n2 (by assumption) (by assumption)) ?_; first | assumption | exact va_up_self _ _ _ | (refine tf_u (by first | assumption | (apply Ne.symm; assumption) | (intro hh; subst hh; contradiction) | exact tf_n1 (by assumption) (by assumption) | exact tf_n2 (by assumption) (by assumption)) ?_; first | assumption | exact va_up_self _ _ _ | (refine tf_u (by first | assumption | (apply Ne.symm; assumption) | (intro hh; subst hh; contradiction) | exact tf_n1 (by assumption) (by assumption) | exact tf_n2 (by assumption) (by assumption)) ?_; first | assumption | exact va_up_self _ _ _)))))) (by rfl) (by rfl) (by omega) (by exact Nat.le_of_ble_eq_true rfl) rfl ?_
  rintro v9 L9 f9 ⟨rfl, rfl, rfl⟩
  refine tf_max 15 d_Canvas_addRising_12 rfl w_1017 ws_max wm_Math wc_max (by omega) (by exact Nat.le_of_ble_eq_true rfl) ?_
  refine tf_blk _ b_Canvas_addRising_15 rfl ?_
  rw [(tw_k0_eq s ly).1]
  refine t_Canvas_ris l D q d _ _ (by omega) hn hs ha hce fa0 fg0 way lx ly hx hy (n + 1 - tw_k0 s ly) (tw_k0 s ly) lx ly g0 _ rfl (tw_k0_eq s ly).2 fg0 (fun _ _ => rfl) (fun f2 kk2 k1 k2 => ?_)
  have fa2 : f2 a = to 2 [.ref ce, .int s, .int (nI n)] := (k2 a (tf_n1 fa0 fg0)).trans fa0
  refine tf_blk _ b_Canvas_addRising_87 rfl ?_
  refine tf_cV (tf_gok _ _) (c_Canvas_addPart l D q (d - 1) _ _ (by omega) hn hs ha hce _ _ _ _ _ fa2 k1) 100 d_Canvas_addRising_97 rfl lk_Canvas_73 cw_Canvas_addPart (by rfl) in_Canvas_addPart se_Canvas_addPart (by first | assumption | (simp only [List.mem_append, List.mem_singleton]; simp [*])) (by exact fa2) (by rfl) (by rfl) (by omega) (by exact Nat.le_of_ble_eq_true rfl) rfl ?_
  rintro v97 L97 f97 ⟨rfl, rfl, j1, j2⟩
  refine tf_vret d_Canvas_addRising_100 rfl ?_
  exact ⟨rfl, rfl, j1, fun z hz => (j2 z hz).trans (k2 z hz)⟩
end
