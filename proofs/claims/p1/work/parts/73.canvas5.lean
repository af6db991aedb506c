/-! Canvas.addPart -/
section
variable (l : Launch) (D : va_G) (q : Nat → ClassId) (d : Nat) (L : List Nat) (f : tf_F)
end
theorem tw_inN {x : Int32} {n : Nat} (hn : n ≤ 64) (h : tw_in x (kI 0) (nI n - kI 1) = true) : ∃ r, r < n ∧ x = nI r := by
  unfold tw_in at h
  simp only [Bool.and_eq_true, decide_eq_true_eq] at h
  obtain ⟨j, hj, rfl⟩ := nI_of (x := x) (Int32.not_lt.mpr h.1)
  refine ⟨j, ?_, rfl⟩
  have h2 := h.2
  rcases Nat.eq_zero_or_pos n with e | e
  · subst e
    exact absurd (Int32.lt_of_le_of_lt h2 (show nI 0 - kI 1 < 0 by decide)) (nI_pos hj)
  · rw [nI_sub1 e] at h2
    have := (nI_leI (a := j) (b := n - 1) hj (by omega)).mp h2
    omega
/-- the column of the first cut -/
def tw_k0 (s x : Int32) : Nat := (if kI 0 < fdI x s + kI 1 then fdI x s + kI 1 else kI 0).toNatClampNeg
theorem tw_k0_eq (s x : Int32) : (if kI 0 < fdI x s + kI 1 then fdI x s + kI 1 else kI 0) = nI (tw_k0 s x) ∧ tw_k0 s x < 2 ^ 31 := by
  have h : ¬ (if kI 0 < fdI x s + kI 1 then fdI x s + kI 1 else kI 0) < 0 := by
    split
    · rename_i z
      exact fun z2 => absurd (Int32.lt_trans z z2) (by decide)
    · decide
  obtain ⟨j, hj, e⟩ := nI_of h
  unfold tw_k0
  rw [e, nI_clamp hj]
  exact ⟨rfl, hj⟩
def tw_part (g : Nat → Int32) (s : Int32) (n : Nat) (x y z u way : Int32) : Nat → Int32 :=
  if tw_in (fdI y s) (kI 0) (nI n - kI 1) = true then
    if z < x then tw_part2 s n (fdI y s).toNatClampNeg way z u x y (tw_k0 s z) g
    else tw_part2 s n (fdI y s).toNatClampNeg way x y z u (tw_k0 s x) g
  else g
theorem tw_part_0 {g : Nat → Int32} {s : Int32} {n : Nat} {x y z u way : Int32} (h : tw_in (fdI y s) (kI 0) (nI n - kI 1) = false) : tw_part g s n x y z u way = g := if_neg (by rw [h]; decide)
theorem tw_part_1 {g : Nat → Int32} {s : Int32} {n r : Nat} {x y z u way : Int32} (h : tw_in (fdI y s) (kI 0) (nI n - kI 1) = true) (hr : fdI y s = nI r) (hr2 : r < 2 ^ 31) (h2 : z < x) : tw_part g s n x y z u way = tw_part2 s n r way z u x y (tw_k0 s z) g := by
  rw [tw_part, if_pos h, if_pos h2, hr, nI_clamp hr2]
theorem tw_part_2 {g : Nat → Int32} {s : Int32} {n r : Nat} {x y z u way : Int32} (h : tw_in (fdI y s) (kI 0) (nI n - kI 1) = true) (hr : fdI y s = nI r) (hr2 : r < 2 ^ 31) (h2 : ¬ z < x) : tw_part g s n x y z u way = tw_part2 s n r way x y z u (tw_k0 s x) g := by
  rw [tw_part, if_pos h, if_neg h2, hr, nI_clamp hr2]
section
variable (l : Launch) (D : va_G) (q : Nat → ClassId) (d : Nat) (L : List Nat) (f : tf_F)
set_option maxHeartbeats 4000000 in
set_option maxRecDepth 100000 in
theorem t_Canvas_tail (hd : 3 ≤ d) {Φ : tf_O} {kc ks : Nat} {a ce n : Nat} {s : Int32} (hn : n ≤ 64) (hs : ¬ s = 0) (ha : a ∈ L) (hce : ce ∈ L) {r : Nat} (hr : r < n) {g : Nat → Int32} (p1 p2 p3 p4 p7 way lx ly rx ry : Int32) (fa : f a = to 2 [.ref ce, .int s, .int (nI n)]) (fg : f ce = ti q 4096 g) (hK : ∀ f2 : tf_F, f2 ce = ti q 4096 (tw_part2 s n r way lx ly rx ry (tw_k0 s lx) g) → (∀ z, z ≠ ce → f2 z = f z) → Φ none L f2) : tf_W l (tf_H D q) tf_T (tf_QM (tf_H D q) Φ) d i_Canvas_addPart 108 [(0, .ref a), (1, .int p1), (2, .int p2), (3, .int p3), (4, .int p4), (5, .int way), (6, .int (nI r)), (7, .int p7), (8, .int lx), (9, .int ly), (10, .int rx), (11, .int ry), (12, .int lx), (13, .int ly), (14, .int (if kI 0 < fdI lx s + kI 1 then fdI lx s + kI 1 else kI 0))] [] L f kc ks := by
  rw [(tw_k0_eq s lx).1]
  refine t_Canvas_cut l D q d L f (by omega) hn hs ha hce hr p1 p2 p3 p4 p7 way lx ly rx ry (n + 1 - tw_k0 s lx) (tw_k0 s lx) lx ly g f rfl (tw_k0_eq s lx).2 fa fg (fun _ _ => rfl) (fun f2 kk2 k1 k2 => ?_)
  have fa2 : f2 a = to 2 [.ref ce, .int s, .int (nI n)] := (k2 a (tf_n1 fa fg)).trans fa
  refine tf_blk _ b_Canvas_addPart_188 rfl ?_
  refine tf_abs 205 d_Canvas_addPart_202 rfl w_1026 ws_abs wm_Math wc_abs (by omega) (by exact Nat.le_of_ble_eq_true rfl) ?_
  refine tf_blk _ b_Canvas_addPart_205 rfl ?_
  refine tf_cV (tf_gok _ _) (c_Canvas_addRise l D q (d - 1) _ _ (by omega) ha fa2 (nI r) _ _ _ hce k1 hs (tw_riseIn hr hn _ s).1 (tw_riseIn hr hn _ s).2.1 (tw_riseIn hr hn _ s).2.2) 209 d_Canvas_addPart_206 rfl lk_Canvas_82 cw_Canvas_addRise (by rfl) in_Canvas_addRise se_Canvas_addRise (by first | assumption | (simp only [List.mem_append, List.mem_singleton]; simp [*])) (by exact fa2) (by rfl) (by rfl) (by omega) (by exact Nat.le_of_ble_eq_true rfl) rfl ?_
  rintro v206 L206 f206 ⟨rfl, rfl, j1, j2⟩
  refine tf_vret d_Canvas_addPart_209 rfl ?_
  exact hK _ j1 (fun z hz => (j2 z hz).trans (k2 z hz))
set_option maxHeartbeats 4000000 in
set_option maxRecDepth 100000 in
theorem c_Canvas_addPart (hd : 3 ≤ d) {a ce n : Nat} {s : Int32} (hn : n ≤ 64) (hs : ¬ s = 0) (ha : a ∈ L) (hce : ce ∈ L) {g : Nat → Int32} (x y z u way : Int32) (fa : f a = to 2 [.ref ce, .int s, .int (nI n)]) (fg : f ce = ti q 4096 g) : tf_C l (tf_H D q) d i_Canvas_addPart [.ref a, .int x, .int y, .int z, .int u, .int way] L f 0 0 (fun v L2 f2 => v = none ∧ L2 = L ∧ f2 ce = ti q 4096 (tw_part g s n x y z u way) ∧ ∀ w, w ≠ ce → f2 w = f w) := by
  refine tf_C.of (tf_gok _ _) (by decide) w_1025 (Nat.le_of_ble_eq_true rfl) ?_
  refine tf_blk _ b_Canvas_addPart_0 rfl ?_
  refine tf_get (fs := ?fs_2_4) (v := ?v_2_4) 5 d_Canvas_addPart_2 rfl fl_Canvas_15 ?ha_2_4 ?hf_2_4 ?hv_2_4 ?kk_2_4
  case ha_2_4 => first | assumption | (simp only [List.mem_append, List.mem_singleton]; simp [*])
  case hf_2_4 => first | assumption | exact va_up_self _ _ _ | (refine tf_u (by first | assumption | (apply Ne.symm; assumption) | (intro hh; subst hh; contradiction) | exact tf_n1 (by assumption) (by assumption) | exact tf_n2 (by assumption) (by assumption)) ?_; first | assumption | exact va_up_self _ _ _ | (refine tf_u (by first | assumption | (apply Ne.symm; assumption) | (intro hh; subst hh; contradiction) | exact tf_n1 (by assumption) (by assumption) | exact tf_n2 (by assumption) (by assumption)) ?_; first | assumption | exact va_up_self _ _ _ | (refine tf_u (by first | assumption | (apply Ne.symm; assumption) | (intro hh; subst hh; contradiction) | exact tf_n1 (by assumption) (by assumption) | exact tf_n2 (by assumption) (by assumption)) ?_; first | assumption | exact va_up_self _ _ _ | (refine tf_u (by first | assumption | (apply Ne.symm; assumption) | (intro hh; subst hh; contradiction) | exact tf_n1 (by assumption) (by assumption) | exact tf_n2 (by assumption) (by assumption)) ?_; first | assumption | exact va_up_self _ _ _ | (refine tf_u (by first | assumption | (apply Ne.symm; assumption) | (intro hh; subst hh; contradiction) | exact tf_n1 (by assumption) (by assumption) | exact tf_n2 (by assumption) (by assumption)) ?_; first | assumption | exact va_up_self _ _ _)))))
  case hv_2_4 => rfl
  refine tf_cS (tf_gok _ _) (c_Math_floorDiv_I l D q (d - 1) _ _ hs) 8 d_Canvas_addPart_5 rfl lk_Canvas_76 cw_Math_floorDiv_I (by rfl) sa_Math_floorDiv_I (by omega) (by exact Nat.le_of_ble_eq_true rfl) rfl ?_
  rintro v5 L5 f5 ⟨rfl, rfl, rfl⟩
  refine tf_blk _ b_Canvas_addPart_8 rfl ?_
  refine tf_get (fs := ?fs_14_6) (v := ?v_14_6) 17 d_Canvas_addPart_14 rfl fl_Canvas_19 ?ha_14_6 ?hf_14_6 ?hv_14_6 ?kk_14_6
  case ha_14_6 => first | assumption | (simp only [List.mem_append, List.mem_singleton]; simp [*])
  case hf_14_6 => first | assumption | exact va_up_self _ _ _ | (refine tf_u (by first | assumption | (apply Ne.symm; assumption) | (intro hh; subst hh; contradiction) | exact tf_n1 (by assumption) (by assumption) | exact tf_n2 (by assumption) (by assumption)) ?_; first | assumption | exact va_up_self _ _ _ | (refine tf_u (by first | assumption | (apply Ne.symm; assumption) | (intro hh; subst hh; contradiction) | exact tf_n1 (by assumption) (by assumption) | exact tf_n2 (by assumption) (by assumption)) ?_; first | assumption | exact va_up_self _ _ _ | (refine tf_u (by first | assumption | (apply Ne.symm; assumption) | (intro hh; subst hh; contradiction) | exact tf_n1 (by assumption) (by assumption) | exact tf_n2 (by assumption) (by assumption)) ?_; first | assumption | exact va_up_self _ _ _ | (refine tf_u (by first | assumption | (apply Ne.symm; assumption) | (intro hh; subst hh; contradiction) | exact tf_n1 (by assumption) (by assumption) | exact tf_n2 (by assumption) (by assumption)) ?_; first | assumption | exact va_up_self _ _ _ | (refine tf_u (by first | assumption | (apply Ne.symm; assumption) | (intro hh; subst hh; contradiction) | exact tf_n1 (by assumption) (by assumption) | exact tf_n2 (by assumption) (by assumption)) ?_; first | assumption | exact va_up_self _ _ _)))))
  case hv_14_6 => rfl
  refine tf_blk _ b_Canvas_addPart_17 rfl ?_
  refine tf_cSN (tf_gok _ _) (c_Tf_within l D q (d - 1) _ _ _ _ _) 22 d_Canvas_addPart_19 rfl lk_Canvas_47 cw_Tf_within (by rfl) sa_Tf_within (by omega) (by exact Nat.le_of_ble_eq_true rfl) rfl ?_
  rintro v19 L19 f19 ⟨rfl, rfl, rfl⟩
  refine tf_if_ne 26 25 d_Canvas_addPart_22 rfl rfl (fun h22 => ?_) (fun h22 => ?_)
  · obtain ⟨r, hr, er⟩ := tw_inN hn (bI_t h22)
    rw [er]
    refine tf_blk _ b_Canvas_addPart_26 rfl ?_
    refine tf_ic_gt 35 31 d_Canvas_addPart_28 rfl rfl (fun h28 => ?_) (fun h28 => ?_)
    · refine tf_blk _ b_Canvas_addPart_35 rfl ?_
      refine tf_blk _ b_Canvas_addPart_36 rfl ?_
      refine tf_if_eq 47 43 d_Canvas_addPart_40 rfl rfl (fun h40 => ?_) (fun h40 => absurd (show kI 0 = 0 by decide) h40)
      refine tf_blk _ b_Canvas_addPart_47 rfl ?_
      first
      | show tf_W l (tf_H D q) tf_T _ d i_Canvas_addPart 48 [(0, .ref a), (1, .int x), (2, .int y), (3, .int z), (4, .int u), (5, .int way), (6, .int (nI r)), (7, .int (kI 0))] [.int z] _ _ _ _
      | show tf_W l (tf_H D q) tf_T _ d i_Canvas_addPart 48 [(0, .ref a), (1, .int x), (2, .int y), (3, .int z), (4, .int u), (5, .int way), (6, .int (nI r)), (7, .int (kI 1))] [.int x] _ _ _ _
      refine tf_blk _ b_Canvas_addPart_48 rfl ?_
      refine tf_if_eq 59 55 d_Canvas_addPart_52 rfl rfl (fun h52 => ?_) (fun h52 => absurd (show kI 0 = 0 by decide) h52)
      refine tf_blk _ b_Canvas_addPart_59 rfl ?_
      first
      | show tf_W l (tf_H D q) tf_T _ d i_Canvas_addPart 61 [(0, .ref a), (1, .int x), (2, .int y), (3, .int z), (4, .int u), (5, .int way), (6, .int (nI r)), (7, .int (kI 0)), (8, .int z)] [.int u] _ _ _ _
      | show tf_W l (tf_H D q) tf_T _ d i_Canvas_addPart 61 [(0, .ref a), (1, .int x), (2, .int y), (3, .int z), (4, .int u), (5, .int way), (6, .int (nI r)), (7, .int (kI 1)), (8, .int x)] [.int y] _ _ _ _
      refine tf_blk _ b_Canvas_addPart_61 rfl ?_
      refine tf_if_eq 72 68 d_Canvas_addPart_65 rfl rfl (fun h65 => ?_) (fun h65 => absurd (show kI 0 = 0 by decide) h65)
      refine tf_blk _ b_Canvas_addPart_72 rfl ?_
      first
      | show tf_W l (tf_H D q) tf_T _ d i_Canvas_addPart 73 [(0, .ref a), (1, .int x), (2, .int y), (3, .int z), (4, .int u), (5, .int way), (6, .int (nI r)), (7, .int (kI 0)), (8, .int z), (9, .int u)] [.int x] _ _ _ _
      | show tf_W l (tf_H D q) tf_T _ d i_Canvas_addPart 73 [(0, .ref a), (1, .int x), (2, .int y), (3, .int z), (4, .int u), (5, .int way), (6, .int (nI r)), (7, .int (kI 1)), (8, .int x), (9, .int y)] [.int z] _ _ _ _
      refine tf_blk _ b_Canvas_addPart_73 rfl ?_
      refine tf_if_eq 85 80 d_Canvas_addPart_77 rfl rfl (fun h77 => ?_) (fun h77 => absurd (show kI 0 = 0 by decide) h77)
      refine tf_blk _ b_Canvas_addPart_85 rfl ?_
      first
      | show tf_W l (tf_H D q) tf_T _ d i_Canvas_addPart 86 [(0, .ref a), (1, .int x), (2, .int y), (3, .int z), (4, .int u), (5, .int way), (6, .int (nI r)), (7, .int (kI 0)), (8, .int z), (9, .int u), (10, .int x)] [.int y] _ _ _ _
      | show tf_W l (tf_H D q) tf_T _ d i_Canvas_addPart 86 [(0, .ref a), (1, .int x), (2, .int y), (3, .int z), (4, .int u), (5, .int way), (6, .int (nI r)), (7, .int (kI 1)), (8, .int x), (9, .int y), (10, .int z)] [.int u] _ _ _ _
      refine tf_blk _ b_Canvas_addPart_86 rfl ?_
      refine tf_cV (tf_gok _ _) (c_Canvas_firstCut l D q (d - 1) _ _ (by omega) ha fa _ hs) 103 d_Canvas_addPart_100 rfl lk_Canvas_66 cw_Canvas_firstCut (by rfl) in_Canvas_firstCut se_Canvas_firstCut (by first | assumption | (simp only [List.mem_append, List.mem_singleton]; simp [*])) (by first | assumption | exact va_up_self _ _ _ | (refine tf_u (by first | assumption | (apply Ne.symm; assumption) | (intro hh; subst hh; contradiction) | exact tf_n1 (by assumption) (by assumption) | exact tf_n2 (by assumption) (by assumption)) ?_; first | assumption | exact va_up_self _ _ _ | (refine tf_u (by first | assumption | (apply Ne.symm; assumption) | (intro hh; subst hh; contradiction) | exact tf_n1 (by assumption) (by assumption) | exact tf_n2 (by assumption) (by assumption)) ?_; first | assumption | exact va_up_self _ _ _ | (refine tf_u (by first | assumption | (apply Ne.symm; assumption) | (intro hh; subst hh; contradiction) | exact tf_n1 (by assumption) (by assumption) | exact tf_n2 (by assumption) (by assumption)) ?_; first | assumption | exact va_up_self _ _ _ | (refine tf_u (by first | assumption | (apply Ne.symm; assumption) | (intro hh; subst hh; contradiction) | exact tf_n1 (by assumption) (by assumption) | exact tf_n2 (by assumption) (by assumption)) ?_; first | assumption | exact va_up_self _ _ _ | (refine tf_u (by first | assumption | (apply Ne.symm; assumption) | (intro hh; subst hh; contradiction) | exact tf_n1 (by assumption) (by assumption) | exact tf_n2 (by assumption) (by assumption)) ?_; first | assumption | exact va_up_self _ _ _)))))) (by rfl) (by rfl) (by omega) (by exact Nat.le_of_ble_eq_true rfl) rfl ?_
      rintro v100 L100 f100 ⟨rfl, rfl, rfl⟩
      refine tf_max 106 d_Canvas_addPart_103 rfl w_1017 ws_max wm_Math wc_max (by omega) (by exact Nat.le_of_ble_eq_true rfl) ?_
      refine tf_blk _ b_Canvas_addPart_106 rfl ?_
      refine t_Canvas_tail l D q d _ _ (by omega) hn hs ha hce hr _ _ _ _ _ _ _ _ _ _ fa fg (fun f2 k1 k2 => ⟨rfl, rfl, ?_, k2⟩)
      rw [k1]
      first
      | rw [tw_part_1 (bI_t h22) er (by omega) h28]
      | rw [tw_part_2 (bI_t h22) er (by omega) h28]
    · refine tf_blk _ b_Canvas_addPart_31 rfl ?_
      refine tf_goto 36 d_Canvas_addPart_32 rfl ?_
      refine tf_blk _ b_Canvas_addPart_36 rfl ?_
      refine tf_if_eq 47 43 d_Canvas_addPart_40 rfl rfl (fun h40 => absurd h40 (show ¬ kI 1 = 0 by decide)) (fun h40 => ?_)
      refine tf_blk _ b_Canvas_addPart_43 rfl ?_
      refine tf_goto 48 d_Canvas_addPart_44 rfl ?_
      first
      | show tf_W l (tf_H D q) tf_T _ d i_Canvas_addPart 48 [(0, .ref a), (1, .int x), (2, .int y), (3, .int z), (4, .int u), (5, .int way), (6, .int (nI r)), (7, .int (kI 0))] [.int z] _ _ _ _
      | show tf_W l (tf_H D q) tf_T _ d i_Canvas_addPart 48 [(0, .ref a), (1, .int x), (2, .int y), (3, .int z), (4, .int u), (5, .int way), (6, .int (nI r)), (7, .int (kI 1))] [.int x] _ _ _ _
      refine tf_blk _ b_Canvas_addPart_48 rfl ?_
      refine tf_if_eq 59 55 d_Canvas_addPart_52 rfl rfl (fun h52 => absurd h52 (show ¬ kI 1 = 0 by decide)) (fun h52 => ?_)
      refine tf_blk _ b_Canvas_addPart_55 rfl ?_
      refine tf_goto 61 d_Canvas_addPart_56 rfl ?_
      first
      | show tf_W l (tf_H D q) tf_T _ d i_Canvas_addPart 61 [(0, .ref a), (1, .int x), (2, .int y), (3, .int z), (4, .int u), (5, .int way), (6, .int (nI r)), (7, .int (kI 0)), (8, .int z)] [.int u] _ _ _ _
      | show tf_W l (tf_H D q) tf_T _ d i_Canvas_addPart 61 [(0, .ref a), (1, .int x), (2, .int y), (3, .int z), (4, .int u), (5, .int way), (6, .int (nI r)), (7, .int (kI 1)), (8, .int x)] [.int y] _ _ _ _
      refine tf_blk _ b_Canvas_addPart_61 rfl ?_
      refine tf_if_eq 72 68 d_Canvas_addPart_65 rfl rfl (fun h65 => absurd h65 (show ¬ kI 1 = 0 by decide)) (fun h65 => ?_)
      refine tf_blk _ b_Canvas_addPart_68 rfl ?_
      refine tf_goto 73 d_Canvas_addPart_69 rfl ?_
      first
      | show tf_W l (tf_H D q) tf_T _ d i_Canvas_addPart 73 [(0, .ref a), (1, .int x), (2, .int y), (3, .int z), (4, .int u), (5, .int way), (6, .int (nI r)), (7, .int (kI 0)), (8, .int z), (9, .int u)] [.int x] _ _ _ _
      | show tf_W l (tf_H D q) tf_T _ d i_Canvas_addPart 73 [(0, .ref a), (1, .int x), (2, .int y), (3, .int z), (4, .int u), (5, .int way), (6, .int (nI r)), (7, .int (kI 1)), (8, .int x), (9, .int y)] [.int z] _ _ _ _
      refine tf_blk _ b_Canvas_addPart_73 rfl ?_
      refine tf_if_eq 85 80 d_Canvas_addPart_77 rfl rfl (fun h77 => absurd h77 (show ¬ kI 1 = 0 by decide)) (fun h77 => ?_)
      refine tf_blk _ b_Canvas_addPart_80 rfl ?_
      refine tf_goto 86 d_Canvas_addPart_82 rfl ?_
      first
      | show tf_W l (tf_H D q) tf_T _ d i_Canvas_addPart 86 [(0, .ref a), (1, .int x), (2, .int y), (3, .int z), (4, .int u), (5, .int way), (6, .int (nI r)), (7, .int (kI 0)), (8, .int z), (9, .int u), (10, .int x)] [.int y] _ _ _ _
      | show tf_W l (tf_H D q) tf_T _ d i_Canvas_addPart 86 [(0, .ref a), (1, .int x), (2, .int y), (3, .int z), (4, .int u), (5, .int way), (6, .int (nI r)), (7, .int (kI 1)), (8, .int x), (9, .int y), (10, .int z)] [.int u] _ _ _ _
      refine tf_blk _ b_Canvas_addPart_86 rfl ?_
      refine tf_cV (tf_gok _ _) (c_Canvas_firstCut l D q (d - 1) _ _ (by omega) ha fa _ hs) 103 d_Canvas_addPart_100 rfl lk_Canvas_66 cw_Canvas_firstCut (by rfl) in_Canvas_firstCut se_Canvas_firstCut (by first | assumption | (simp only [List.mem_append, List.mem_singleton]; simp [*])) (by first | assumption | exact va_up_self _ _ _ | (refine tf_u (by first | assumption | (apply Ne.symm; assumption) | (intro hh; subst hh; contradiction) | exact tf_n1 (by assumption) (by assumption) | exact tf_n2 (by assumption) (by assumption)) ?_; first | assumption | exact va_up_self _ _ _ | (refine tf_u (by first | assumption | (apply Ne.symm; assumption) | (intro hh; subst hh; contradiction) | exact tf_n1 (by assumption) (by assumption) | exact tf_n2 (by assumption) (by assumption)) ?_; first | assumption | exact va_up_self _ _ _ | (refine tf_u (by first | assumption | (apply Ne.symm; assumption) | (intro hh; subst hh; contradiction) | exact tf_n1 (by assumption) (by assumption) | exact tf_n2 (by assumption) (by assumption)) ?_; first | assumption | exact va_up_self _ _ _ | (refine tf_u (by first | assumption | (apply Ne.symm; assumption) | (intro hh; subst hh; contradiction) | exact tf_n1 (by assumption) (by assumption) | exact tf_n2 (by assumption) (by assumption)) ?_; first | assumption | exact va_up_self _ _ _ | (refine tf_u (by first | assumption | (apply Ne.symm; assumption) | (intro hh; subst hh; contradiction) | exact tf_n1 (by assumption) (by assumption) | exact tf_n2 (by assumption) (by assumption)) ?_; first | assumption | exact va_up_self _ _ _)))))) (by rfl) (by rfl) (by omega) (by exact Nat.le_of_ble_eq_true rfl) rfl ?_
      rintro v100 L100 f100 ⟨rfl, rfl, rfl⟩
      refine tf_max 106 d_Canvas_addPart_103 rfl w_1017 ws_max wm_Math wc_max (by omega) (by exact Nat.le_of_ble_eq_true rfl) ?_
      refine tf_blk _ b_Canvas_addPart_106 rfl ?_
      refine t_Canvas_tail l D q d _ _ (by omega) hn hs ha hce hr _ _ _ _ _ _ _ _ _ _ fa fg (fun f2 k1 k2 => ⟨rfl, rfl, ?_, k2⟩)
      rw [k1]
      first
      | rw [tw_part_1 (bI_t h22) er (by omega) h28]
      | rw [tw_part_2 (bI_t h22) er (by omega) h28]
  · refine tf_vret d_Canvas_addPart_25 rfl ?_
    exact ⟨rfl, rfl, by rw [tw_part_0 (bI_f h22)]; assumption, fun _ _ => rfl⟩
end
