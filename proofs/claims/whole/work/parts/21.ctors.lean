/-! constructors of the small classes -/
/-- what a constructor of an object at a with new cells qs leaves: the object, the cells, all else as it was -/
def tf_mk (L : List Nat) (f : tf_F) (a : Nat) (qs : List (Nat × va_E)) (ob : va_E) : tf_O := fun v L2 f2 =>
  v = none ∧ L2 = L ++ qs.map Prod.fst ∧ (∀ q ∈ qs, q.1 ∉ L) ∧ (qs.map Prod.fst).Nodup ∧ f2 a = ob ∧ (∀ q ∈ qs, f2 q.1 = q.2) ∧ ∀ z, z ∈ L → z ≠ a → f2 z = f z
section
variable (l : Launch) (D : va_G) (q : Nat → ClassId) (d : Nat) (L : List Nat) (f : tf_F)
set_option maxHeartbeats 4000000 in
set_option maxRecDepth 100000 in
theorem c_Heights_init (hd : 1 ≤ d) {a : Nat} (ha : a ∈ L) (fa : f a = to 4 [.int 0, .null]) : tf_C l (tf_H D q) d i_Heights_init [.ref a] L f 1 8 (fun v L2 f2 => ∃ q7 : Nat, tf_mk L f a [(q7, ti q 8 (fun _ => 0))] (to 4 [.int 0, .ref q7]) v L2 f2) := by
  refine tf_C.of (tf_gok _ _) (by decide) w_116 (Nat.le_of_ble_eq_true rfl) ?_
  refine tf_blk _ b_Heights_init_0 rfl ?_
  refine tf_obj 4 d_Heights_init_1 rfl w_117 wi_obj wc_obj (by omega) (by decide) ?_
  refine tf_blk _ b_Heights_init_4 rfl ?_
  refine tf_newa (N := 8) (a0 := (8, .inl (fun _ => 0))) 9 0 d_Heights_init_7 rfl rfl wa_int rfl (by decide) (by decide) (by decide) (fun _ => rfl) (fun q7 hq7 => ?_)
  have a_q7 : a ≠ q7 := fun hh => hq7 (hh ▸ (by simp [ha]))
  have n_q7 : q7 ∉ L := fun hh => hq7 (by simp [hh])
  refine tf_putF (fs := ?fs_9_3) 12 d_Heights_init_9 rfl ff_Heights_9 rfl ?ha_9_3 ?hf_9_3 ?hl_9_3 ?hn_9_3 ?ht_9_3 ?kk_9_3
  case ha_9_3 => first | assumption | (simp only [List.mem_append, List.mem_singleton]; simp [*])
  case hf_9_3 => first | assumption | exact va_up_self _ _ _ | (refine tf_u (by first | assumption | (apply Ne.symm; assumption) | (intro hh; subst hh; contradiction)) ?_; first | assumption | exact va_up_self _ _ _ | (refine tf_u (by first | assumption | (apply Ne.symm; assumption) | (intro hh; subst hh; contradiction)) ?_; first | assumption | exact va_up_self _ _ _ | (refine tf_u (by first | assumption | (apply Ne.symm; assumption) | (intro hh; subst hh; contradiction)) ?_; first | assumption | exact va_up_self _ _ _ | (refine tf_u (by first | assumption | (apply Ne.symm; assumption) | (intro hh; subst hh; contradiction)) ?_; first | assumption | exact va_up_self _ _ _ | (refine tf_u (by first | assumption | (apply Ne.symm; assumption) | (intro hh; subst hh; contradiction)) ?_; first | assumption | exact va_up_self _ _ _)))))
  case hl_9_3 => exact Nat.le_of_ble_eq_true rfl
  case hn_9_3 => rfl
  case ht_9_3 => rfl
  refine tf_vret d_Heights_init_12 rfl ?_
  refine ⟨q7, rfl, by simp, ?_, ?_, ?_, ?_, ?_⟩
  · simp only [List.forall_mem_cons, List.not_mem_nil, false_implies, implies_true, and_true]
    exact n_q7
  · simp
  · repeat (first | exact va_up_self _ _ _ | refine tf_u (by first | assumption | (apply Ne.symm; assumption)) ?_)
  · simp only [List.forall_mem_cons, List.not_mem_nil, false_implies, implies_true, and_true]
    repeat (first | exact va_up_self _ _ _ | refine tf_u (by first | assumption | (apply Ne.symm; assumption)) ?_)
  · intro z hz hza
    have z_q7 : z ≠ q7 := fun hh => n_q7 (hh ▸ hz)
    iterate 2 refine tf_u (by first | assumption | (apply Ne.symm; assumption)) ?_
    rfl
set_option maxHeartbeats 4000000 in
set_option maxRecDepth 100000 in
theorem c_Canvas_init (hd : 1 ≤ d) {a : Nat} (ha : a ∈ L) (fa : f a = to 2 [.null, .int 0, .int 0]) : tf_C l (tf_H D q) d i_Canvas_init [.ref a] L f 1 4096 (fun v L2 f2 => ∃ q8 : Nat, tf_mk L f a [(q8, ti q 4096 (fun _ => 0))] (to 2 [.ref q8, .int (kI 32), .int 0]) v L2 f2) := by
  refine tf_C.of (tf_gok _ _) (by decide) w_130 (Nat.le_of_ble_eq_true rfl) ?_
  refine tf_blk _ b_Canvas_init_0 rfl ?_
  refine tf_obj 4 d_Canvas_init_1 rfl w_131 wi_obj wc_obj (by omega) (by decide) ?_
  refine tf_blk _ b_Canvas_init_4 rfl ?_
  refine tf_newa (N := 4096) (a0 := (4096, .inl (fun _ => 0))) 10 0 d_Canvas_init_8 rfl rfl wa_int rfl (by decide) (by decide) (by decide) (fun _ => rfl) (fun q8 hq8 => ?_)
  have a_q8 : a ≠ q8 := fun hh => hq8 (hh ▸ (by simp [ha]))
  have n_q8 : q8 ∉ L := fun hh => hq8 (by simp [hh])
  refine tf_putF (fs := ?fs_10_7) 13 d_Canvas_init_10 rfl ff_Canvas_11 rfl ?ha_10_7 ?hf_10_7 ?hl_10_7 ?hn_10_7 ?ht_10_7 ?kk_10_7
  case ha_10_7 => first | assumption | (simp only [List.mem_append, List.mem_singleton]; simp [*])
  case hf_10_7 => first | assumption | exact va_up_self _ _ _ | (refine tf_u (by first | assumption | (apply Ne.symm; assumption) | (intro hh; subst hh; contradiction)) ?_; first | assumption | exact va_up_self _ _ _ | (refine tf_u (by first | assumption | (apply Ne.symm; assumption) | (intro hh; subst hh; contradiction)) ?_; first | assumption | exact va_up_self _ _ _ | (refine tf_u (by first | assumption | (apply Ne.symm; assumption) | (intro hh; subst hh; contradiction)) ?_; first | assumption | exact va_up_self _ _ _ | (refine tf_u (by first | assumption | (apply Ne.symm; assumption) | (intro hh; subst hh; contradiction)) ?_; first | assumption | exact va_up_self _ _ _ | (refine tf_u (by first | assumption | (apply Ne.symm; assumption) | (intro hh; subst hh; contradiction)) ?_; first | assumption | exact va_up_self _ _ _)))))
  case hl_10_7 => exact Nat.le_of_ble_eq_true rfl
  case hn_10_7 => rfl
  case ht_10_7 => rfl
  refine tf_blk _ b_Canvas_init_13 rfl ?_
  refine tf_put (fs := ?fs_16_8) 19 d_Canvas_init_16 rfl fw_Canvas_15 ?ha_16_8 ?hf_16_8 ?hl_16_8 ?hn_16_8 ?ht_16_8 ?kk_16_8
  case ha_16_8 => first | assumption | (simp only [List.mem_append, List.mem_singleton]; simp [*])
  case hf_16_8 => first | assumption | exact va_up_self _ _ _ | (refine tf_u (by first | assumption | (apply Ne.symm; assumption) | (intro hh; subst hh; contradiction)) ?_; first | assumption | exact va_up_self _ _ _ | (refine tf_u (by first | assumption | (apply Ne.symm; assumption) | (intro hh; subst hh; contradiction)) ?_; first | assumption | exact va_up_self _ _ _ | (refine tf_u (by first | assumption | (apply Ne.symm; assumption) | (intro hh; subst hh; contradiction)) ?_; first | assumption | exact va_up_self _ _ _ | (refine tf_u (by first | assumption | (apply Ne.symm; assumption) | (intro hh; subst hh; contradiction)) ?_; first | assumption | exact va_up_self _ _ _ | (refine tf_u (by first | assumption | (apply Ne.symm; assumption) | (intro hh; subst hh; contradiction)) ?_; first | assumption | exact va_up_self _ _ _)))))
  case hl_16_8 => exact Nat.le_of_ble_eq_true rfl
  case hn_16_8 => rfl
  case ht_16_8 => rfl
  refine tf_vret d_Canvas_init_19 rfl ?_
  refine ⟨q8, rfl, by simp, ?_, ?_, ?_, ?_, ?_⟩
  · simp only [List.forall_mem_cons, List.not_mem_nil, false_implies, implies_true, and_true]
    exact n_q8
  · simp
  · repeat (first | exact va_up_self _ _ _ | refine tf_u (by first | assumption | (apply Ne.symm; assumption)) ?_)
  · simp only [List.forall_mem_cons, List.not_mem_nil, false_implies, implies_true, and_true]
    repeat (first | exact va_up_self _ _ _ | refine tf_u (by first | assumption | (apply Ne.symm; assumption)) ?_)
  · intro z hz hza
    have z_q8 : z ≠ q8 := fun hh => n_q8 (hh ▸ hz)
    iterate 3 refine tf_u (by first | assumption | (apply Ne.symm; assumption)) ?_
    rfl
set_option maxHeartbeats 4000000 in
set_option maxRecDepth 100000 in
theorem c_Path_init (hd : 1 ≤ d) {a : Nat} (ha : a ∈ L) (fa : f a = to 8 [.null, .null, .int 0]) : tf_C l (tf_H D q) d i_Path_init [.ref a] L f 2 640 (fun v L2 f2 => ∃ q8 q17 : Nat, tf_mk L f a [(q8, ti q 320 (fun _ => 0)), (q17, ti q 320 (fun _ => 0))] (to 8 [.ref q8, .ref q17, .int 0]) v L2 f2) := by
  refine tf_C.of (tf_gok _ _) (by decide) w_97 (Nat.le_of_ble_eq_true rfl) ?_
  refine tf_blk _ b_Path_init_0 rfl ?_
  refine tf_obj 4 d_Path_init_1 rfl w_98 wi_obj wc_obj (by omega) (by decide) ?_
  refine tf_blk _ b_Path_init_4 rfl ?_
  refine tf_newa (N := 320) (a0 := (320, .inl (fun _ => 0))) 10 0 d_Path_init_8 rfl rfl wa_int rfl (by decide) (by decide) (by decide) (fun _ => rfl) (fun q8 hq8 => ?_)
  have a_q8 : a ≠ q8 := fun hh => hq8 (hh ▸ (by simp [ha]))
  have n_q8 : q8 ∉ L := fun hh => hq8 (by simp [hh])
  refine tf_putF (fs := ?fs_10_12) 13 d_Path_init_10 rfl ff_Path_9 rfl ?ha_10_12 ?hf_10_12 ?hl_10_12 ?hn_10_12 ?ht_10_12 ?kk_10_12
  case ha_10_12 => first | assumption | (simp only [List.mem_append, List.mem_singleton]; simp [*])
  case hf_10_12 => first | assumption | exact va_up_self _ _ _ | (refine tf_u (by first | assumption | (apply Ne.symm; assumption) | (intro hh; subst hh; contradiction)) ?_; first | assumption | exact va_up_self _ _ _ | (refine tf_u (by first | assumption | (apply Ne.symm; assumption) | (intro hh; subst hh; contradiction)) ?_; first | assumption | exact va_up_self _ _ _ | (refine tf_u (by first | assumption | (apply Ne.symm; assumption) | (intro hh; subst hh; contradiction)) ?_; first | assumption | exact va_up_self _ _ _ | (refine tf_u (by first | assumption | (apply Ne.symm; assumption) | (intro hh; subst hh; contradiction)) ?_; first | assumption | exact va_up_self _ _ _ | (refine tf_u (by first | assumption | (apply Ne.symm; assumption) | (intro hh; subst hh; contradiction)) ?_; first | assumption | exact va_up_self _ _ _)))))
  case hl_10_12 => exact Nat.le_of_ble_eq_true rfl
  case hn_10_12 => rfl
  case ht_10_12 => rfl
  refine tf_blk _ b_Path_init_13 rfl ?_
  refine tf_newa (N := 320) (a0 := (320, .inl (fun _ => 0))) 19 0 d_Path_init_17 rfl rfl wa_int rfl (by decide) (by decide) (by decide) (fun _ => rfl) (fun q17 hq17 => ?_)
  have a_q17 : a ≠ q17 := fun hh => hq17 (hh ▸ (by simp [ha]))
  have n_q17 : q17 ∉ L := fun hh => hq17 (by simp [hh])
  have q8_q17 : q8 ≠ q17 := fun hh => hq17 (hh ▸ (by simp))
  refine tf_putF (fs := ?fs_19_14) 22 d_Path_init_19 rfl ff_Path_15 rfl ?ha_19_14 ?hf_19_14 ?hl_19_14 ?hn_19_14 ?ht_19_14 ?kk_19_14
  case ha_19_14 => first | assumption | (simp only [List.mem_append, List.mem_singleton]; simp [*])
  case hf_19_14 => first | assumption | exact va_up_self _ _ _ | (refine tf_u (by first | assumption | (apply Ne.symm; assumption) | (intro hh; subst hh; contradiction)) ?_; first | assumption | exact va_up_self _ _ _ | (refine tf_u (by first | assumption | (apply Ne.symm; assumption) | (intro hh; subst hh; contradiction)) ?_; first | assumption | exact va_up_self _ _ _ | (refine tf_u (by first | assumption | (apply Ne.symm; assumption) | (intro hh; subst hh; contradiction)) ?_; first | assumption | exact va_up_self _ _ _ | (refine tf_u (by first | assumption | (apply Ne.symm; assumption) | (intro hh; subst hh; contradiction)) ?_; first | assumption | exact va_up_self _ _ _ | (refine tf_u (by first | assumption | (apply Ne.symm; assumption) | (intro hh; subst hh; contradiction)) ?_; first | assumption | exact va_up_self _ _ _)))))
  case hl_19_14 => exact Nat.le_of_ble_eq_true rfl
  case hn_19_14 => rfl
  case ht_19_14 => rfl
  refine tf_vret d_Path_init_22 rfl ?_
  refine ⟨q8, q17, rfl, by simp, ?_, ?_, ?_, ?_, ?_⟩
  · simp only [List.forall_mem_cons, List.not_mem_nil, false_implies, implies_true, and_true]
    exact ⟨n_q8, n_q17⟩
  · simp only [List.map_cons, List.map_nil, List.nodup_cons, List.mem_cons, List.not_mem_nil, or_false, not_or, List.nodup_nil, and_true, not_false_eq_true]
    exact q8_q17
  · repeat (first | exact va_up_self _ _ _ | refine tf_u (by first | assumption | (apply Ne.symm; assumption)) ?_)
  · simp only [List.forall_mem_cons, List.not_mem_nil, false_implies, implies_true, and_true]
    refine ⟨?_, ?_⟩ <;> (repeat (first | exact va_up_self _ _ _ | refine tf_u (by first | assumption | (apply Ne.symm; assumption)) ?_))
  · intro z hz hza
    have z_q8 : z ≠ q8 := fun hh => n_q8 (hh ▸ hz)
    have z_q17 : z ≠ q17 := fun hh => n_q17 (hh ▸ hz)
    iterate 4 refine tf_u (by first | assumption | (apply Ne.symm; assumption)) ?_
    rfl
set_option maxHeartbeats 4000000 in
set_option maxRecDepth 100000 in
theorem c_Outline_init (hd : 1 ≤ d) {a : Nat} (ha : a ∈ L) (fa : f a = to 6 [.null, .null, .null, .null, .int 0, .null, .int 0]) : tf_C l (tf_H D q) d i_Outline_init [.ref a] L f 5 694 (fun v L2 f2 => ∃ q8 q17 q26 q34 q43 : Nat, tf_mk L f a [(q8, ti q 160 (fun _ => 0)), (q17, ti q 160 (fun _ => 0)), (q26, tz q 160 (fun _ => 0)), (q34, ti q 54 (fun _ => 0)), (q43, ti q 160 (fun _ => 0))] (to 6 [.ref q8, .ref q17, .ref q26, .ref q34, .int 0, .ref q43, .int 0]) v L2 f2) := by
  refine tf_C.of (tf_gok _ _) (by decide) w_62 (Nat.le_of_ble_eq_true rfl) ?_
  refine tf_blk _ b_Outline_init_0 rfl ?_
  refine tf_obj 4 d_Outline_init_1 rfl w_63 wi_obj wc_obj (by omega) (by decide) ?_
  refine tf_blk _ b_Outline_init_4 rfl ?_
  refine tf_newa (N := 160) (a0 := (160, .inl (fun _ => 0))) 10 0 d_Outline_init_8 rfl rfl wa_int rfl (by decide) (by decide) (by decide) (fun _ => rfl) (fun q8 hq8 => ?_)
  have a_q8 : a ≠ q8 := fun hh => hq8 (hh ▸ (by simp [ha]))
  have n_q8 : q8 ∉ L := fun hh => hq8 (by simp [hh])
  refine tf_putF (fs := ?fs_10_18) 13 d_Outline_init_10 rfl ff_Outline_9 rfl ?ha_10_18 ?hf_10_18 ?hl_10_18 ?hn_10_18 ?ht_10_18 ?kk_10_18
  case ha_10_18 => first | assumption | (simp only [List.mem_append, List.mem_singleton]; simp [*])
  case hf_10_18 => first | assumption | exact va_up_self _ _ _ | (refine tf_u (by first | assumption | (apply Ne.symm; assumption) | (intro hh; subst hh; contradiction)) ?_; first | assumption | exact va_up_self _ _ _ | (refine tf_u (by first | assumption | (apply Ne.symm; assumption) | (intro hh; subst hh; contradiction)) ?_; first | assumption | exact va_up_self _ _ _ | (refine tf_u (by first | assumption | (apply Ne.symm; assumption) | (intro hh; subst hh; contradiction)) ?_; first | assumption | exact va_up_self _ _ _ | (refine tf_u (by first | assumption | (apply Ne.symm; assumption) | (intro hh; subst hh; contradiction)) ?_; first | assumption | exact va_up_self _ _ _ | (refine tf_u (by first | assumption | (apply Ne.symm; assumption) | (intro hh; subst hh; contradiction)) ?_; first | assumption | exact va_up_self _ _ _)))))
  case hl_10_18 => exact Nat.le_of_ble_eq_true rfl
  case hn_10_18 => rfl
  case ht_10_18 => rfl
  refine tf_blk _ b_Outline_init_13 rfl ?_
  refine tf_newa (N := 160) (a0 := (160, .inl (fun _ => 0))) 19 0 d_Outline_init_17 rfl rfl wa_int rfl (by decide) (by decide) (by decide) (fun _ => rfl) (fun q17 hq17 => ?_)
  have a_q17 : a ≠ q17 := fun hh => hq17 (hh ▸ (by simp [ha]))
  have n_q17 : q17 ∉ L := fun hh => hq17 (by simp [hh])
  have q8_q17 : q8 ≠ q17 := fun hh => hq17 (hh ▸ (by simp))
  refine tf_putF (fs := ?fs_19_20) 22 d_Outline_init_19 rfl ff_Outline_15 rfl ?ha_19_20 ?hf_19_20 ?hl_19_20 ?hn_19_20 ?ht_19_20 ?kk_19_20
  case ha_19_20 => first | assumption | (simp only [List.mem_append, List.mem_singleton]; simp [*])
  case hf_19_20 => first | assumption | exact va_up_self _ _ _ | (refine tf_u (by first | assumption | (apply Ne.symm; assumption) | (intro hh; subst hh; contradiction)) ?_; first | assumption | exact va_up_self _ _ _ | (refine tf_u (by first | assumption | (apply Ne.symm; assumption) | (intro hh; subst hh; contradiction)) ?_; first | assumption | exact va_up_self _ _ _ | (refine tf_u (by first | assumption | (apply Ne.symm; assumption) | (intro hh; subst hh; contradiction)) ?_; first | assumption | exact va_up_self _ _ _ | (refine tf_u (by first | assumption | (apply Ne.symm; assumption) | (intro hh; subst hh; contradiction)) ?_; first | assumption | exact va_up_self _ _ _ | (refine tf_u (by first | assumption | (apply Ne.symm; assumption) | (intro hh; subst hh; contradiction)) ?_; first | assumption | exact va_up_self _ _ _)))))
  case hl_19_20 => exact Nat.le_of_ble_eq_true rfl
  case hn_19_20 => rfl
  case ht_19_20 => rfl
  refine tf_blk _ b_Outline_init_22 rfl ?_
  refine tf_newa (N := 160) (a0 := (160, .inl (fun _ => 0))) 28 1 d_Outline_init_26 rfl rfl wa_boolean rfl (by decide) (by decide) (by decide) (fun _ => rfl) (fun q26 hq26 => ?_)
  have a_q26 : a ≠ q26 := fun hh => hq26 (hh ▸ (by simp [ha]))
  have n_q26 : q26 ∉ L := fun hh => hq26 (by simp [hh])
  have q8_q26 : q8 ≠ q26 := fun hh => hq26 (hh ▸ (by simp))
  have q17_q26 : q17 ≠ q26 := fun hh => hq26 (hh ▸ (by simp))
  refine tf_putF (fs := ?fs_28_22) 31 d_Outline_init_28 rfl ff_Outline_18 rfl ?ha_28_22 ?hf_28_22 ?hl_28_22 ?hn_28_22 ?ht_28_22 ?kk_28_22
  case ha_28_22 => first | assumption | (simp only [List.mem_append, List.mem_singleton]; simp [*])
  case hf_28_22 => first | assumption | exact va_up_self _ _ _ | (refine tf_u (by first | assumption | (apply Ne.symm; assumption) | (intro hh; subst hh; contradiction)) ?_; first | assumption | exact va_up_self _ _ _ | (refine tf_u (by first | assumption | (apply Ne.symm; assumption) | (intro hh; subst hh; contradiction)) ?_; first | assumption | exact va_up_self _ _ _ | (refine tf_u (by first | assumption | (apply Ne.symm; assumption) | (intro hh; subst hh; contradiction)) ?_; first | assumption | exact va_up_self _ _ _ | (refine tf_u (by first | assumption | (apply Ne.symm; assumption) | (intro hh; subst hh; contradiction)) ?_; first | assumption | exact va_up_self _ _ _ | (refine tf_u (by first | assumption | (apply Ne.symm; assumption) | (intro hh; subst hh; contradiction)) ?_; first | assumption | exact va_up_self _ _ _)))))
  case hl_28_22 => exact Nat.le_of_ble_eq_true rfl
  case hn_28_22 => rfl
  case ht_28_22 => rfl
  refine tf_blk _ b_Outline_init_31 rfl ?_
  refine tf_newa (N := 54) (a0 := (54, .inl (fun _ => 0))) 36 0 d_Outline_init_34 rfl rfl wa_int rfl (by decide) (by decide) (by decide) (fun _ => rfl) (fun q34 hq34 => ?_)
  have a_q34 : a ≠ q34 := fun hh => hq34 (hh ▸ (by simp [ha]))
  have n_q34 : q34 ∉ L := fun hh => hq34 (by simp [hh])
  have q8_q34 : q8 ≠ q34 := fun hh => hq34 (hh ▸ (by simp))
  have q17_q34 : q17 ≠ q34 := fun hh => hq34 (hh ▸ (by simp))
  have q26_q34 : q26 ≠ q34 := fun hh => hq34 (hh ▸ (by simp))
  refine tf_putF (fs := ?fs_36_24) 39 d_Outline_init_36 rfl ff_Outline_22 rfl ?ha_36_24 ?hf_36_24 ?hl_36_24 ?hn_36_24 ?ht_36_24 ?kk_36_24
  case ha_36_24 => first | assumption | (simp only [List.mem_append, List.mem_singleton]; simp [*])
  case hf_36_24 => first | assumption | exact va_up_self _ _ _ | (refine tf_u (by first | assumption | (apply Ne.symm; assumption) | (intro hh; subst hh; contradiction)) ?_; first | assumption | exact va_up_self _ _ _ | (refine tf_u (by first | assumption | (apply Ne.symm; assumption) | (intro hh; subst hh; contradiction)) ?_; first | assumption | exact va_up_self _ _ _ | (refine tf_u (by first | assumption | (apply Ne.symm; assumption) | (intro hh; subst hh; contradiction)) ?_; first | assumption | exact va_up_self _ _ _ | (refine tf_u (by first | assumption | (apply Ne.symm; assumption) | (intro hh; subst hh; contradiction)) ?_; first | assumption | exact va_up_self _ _ _ | (refine tf_u (by first | assumption | (apply Ne.symm; assumption) | (intro hh; subst hh; contradiction)) ?_; first | assumption | exact va_up_self _ _ _)))))
  case hl_36_24 => exact Nat.le_of_ble_eq_true rfl
  case hn_36_24 => rfl
  case ht_36_24 => rfl
  refine tf_blk _ b_Outline_init_39 rfl ?_
  refine tf_newa (N := 160) (a0 := (160, .inl (fun _ => 0))) 45 0 d_Outline_init_43 rfl rfl wa_int rfl (by decide) (by decide) (by decide) (fun _ => rfl) (fun q43 hq43 => ?_)
  have a_q43 : a ≠ q43 := fun hh => hq43 (hh ▸ (by simp [ha]))
  have n_q43 : q43 ∉ L := fun hh => hq43 (by simp [hh])
  have q8_q43 : q8 ≠ q43 := fun hh => hq43 (hh ▸ (by simp))
  have q17_q43 : q17 ≠ q43 := fun hh => hq43 (hh ▸ (by simp))
  have q26_q43 : q26 ≠ q43 := fun hh => hq43 (hh ▸ (by simp))
  have q34_q43 : q34 ≠ q43 := fun hh => hq43 (hh ▸ (by simp))
  refine tf_putF (fs := ?fs_45_26) 48 d_Outline_init_45 rfl ff_Outline_25 rfl ?ha_45_26 ?hf_45_26 ?hl_45_26 ?hn_45_26 ?ht_45_26 ?kk_45_26
  case ha_45_26 => first | assumption | (simp only [List.mem_append, List.mem_singleton]; simp [*])
  case hf_45_26 => first | assumption | exact va_up_self _ _ _ | (refine tf_u (by first | assumption | (apply Ne.symm; assumption) | (intro hh; subst hh; contradiction)) ?_; first | assumption | exact va_up_self _ _ _ | (refine tf_u (by first | assumption | (apply Ne.symm; assumption) | (intro hh; subst hh; contradiction)) ?_; first | assumption | exact va_up_self _ _ _ | (refine tf_u (by first | assumption | (apply Ne.symm; assumption) | (intro hh; subst hh; contradiction)) ?_; first | assumption | exact va_up_self _ _ _ | (refine tf_u (by first | assumption | (apply Ne.symm; assumption) | (intro hh; subst hh; contradiction)) ?_; first | assumption | exact va_up_self _ _ _ | (refine tf_u (by first | assumption | (apply Ne.symm; assumption) | (intro hh; subst hh; contradiction)) ?_; first | assumption | exact va_up_self _ _ _)))))
  case hl_45_26 => exact Nat.le_of_ble_eq_true rfl
  case hn_45_26 => rfl
  case ht_45_26 => rfl
  refine tf_vret d_Outline_init_48 rfl ?_
  refine ⟨q8, q17, q26, q34, q43, rfl, by simp, ?_, ?_, ?_, ?_, ?_⟩
  · simp only [List.forall_mem_cons, List.not_mem_nil, false_implies, implies_true, and_true]
    exact ⟨n_q8, n_q17, n_q26, n_q34, n_q43⟩
  · simp only [List.map_cons, List.map_nil, List.nodup_cons, List.mem_cons, List.not_mem_nil, or_false, not_or, List.nodup_nil, and_true, not_false_eq_true]
    exact ⟨⟨q8_q17, q8_q26, q8_q34, q8_q43⟩, ⟨q17_q26, q17_q34, q17_q43⟩, ⟨q26_q34, q26_q43⟩, q34_q43⟩
  · repeat (first | exact va_up_self _ _ _ | refine tf_u (by first | assumption | (apply Ne.symm; assumption)) ?_)
  · simp only [List.forall_mem_cons, List.not_mem_nil, false_implies, implies_true, and_true]
    refine ⟨?_, ?_, ?_, ?_, ?_⟩ <;> (repeat (first | exact va_up_self _ _ _ | refine tf_u (by first | assumption | (apply Ne.symm; assumption)) ?_))
  · intro z hz hza
    have z_q8 : z ≠ q8 := fun hh => n_q8 (hh ▸ hz)
    have z_q17 : z ≠ q17 := fun hh => n_q17 (hh ▸ hz)
    have z_q26 : z ≠ q26 := fun hh => n_q26 (hh ▸ hz)
    have z_q34 : z ≠ q34 := fun hh => n_q34 (hh ▸ hz)
    have z_q43 : z ≠ q43 := fun hh => n_q43 (hh ▸ hz)
    iterate 10 refine tf_u (by first | assumption | (apply Ne.symm; assumption)) ?_
    rfl
set_option maxHeartbeats 4000000 in
set_option maxRecDepth 100000 in
theorem c_Kerning_init (hd : 1 ≤ d) {a : Nat} (ha : a ∈ L) (fa : f a = to 5 [.int 0, .null, .null, .null, .null, .null, .null]) : tf_C l (tf_H D q) d i_Kerning_init [.ref a] L f 6 456 (fun v L2 f2 => ∃ q7 q15 q24 q32 q40 q48 : Nat, tf_mk L f a [(q7, ti q 40 (fun _ => 0)), (q15, ti q 40 (fun _ => 0)), (q24, ti q 256 (fun _ => 0)), (q32, ti q 40 (fun _ => 0)), (q40, ti q 40 (fun _ => 0)), (q48, ti q 40 (fun _ => 0))] (to 5 [.int 0, .ref q7, .ref q15, .ref q24, .ref q32, .ref q40, .ref q48]) v L2 f2) := by
  refine tf_C.of (tf_gok _ _) (by decide) w_146 (Nat.le_of_ble_eq_true rfl) ?_
  refine tf_blk _ b_Kerning_init_0 rfl ?_
  refine tf_obj 4 d_Kerning_init_1 rfl w_147 wi_obj wc_obj (by omega) (by decide) ?_
  refine tf_blk _ b_Kerning_init_4 rfl ?_
  refine tf_newa (N := 40) (a0 := (40, .inl (fun _ => 0))) 9 0 d_Kerning_init_7 rfl rfl wa_int rfl (by decide) (by decide) (by decide) (fun _ => rfl) (fun q7 hq7 => ?_)
  have a_q7 : a ≠ q7 := fun hh => hq7 (hh ▸ (by simp [ha]))
  have n_q7 : q7 ∉ L := fun hh => hq7 (by simp [hh])
  refine tf_putF (fs := ?fs_9_30) 12 d_Kerning_init_9 rfl ff_Kerning_9 rfl ?ha_9_30 ?hf_9_30 ?hl_9_30 ?hn_9_30 ?ht_9_30 ?kk_9_30
  case ha_9_30 => first | assumption | (simp only [List.mem_append, List.mem_singleton]; simp [*])
  case hf_9_30 => first | assumption | exact va_up_self _ _ _ | (refine tf_u (by first | assumption | (apply Ne.symm; assumption) | (intro hh; subst hh; contradiction)) ?_; first | assumption | exact va_up_self _ _ _ | (refine tf_u (by first | assumption | (apply Ne.symm; assumption) | (intro hh; subst hh; contradiction)) ?_; first | assumption | exact va_up_self _ _ _ | (refine tf_u (by first | assumption | (apply Ne.symm; assumption) | (intro hh; subst hh; contradiction)) ?_; first | assumption | exact va_up_self _ _ _ | (refine tf_u (by first | assumption | (apply Ne.symm; assumption) | (intro hh; subst hh; contradiction)) ?_; first | assumption | exact va_up_self _ _ _ | (refine tf_u (by first | assumption | (apply Ne.symm; assumption) | (intro hh; subst hh; contradiction)) ?_; first | assumption | exact va_up_self _ _ _)))))
  case hl_9_30 => exact Nat.le_of_ble_eq_true rfl
  case hn_9_30 => rfl
  case ht_9_30 => rfl
  refine tf_blk _ b_Kerning_init_12 rfl ?_
  refine tf_newa (N := 40) (a0 := (40, .inl (fun _ => 0))) 17 0 d_Kerning_init_15 rfl rfl wa_int rfl (by decide) (by decide) (by decide) (fun _ => rfl) (fun q15 hq15 => ?_)
  have a_q15 : a ≠ q15 := fun hh => hq15 (hh ▸ (by simp [ha]))
  have n_q15 : q15 ∉ L := fun hh => hq15 (by simp [hh])
  have q7_q15 : q7 ≠ q15 := fun hh => hq15 (hh ▸ (by simp))
  refine tf_putF (fs := ?fs_17_32) 20 d_Kerning_init_17 rfl ff_Kerning_15 rfl ?ha_17_32 ?hf_17_32 ?hl_17_32 ?hn_17_32 ?ht_17_32 ?kk_17_32
  case ha_17_32 => first | assumption | (simp only [List.mem_append, List.mem_singleton]; simp [*])
  case hf_17_32 => first | assumption | exact va_up_self _ _ _ | (refine tf_u (by first | assumption | (apply Ne.symm; assumption) | (intro hh; subst hh; contradiction)) ?_; first | assumption | exact va_up_self _ _ _ | (refine tf_u (by first | assumption | (apply Ne.symm; assumption) | (intro hh; subst hh; contradiction)) ?_; first | assumption | exact va_up_self _ _ _ | (refine tf_u (by first | assumption | (apply Ne.symm; assumption) | (intro hh; subst hh; contradiction)) ?_; first | assumption | exact va_up_self _ _ _ | (refine tf_u (by first | assumption | (apply Ne.symm; assumption) | (intro hh; subst hh; contradiction)) ?_; first | assumption | exact va_up_self _ _ _ | (refine tf_u (by first | assumption | (apply Ne.symm; assumption) | (intro hh; subst hh; contradiction)) ?_; first | assumption | exact va_up_self _ _ _)))))
  case hl_17_32 => exact Nat.le_of_ble_eq_true rfl
  case hn_17_32 => rfl
  case ht_17_32 => rfl
  refine tf_blk _ b_Kerning_init_20 rfl ?_
  refine tf_newa (N := 256) (a0 := (256, .inl (fun _ => 0))) 26 0 d_Kerning_init_24 rfl rfl wa_int rfl (by decide) (by decide) (by decide) (fun _ => rfl) (fun q24 hq24 => ?_)
  have a_q24 : a ≠ q24 := fun hh => hq24 (hh ▸ (by simp [ha]))
  have n_q24 : q24 ∉ L := fun hh => hq24 (by simp [hh])
  have q7_q24 : q7 ≠ q24 := fun hh => hq24 (hh ▸ (by simp))
  have q15_q24 : q15 ≠ q24 := fun hh => hq24 (hh ▸ (by simp))
  refine tf_putF (fs := ?fs_26_34) 29 d_Kerning_init_26 rfl ff_Kerning_18 rfl ?ha_26_34 ?hf_26_34 ?hl_26_34 ?hn_26_34 ?ht_26_34 ?kk_26_34
  case ha_26_34 => first | assumption | (simp only [List.mem_append, List.mem_singleton]; simp [*])
  case hf_26_34 => first | assumption | exact va_up_self _ _ _ | (refine tf_u (by first | assumption | (apply Ne.symm; assumption) | (intro hh; subst hh; contradiction)) ?_; first | assumption | exact va_up_self _ _ _ | (refine tf_u (by first | assumption | (apply Ne.symm; assumption) | (intro hh; subst hh; contradiction)) ?_; first | assumption | exact va_up_self _ _ _ | (refine tf_u (by first | assumption | (apply Ne.symm; assumption) | (intro hh; subst hh; contradiction)) ?_; first | assumption | exact va_up_self _ _ _ | (refine tf_u (by first | assumption | (apply Ne.symm; assumption) | (intro hh; subst hh; contradiction)) ?_; first | assumption | exact va_up_self _ _ _ | (refine tf_u (by first | assumption | (apply Ne.symm; assumption) | (intro hh; subst hh; contradiction)) ?_; first | assumption | exact va_up_self _ _ _)))))
  case hl_26_34 => exact Nat.le_of_ble_eq_true rfl
  case hn_26_34 => rfl
  case ht_26_34 => rfl
  refine tf_blk _ b_Kerning_init_29 rfl ?_
  refine tf_newa (N := 40) (a0 := (40, .inl (fun _ => 0))) 34 0 d_Kerning_init_32 rfl rfl wa_int rfl (by decide) (by decide) (by decide) (fun _ => rfl) (fun q32 hq32 => ?_)
  have a_q32 : a ≠ q32 := fun hh => hq32 (hh ▸ (by simp [ha]))
  have n_q32 : q32 ∉ L := fun hh => hq32 (by simp [hh])
  have q7_q32 : q7 ≠ q32 := fun hh => hq32 (hh ▸ (by simp))
  have q15_q32 : q15 ≠ q32 := fun hh => hq32 (hh ▸ (by simp))
  have q24_q32 : q24 ≠ q32 := fun hh => hq32 (hh ▸ (by simp))
  refine tf_putF (fs := ?fs_34_36) 37 d_Kerning_init_34 rfl ff_Kerning_21 rfl ?ha_34_36 ?hf_34_36 ?hl_34_36 ?hn_34_36 ?ht_34_36 ?kk_34_36
  case ha_34_36 => first | assumption | (simp only [List.mem_append, List.mem_singleton]; simp [*])
  case hf_34_36 => first | assumption | exact va_up_self _ _ _ | (refine tf_u (by first | assumption | (apply Ne.symm; assumption) | (intro hh; subst hh; contradiction)) ?_; first | assumption | exact va_up_self _ _ _ | (refine tf_u (by first | assumption | (apply Ne.symm; assumption) | (intro hh; subst hh; contradiction)) ?_; first | assumption | exact va_up_self _ _ _ | (refine tf_u (by first | assumption | (apply Ne.symm; assumption) | (intro hh; subst hh; contradiction)) ?_; first | assumption | exact va_up_self _ _ _ | (refine tf_u (by first | assumption | (apply Ne.symm; assumption) | (intro hh; subst hh; contradiction)) ?_; first | assumption | exact va_up_self _ _ _ | (refine tf_u (by first | assumption | (apply Ne.symm; assumption) | (intro hh; subst hh; contradiction)) ?_; first | assumption | exact va_up_self _ _ _)))))
  case hl_34_36 => exact Nat.le_of_ble_eq_true rfl
  case hn_34_36 => rfl
  case ht_34_36 => rfl
  refine tf_blk _ b_Kerning_init_37 rfl ?_
  refine tf_newa (N := 40) (a0 := (40, .inl (fun _ => 0))) 42 0 d_Kerning_init_40 rfl rfl wa_int rfl (by decide) (by decide) (by decide) (fun _ => rfl) (fun q40 hq40 => ?_)
  have a_q40 : a ≠ q40 := fun hh => hq40 (hh ▸ (by simp [ha]))
  have n_q40 : q40 ∉ L := fun hh => hq40 (by simp [hh])
  have q7_q40 : q7 ≠ q40 := fun hh => hq40 (hh ▸ (by simp))
  have q15_q40 : q15 ≠ q40 := fun hh => hq40 (hh ▸ (by simp))
  have q24_q40 : q24 ≠ q40 := fun hh => hq40 (hh ▸ (by simp))
  have q32_q40 : q32 ≠ q40 := fun hh => hq40 (hh ▸ (by simp))
  refine tf_putF (fs := ?fs_42_38) 45 d_Kerning_init_42 rfl ff_Kerning_24 rfl ?ha_42_38 ?hf_42_38 ?hl_42_38 ?hn_42_38 ?ht_42_38 ?kk_42_38
  case ha_42_38 => first | assumption | (simp only [List.mem_append, List.mem_singleton]; simp [*])
  case hf_42_38 => first | assumption | exact va_up_self _ _ _ | (refine tf_u (by first | assumption | (apply Ne.symm; assumption) | (intro hh; subst hh; contradiction)) ?_; first | assumption | exact va_up_self _ _ _ | (refine tf_u (by first | assumption | (apply Ne.symm; assumption) | (intro hh; subst hh; contradiction)) ?_; first | assumption | exact va_up_self _ _ _ | (refine tf_u (by first | assumption | (apply Ne.symm; assumption) | (intro hh; subst hh; contradiction)) ?_; first | assumption | exact va_up_self _ _ _ | (refine tf_u (by first | assumption | (apply Ne.symm; assumption) | (intro hh; subst hh; contradiction)) ?_; first | assumption | exact va_up_self _ _ _ | (refine tf_u (by first | assumption | (apply Ne.symm; assumption) | (intro hh; subst hh; contradiction)) ?_; first | assumption | exact va_up_self _ _ _)))))
  case hl_42_38 => exact Nat.le_of_ble_eq_true rfl
  case hn_42_38 => rfl
  case ht_42_38 => rfl
  refine tf_blk _ b_Kerning_init_45 rfl ?_
  refine tf_newa (N := 40) (a0 := (40, .inl (fun _ => 0))) 50 0 d_Kerning_init_48 rfl rfl wa_int rfl (by decide) (by decide) (by decide) (fun _ => rfl) (fun q48 hq48 => ?_)
  have a_q48 : a ≠ q48 := fun hh => hq48 (hh ▸ (by simp [ha]))
  have n_q48 : q48 ∉ L := fun hh => hq48 (by simp [hh])
  have q7_q48 : q7 ≠ q48 := fun hh => hq48 (hh ▸ (by simp))
  have q15_q48 : q15 ≠ q48 := fun hh => hq48 (hh ▸ (by simp))
  have q24_q48 : q24 ≠ q48 := fun hh => hq48 (hh ▸ (by simp))
  have q32_q48 : q32 ≠ q48 := fun hh => hq48 (hh ▸ (by simp))
  have q40_q48 : q40 ≠ q48 := fun hh => hq48 (hh ▸ (by simp))
  refine tf_putF (fs := ?fs_50_40) 53 d_Kerning_init_50 rfl ff_Kerning_27 rfl ?ha_50_40 ?hf_50_40 ?hl_50_40 ?hn_50_40 ?ht_50_40 ?kk_50_40
  case ha_50_40 => first | assumption | (simp only [List.mem_append, List.mem_singleton]; simp [*])
  case hf_50_40 => first | assumption | exact va_up_self _ _ _ | (refine tf_u (by first | assumption | (apply Ne.symm; assumption) | (intro hh; subst hh; contradiction)) ?_; first | assumption | exact va_up_self _ _ _ | (refine tf_u (by first | assumption | (apply Ne.symm; assumption) | (intro hh; subst hh; contradiction)) ?_; first | assumption | exact va_up_self _ _ _ | (refine tf_u (by first | assumption | (apply Ne.symm; assumption) | (intro hh; subst hh; contradiction)) ?_; first | assumption | exact va_up_self _ _ _ | (refine tf_u (by first | assumption | (apply Ne.symm; assumption) | (intro hh; subst hh; contradiction)) ?_; first | assumption | exact va_up_self _ _ _ | (refine tf_u (by first | assumption | (apply Ne.symm; assumption) | (intro hh; subst hh; contradiction)) ?_; first | assumption | exact va_up_self _ _ _)))))
  case hl_50_40 => exact Nat.le_of_ble_eq_true rfl
  case hn_50_40 => rfl
  case ht_50_40 => rfl
  refine tf_vret d_Kerning_init_53 rfl ?_
  refine ⟨q7, q15, q24, q32, q40, q48, rfl, by simp, ?_, ?_, ?_, ?_, ?_⟩
  · simp only [List.forall_mem_cons, List.not_mem_nil, false_implies, implies_true, and_true]
    exact ⟨n_q7, n_q15, n_q24, n_q32, n_q40, n_q48⟩
  · simp only [List.map_cons, List.map_nil, List.nodup_cons, List.mem_cons, List.not_mem_nil, or_false, not_or, List.nodup_nil, and_true, not_false_eq_true]
    exact ⟨⟨q7_q15, q7_q24, q7_q32, q7_q40, q7_q48⟩, ⟨q15_q24, q15_q32, q15_q40, q15_q48⟩, ⟨q24_q32, q24_q40, q24_q48⟩, ⟨q32_q40, q32_q48⟩, q40_q48⟩
  · repeat (first | exact va_up_self _ _ _ | refine tf_u (by first | assumption | (apply Ne.symm; assumption)) ?_)
  · simp only [List.forall_mem_cons, List.not_mem_nil, false_implies, implies_true, and_true]
    refine ⟨?_, ?_, ?_, ?_, ?_, ?_⟩ <;> (repeat (first | exact va_up_self _ _ _ | refine tf_u (by first | assumption | (apply Ne.symm; assumption)) ?_))
  · intro z hz hza
    have z_q7 : z ≠ q7 := fun hh => n_q7 (hh ▸ hz)
    have z_q15 : z ≠ q15 := fun hh => n_q15 (hh ▸ hz)
    have z_q24 : z ≠ q24 := fun hh => n_q24 (hh ▸ hz)
    have z_q32 : z ≠ q32 := fun hh => n_q32 (hh ▸ hz)
    have z_q40 : z ≠ q40 := fun hh => n_q40 (hh ▸ hz)
    have z_q48 : z ≠ q48 := fun hh => n_q48 (hh ▸ hz)
    iterate 12 refine tf_u (by first | assumption | (apply Ne.symm; assumption)) ?_
    rfl
set_option maxHeartbeats 4000000 in
set_option maxRecDepth 100000 in
theorem c_Setter_init (hd : 1 ≤ d) {a : Nat} (ha : a ∈ L) (fa : f a = to 10 [.null, .int 0, .int 0, .int 0, .int 0, .null, .null]) : tf_C l (tf_H D q) d i_Setter_init [.ref a] L f 3 160 (fun v L2 f2 => ∃ q7 q15 q23 : Nat, tf_mk L f a [(q7, ti q 60 (fun _ => 0)), (q15, ti q 60 (fun _ => 0)), (q23, tr 7 q 40 (fun _ => none))] (to 10 [.ref q7, .int 0, .int 0, .int 0, .int 0, .ref q15, .ref q23]) v L2 f2) := by
  refine tf_C.of (tf_gok _ _) (by decide) w_175 (Nat.le_of_ble_eq_true rfl) ?_
  refine tf_blk _ b_Setter_init_0 rfl ?_
  refine tf_obj 4 d_Setter_init_1 rfl w_176 wi_obj wc_obj (by omega) (by decide) ?_
  refine tf_blk _ b_Setter_init_4 rfl ?_
  refine tf_newa (N := 60) (a0 := (60, .inl (fun _ => 0))) 9 0 d_Setter_init_7 rfl rfl wa_int rfl (by decide) (by decide) (by decide) (fun _ => rfl) (fun q7 hq7 => ?_)
  have a_q7 : a ≠ q7 := fun hh => hq7 (hh ▸ (by simp [ha]))
  have n_q7 : q7 ∉ L := fun hh => hq7 (by simp [hh])
  refine tf_putF (fs := ?fs_9_44) 12 d_Setter_init_9 rfl ff_Setter_9 rfl ?ha_9_44 ?hf_9_44 ?hl_9_44 ?hn_9_44 ?ht_9_44 ?kk_9_44
  case ha_9_44 => first | assumption | (simp only [List.mem_append, List.mem_singleton]; simp [*])
  case hf_9_44 => first | assumption | exact va_up_self _ _ _ | (refine tf_u (by first | assumption | (apply Ne.symm; assumption) | (intro hh; subst hh; contradiction)) ?_; first | assumption | exact va_up_self _ _ _ | (refine tf_u (by first | assumption | (apply Ne.symm; assumption) | (intro hh; subst hh; contradiction)) ?_; first | assumption | exact va_up_self _ _ _ | (refine tf_u (by first | assumption | (apply Ne.symm; assumption) | (intro hh; subst hh; contradiction)) ?_; first | assumption | exact va_up_self _ _ _ | (refine tf_u (by first | assumption | (apply Ne.symm; assumption) | (intro hh; subst hh; contradiction)) ?_; first | assumption | exact va_up_self _ _ _ | (refine tf_u (by first | assumption | (apply Ne.symm; assumption) | (intro hh; subst hh; contradiction)) ?_; first | assumption | exact va_up_self _ _ _)))))
  case hl_9_44 => exact Nat.le_of_ble_eq_true rfl
  case hn_9_44 => rfl
  case ht_9_44 => rfl
  refine tf_blk _ b_Setter_init_12 rfl ?_
  refine tf_newa (N := 60) (a0 := (60, .inl (fun _ => 0))) 17 0 d_Setter_init_15 rfl rfl wa_int rfl (by decide) (by decide) (by decide) (fun _ => rfl) (fun q15 hq15 => ?_)
  have a_q15 : a ≠ q15 := fun hh => hq15 (hh ▸ (by simp [ha]))
  have n_q15 : q15 ∉ L := fun hh => hq15 (by simp [hh])
  have q7_q15 : q7 ≠ q15 := fun hh => hq15 (hh ▸ (by simp))
  refine tf_putF (fs := ?fs_17_46) 20 d_Setter_init_17 rfl ff_Setter_15 rfl ?ha_17_46 ?hf_17_46 ?hl_17_46 ?hn_17_46 ?ht_17_46 ?kk_17_46
  case ha_17_46 => first | assumption | (simp only [List.mem_append, List.mem_singleton]; simp [*])
  case hf_17_46 => first | assumption | exact va_up_self _ _ _ | (refine tf_u (by first | assumption | (apply Ne.symm; assumption) | (intro hh; subst hh; contradiction)) ?_; first | assumption | exact va_up_self _ _ _ | (refine tf_u (by first | assumption | (apply Ne.symm; assumption) | (intro hh; subst hh; contradiction)) ?_; first | assumption | exact va_up_self _ _ _ | (refine tf_u (by first | assumption | (apply Ne.symm; assumption) | (intro hh; subst hh; contradiction)) ?_; first | assumption | exact va_up_self _ _ _ | (refine tf_u (by first | assumption | (apply Ne.symm; assumption) | (intro hh; subst hh; contradiction)) ?_; first | assumption | exact va_up_self _ _ _ | (refine tf_u (by first | assumption | (apply Ne.symm; assumption) | (intro hh; subst hh; contradiction)) ?_; first | assumption | exact va_up_self _ _ _)))))
  case hl_17_46 => exact Nat.le_of_ble_eq_true rfl
  case hn_17_46 => rfl
  case ht_17_46 => rfl
  refine tf_blk _ b_Setter_init_20 rfl ?_
  refine tf_newq (N := 40) 26 7 d_Setter_init_23 rfl w_177 wo_Rule rfl (by decide) (by decide) (by decide) (fun q23 hq23 => ?_)
  have a_q23 : a ≠ q23 := fun hh => hq23 (hh ▸ (by simp [ha]))
  have n_q23 : q23 ∉ L := fun hh => hq23 (by simp [hh])
  have q7_q23 : q7 ≠ q23 := fun hh => hq23 (hh ▸ (by simp))
  have q15_q23 : q15 ≠ q23 := fun hh => hq23 (hh ▸ (by simp))
  refine tf_putF (fs := ?fs_26_48) 29 d_Setter_init_26 rfl ff_Setter_20 rfl ?ha_26_48 ?hf_26_48 ?hl_26_48 ?hn_26_48 ?ht_26_48 ?kk_26_48
  case ha_26_48 => first | assumption | (simp only [List.mem_append, List.mem_singleton]; simp [*])
  case hf_26_48 => first | assumption | exact va_up_self _ _ _ | (refine tf_u (by first | assumption | (apply Ne.symm; assumption) | (intro hh; subst hh; contradiction)) ?_; first | assumption | exact va_up_self _ _ _ | (refine tf_u (by first | assumption | (apply Ne.symm; assumption) | (intro hh; subst hh; contradiction)) ?_; first | assumption | exact va_up_self _ _ _ | (refine tf_u (by first | assumption | (apply Ne.symm; assumption) | (intro hh; subst hh; contradiction)) ?_; first | assumption | exact va_up_self _ _ _ | (refine tf_u (by first | assumption | (apply Ne.symm; assumption) | (intro hh; subst hh; contradiction)) ?_; first | assumption | exact va_up_self _ _ _ | (refine tf_u (by first | assumption | (apply Ne.symm; assumption) | (intro hh; subst hh; contradiction)) ?_; first | assumption | exact va_up_self _ _ _)))))
  case hl_26_48 => exact Nat.le_of_ble_eq_true rfl
  case hn_26_48 => rfl
  case ht_26_48 => rfl
  refine tf_vret d_Setter_init_29 rfl ?_
  refine ⟨q7, q15, q23, rfl, by simp, ?_, ?_, ?_, ?_, ?_⟩
  · simp only [List.forall_mem_cons, List.not_mem_nil, false_implies, implies_true, and_true]
    exact ⟨n_q7, n_q15, n_q23⟩
  · simp only [List.map_cons, List.map_nil, List.nodup_cons, List.mem_cons, List.not_mem_nil, or_false, not_or, List.nodup_nil, and_true, not_false_eq_true]
    exact ⟨⟨q7_q15, q7_q23⟩, q15_q23⟩
  · repeat (first | exact va_up_self _ _ _ | refine tf_u (by first | assumption | (apply Ne.symm; assumption)) ?_)
  · simp only [List.forall_mem_cons, List.not_mem_nil, false_implies, implies_true, and_true]
    refine ⟨?_, ?_, ?_⟩ <;> (repeat (first | exact va_up_self _ _ _ | refine tf_u (by first | assumption | (apply Ne.symm; assumption)) ?_))
  · intro z hz hza
    have z_q7 : z ≠ q7 := fun hh => n_q7 (hh ▸ hz)
    have z_q15 : z ≠ q15 := fun hh => n_q15 (hh ▸ hz)
    have z_q23 : z ≠ q23 := fun hh => n_q23 (hh ▸ hz)
    iterate 6 refine tf_u (by first | assumption | (apply Ne.symm; assumption)) ?_
    rfl
set_option maxHeartbeats 4000000 in
set_option maxRecDepth 100000 in
theorem c_Blend_init (hd : 1 ≤ d) {a : Nat} (k : Int32) (ha : a ∈ L) (fa : f a = to 1 [.int 0, .int 0, .int 0]) : tf_C l (tf_H D q) d i_Blend_init [.ref a, .int k] L f 0 0 (fun v L2 f2 => tf_mk L f a [] (to 1 [.int k, .int 0, .int 0]) v L2 f2) := by
  refine tf_C.of (tf_gok _ _) (by decide) w_43 (Nat.le_of_ble_eq_true rfl) ?_
  refine tf_blk _ b_Blend_init_0 rfl ?_
  refine tf_obj 4 d_Blend_init_1 rfl w_44 wi_obj wc_obj (by omega) (by decide) ?_
  refine tf_blk _ b_Blend_init_4 rfl ?_
  refine tf_putF (fs := ?fs_6_51) 9 d_Blend_init_6 rfl ff_Blend_9 rfl ?ha_6_51 ?hf_6_51 ?hl_6_51 ?hn_6_51 ?ht_6_51 ?kk_6_51
  case ha_6_51 => first | assumption | (simp only [List.mem_append, List.mem_singleton]; simp [*])
  case hf_6_51 => first | assumption | exact va_up_self _ _ _ | (refine tf_u (by first | assumption | (apply Ne.symm; assumption) | (intro hh; subst hh; contradiction)) ?_; first | assumption | exact va_up_self _ _ _ | (refine tf_u (by first | assumption | (apply Ne.symm; assumption) | (intro hh; subst hh; contradiction)) ?_; first | assumption | exact va_up_self _ _ _ | (refine tf_u (by first | assumption | (apply Ne.symm; assumption) | (intro hh; subst hh; contradiction)) ?_; first | assumption | exact va_up_self _ _ _ | (refine tf_u (by first | assumption | (apply Ne.symm; assumption) | (intro hh; subst hh; contradiction)) ?_; first | assumption | exact va_up_self _ _ _ | (refine tf_u (by first | assumption | (apply Ne.symm; assumption) | (intro hh; subst hh; contradiction)) ?_; first | assumption | exact va_up_self _ _ _)))))
  case hl_6_51 => exact Nat.le_of_ble_eq_true rfl
  case hn_6_51 => rfl
  case ht_6_51 => rfl
  refine tf_vret d_Blend_init_9 rfl ?_
  refine ⟨rfl, by simp, ?_, ?_, ?_, ?_, ?_⟩
  · simp
  · simp
  · repeat (first | exact va_up_self _ _ _ | refine tf_u (by first | assumption | (apply Ne.symm; assumption)) ?_)
  · simp
  · intro z hz hza
    iterate 1 refine tf_u (by first | assumption | (apply Ne.symm; assumption)) ?_
    rfl
end
