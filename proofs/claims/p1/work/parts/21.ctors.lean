/-! constructors of the small classes -/
/-- what a constructor of an object at a with new cells qs leaves: the object, the cells, all else as it was -/
def tf_mk (L : List Nat) (f : tf_F) (a : Nat) (qs : List (Nat × va_E)) (ob : va_E) : tf_O := fun v L2 f2 =>
  v = none ∧ L2 = L ++ qs.map Prod.fst ∧ (∀ q ∈ qs, q.1 ∉ L) ∧ (qs.map Prod.fst).Nodup ∧ f2 a = ob ∧ (∀ q ∈ qs, f2 q.1 = q.2) ∧ ∀ z, z ∈ L → z ≠ a → f2 z = f z
section
variable (l : Launch) (D : va_G) (q : Nat → ClassId) (d : Nat) (L : List Nat) (f : tf_F)
set_option maxHeartbeats 4000000 in
set_option maxRecDepth 100000 in
theorem c_Heights_init (hd : 1 ≤ d) {a : Nat} (ha : a ∈ L) (fa : f a = to 4 [.int 0, .null]) : tf_C l (tf_H D q) d i_Heights_init [.ref a] L f 1 8 (fun v L2 f2 => ∃ q7 : Nat, tf_mk L f a [(q7, ti q 8 (fun _ => 0))] (to 4 [.int 0, .ref q7]) v L2 f2) := by
  refine tf_C.of (tf_gok _ _) (by decide) w_116 (Nat.le_of_ble_eq_true rfl) ?_
  refine tf_blk _ b_Heights_init_0 rfl ?_
  refine tf_obj 4 d_Heights_init_1 rfl w_117 wi_obj wc_obj (by omega) (by decide) ?_
  refine tf_blk _ b_Heights_init_4 rfl ?_
  refine tf_newa (N := 8) (a0 := (8, .inl (fun _ => 0))) 9 0 d_Heights_init_7 rfl rfl wa_int rfl (by decide) (by decide) (by decide) (fun _ => rfl) (fun q7 hq7 => ?_)
  have a_q7 : a ≠ q7 := fun hh => hq7 (hh ▸ (by simp [ha]))
  have n_q7 : q7 ∉ L := fun hh => hq7 (by simp [hh])
  apply tf_putF 12 d_Heights_init_9 rfl ff_Heights_9 rfl
  · first | assumption | (simp only [List.mem_append, List.mem_singleton]; simp [*])
  · first | assumption | exact va_up_self _ _ _ | (refine tf_u (by first | assumption | (apply Ne.symm; assumption) | (intro hh; subst hh; contradiction)) ?_; first | assumption | exact va_up_self _ _ _ | (refine tf_u (by first | assumption | (apply Ne.symm; assumption) | (intro hh; subst hh; contradiction)) ?_; first | assumption | exact va_up_self _ _ _ | (refine tf_u (by first | assumption | (apply Ne.symm; assumption) | (intro hh; subst hh; contradiction)) ?_; first | assumption | exact va_up_self _ _ _ | (refine tf_u (by first | assumption | (apply Ne.symm; assumption) | (intro hh; subst hh; contradiction)) ?_; first | assumption | exact va_up_self _ _ _ | (refine tf_u (by first | assumption | (apply Ne.symm; assumption) | (intro hh; subst hh; contradiction)) ?_; first | assumption | exact va_up_self _ _ _)))))
  · exact Nat.le_of_ble_eq_true rfl
  · rfl
  · rfl
  refine tf_vret d_Heights_init_12 rfl ?_
  refine ⟨q7, rfl, by simp, ?_, ?_, ?_, ?_, ?_⟩
  · simp only [List.forall_mem_cons, List.not_mem_nil, false_implies, implies_true, and_true]
    exact n_q7
  · simp
  · repeat (first | exact va_up_self _ _ _ | refine tf_u (by first | assumption | (apply Ne.symm; assumption)) ?_)
  · simp only [List.forall_mem_cons, List.not_mem_nil, false_implies, implies_true, and_true]
    repeat (first | exact va_up_self _ _ _ | refine tf_u (by first | assumption | (apply Ne.symm; assumption)) ?_)
  · intro z hz hza
    have z_q7 : z ≠ q7 := fun hh => n_q7 (hh ▸ hz)
    iterate 2 refine tf_u (by first | assumption | (apply Ne.symm; assumption)) ?_
    rfl
set_option maxHeartbeats 4000000 in
set_option maxRecDepth 100000 in
theorem c_Canvas_init (hd : 1 ≤ d) {a : Nat} (ha : a ∈ L) (fa : f a = to 2 [.null, .int 0, .int 0]) : tf_C l (tf_H D q) d i_Canvas_init [.ref a] L f 1 4096 (fun v L2 f2 => ∃ q8 : Nat, tf_mk L f a [(q8, ti q 4096 (fun _ => 0))] (to 2 [.ref q8, .int (kI 32), .int 0]) v L2 f2) := by
  refine tf_C.of (tf_gok _ _) (by decide) w_130 (Nat.le_of_ble_eq_true rfl) ?_
  refine tf_blk _ b_Canvas_init_0 rfl ?_
  refine tf_obj 4 d_Canvas_init_1 rfl w_131 wi_obj wc_obj (by omega) (by decide) ?_
  refine tf_blk _ b_Canvas_init_4 rfl ?_
  refine tf_newa (N := 4096) (a0 := (4096, .inl (fun _ => 0))) 10 0 d_Canvas_init_8 rfl rfl wa_int rfl (by decide) (by decide) (by decide) (fun _ => rfl) (fun q8 hq8 => ?_)
  have a_q8 : a ≠ q8 := fun hh => hq8 (hh ▸ (by simp [ha]))
  have n_q8 : q8 ∉ L := fun hh => hq8 (by simp [hh])
  apply tf_putF 13 d_Canvas_init_10 rfl ff_Canvas_11 rfl
  · first | assumption | (simp only [List.mem_append, List.mem_singleton]; simp [*])
  · first | assumption | exact va_up_self _ _ _ | (refine tf_u (by first | assumption | (apply Ne.symm; assumption) | (intro hh; subst hh; contradiction)) ?_; first | assumption | exact va_up_self _ _ _ | (refine tf_u (by first | assumption | (apply Ne.symm; assumption) | (intro hh; subst hh; contradiction)) ?_; first | assumption | exact va_up_self _ _ _ | (refine tf_u (by first | assumption | (apply Ne.symm; assumption) | (intro hh; subst hh; contradiction)) ?_; first | assumption | exact va_up_self _ _ _ | (refine tf_u (by first | assumption | (apply Ne.symm; assumption) | (intro hh; subst hh; contradiction)) ?_; first | assumption | exact va_up_self _ _ _ | (refine tf_u (by first | assumption | (apply Ne.symm; assumption) | (intro hh; subst hh; contradiction)) ?_; first | assumption | exact va_up_self _ _ _)))))
  · exact Nat.le_of_ble_eq_true rfl
  · rfl
  · rfl
  refine tf_blk _ b_Canvas_init_13 rfl ?_
  apply tf_put 19 d_Canvas_init_16 rfl fw_Canvas_15
  · first | assumption | (simp only [List.mem_append, List.mem_singleton]; simp [*])
  · first | assumption | exact va_up_self _ _ _ | (refine tf_u (by first | assumption | (apply Ne.symm; assumption) | (intro hh; subst hh; contradiction)) ?_; first | assumption | exact va_up_self _ _ _ | (refine tf_u (by first | assumption | (apply Ne.symm; assumption) | (intro hh; subst hh; contradiction)) ?_; first | assumption | exact va_up_self _ _ _ | (refine tf_u (by first | assumption | (apply Ne.symm; assumption) | (intro hh; subst hh; contradiction)) ?_; first | assumption | exact va_up_self _ _ _ | (refine tf_u (by first | assumption | (apply Ne.symm; assumption) | (intro hh; subst hh; contradiction)) ?_; first | assumption | exact va_up_self _ _ _ | (refine tf_u (by first | assumption | (apply Ne.symm; assumption) | (intro hh; subst hh; contradiction)) ?_; first | assumption | exact va_up_self _ _ _)))))
  · exact Nat.le_of_ble_eq_true rfl
  · rfl
  · rfl
  refine tf_vret d_Canvas_init_19 rfl ?_
  refine ⟨q8, rfl, by simp, ?_, ?_, ?_, ?_, ?_⟩
  · simp only [List.forall_mem_cons, List.not_mem_nil, false_implies, implies_true, and_true]
    exact n_q8
  · simp
  · repeat (first | exact va_up_self _ _ _ | refine tf_u (by first | assumption | (apply Ne.symm; assumption)) ?_)
  · simp only [List.forall_mem_cons, List.not_mem_nil, false_implies, implies_true, and_true]
    repeat (first | exact va_up_self _ _ _ | refine tf_u (by first | assumption | (apply Ne.symm; assumption)) ?_)
  · intro z hz hza
    have z_q8 : z ≠ q8 := fun hh => n_q8 (hh ▸ hz)
    iterate 3 refine tf_u (by first | assumption | (apply Ne.symm; assumption)) ?_
    rfl
set_option maxHeartbeats 4000000 in
set_option maxRecDepth 100000 in
theorem c_Path_init (hd : 1 ≤ d) {a : Nat} (ha : a ∈ L) (fa : f a = to 8 [.null, .null, .int 0]) : tf_C l (tf_H D q) d i_Path_init [.ref a] L f 2 640 (fun v L2 f2 => ∃ q8 q17 : Nat, tf_mk L f a [(q8, ti q 320 (fun _ => 0)), (q17, ti q 320 (fun _ => 0))] (to 8 [.ref q8, .ref q17, .int 0]) v L2 f2) := by
  refine tf_C.of (tf_gok _ _) (by decide) w_97 (Nat.le_of_ble_eq_true rfl) ?_
  refine tf_blk _ b_Path_init_0 rfl ?_
  refine tf_obj 4 d_Path_init_1 rfl w_98 wi_obj wc_obj (by omega) (by decide) ?_
  refine tf_blk _ b_Path_init_4 rfl ?_
  refine tf_newa (N := 320) (a0 := (320, .inl (fun _ => 0))) 10 0 d_Path_init_8 rfl rfl wa_int rfl (by decide) (by decide) (by decide) (fun _ => rfl) (fun q8 hq8 => ?_)
  have a_q8 : a ≠ q8 := fun hh => hq8 (hh ▸ (by simp [ha]))
  have n_q8 : q8 ∉ L := fun hh => hq8 (by simp [hh])
  apply tf_putF 13 d_Path_init_10 rfl ff_Path_9 rfl
  · first | assumption | (simp only [List.mem_append, List.mem_singleton]; simp [*])
  · first | assumption | exact va_up_self _ _ _ | (refine tf_u (by first | assumption | (apply Ne.symm; assumption) | (intro hh; subst hh; contradiction)) ?_; first | assumption | exact va_up_self _ _ _ | (refine tf_u (by first | assumption | (apply Ne.symm; assumption) | (intro hh; subst hh; contradiction)) ?_; first | assumption | exact va_up_self _ _ _ | (refine tf_u (by first | assumption | (apply Ne.symm; assumption) | (intro hh; subst hh; contradiction)) ?_; first | assumption | exact va_up_self _ _ _ | (refine tf_u (by first | assumption | (apply Ne.symm; assumption) | (intro hh; subst hh; contradiction)) ?_; first | assumption | exact va_up_self _ _ _ | (refine tf_u (by first | assumption | (apply Ne.symm; assumption) | (intro hh; subst hh; contradiction)) ?_; first | assumption | exact va_up_self _ _ _)))))
  · exact Nat.le_of_ble_eq_true rfl
  · rfl
  · rfl
  refine tf_blk _ b_Path_init_13 rfl ?_
  refine tf_newa (N := 320) (a0 := (320, .inl (fun _ => 0))) 19 0 d_Path_init_17 rfl rfl wa_int rfl (by decide) (by decide) (by decide) (fun _ => rfl) (fun q17 hq17 => ?_)
  have a_q17 : a ≠ q17 := fun hh => hq17 (hh ▸ (by simp [ha]))
  have n_q17 : q17 ∉ L := fun hh => hq17 (by simp [hh])
  have q8_q17 : q8 ≠ q17 := fun hh => hq17 (hh ▸ (by simp))
  apply tf_putF 22 d_Path_init_19 rfl ff_Path_15 rfl
  · first | assumption | (simp only [List.mem_append, List.mem_singleton]; simp [*])
  · first | assumption | exact va_up_self _ _ _ | (refine tf_u (by first | assumption | (apply Ne.symm; assumption) | (intro hh; subst hh; contradiction)) ?_; first | assumption | exact va_up_self _ _ _ | (refine tf_u (by first | assumption | (apply Ne.symm; assumption) | (intro hh; subst hh; contradiction)) ?_; first | assumption | exact va_up_self _ _ _ | (refine tf_u (by first | assumption | (apply Ne.symm; assumption) | (intro hh; subst hh; contradiction)) ?_; first | assumption | exact va_up_self _ _ _ | (refine tf_u (by first | assumption | (apply Ne.symm; assumption) | (intro hh; subst hh; contradiction)) ?_; first | assumption | exact va_up_self _ _ _ | (refine tf_u (by first | assumption | (apply Ne.symm; assumption) | (intro hh; subst hh; contradiction)) ?_; first | assumption | exact va_up_self _ _ _)))))
  · exact Nat.le_of_ble_eq_true rfl
  · rfl
  · rfl
  refine tf_vret d_Path_init_22 rfl ?_
  refine ⟨q8, q17, rfl, by simp, ?_, ?_, ?_, ?_, ?_⟩
  · simp only [List.forall_mem_cons, List.not_mem_nil, false_implies, implies_true, and_true]
    exact ⟨n_q8, n_q17⟩
  · simp only [List.map_cons, List.map_nil, List.nodup_cons, List.mem_cons, List.not_mem_nil, or_false, not_or, List.nodup_nil, and_true, not_false_eq_true]
    exact q8_q17
  · repeat (first | exact va_up_self _ _ _ | refine tf_u (by first | assumption | (apply Ne.symm; assumption)) ?_)
  · simp only [List.forall_mem_cons, List.not_mem_nil, false_implies, implies_true, and_true]
    refine ⟨?_, ?_⟩ <;> (repeat (first | exact va_up_self _ _ _ | refine tf_u (by first | assumption | (apply Ne.symm; assumption)) ?_))
  · intro z hz hza
    have z_q8 : z ≠ q8 := fun hh => n_q8 (hh ▸ hz)
    have z_q17 : z ≠ q17 := fun hh => n_q17 (hh ▸ hz)
    iterate 4 refine tf_u (by first | assumption | (apply Ne.symm; assumption)) ?_
    rfl
set_option maxHeartbeats 4000000 in
set_option maxRecDepth 100000 in
theorem c_Outline_init (hd : 1 ≤ d) {a : Nat} (ha : a ∈ L) (fa : f a = to 6 [.null, .null, .null, .null, .int 0, .null, .int 0]) : tf_C l (tf_H D q) d i_Outline_init [.ref a] L f 5 694 (fun v L2 f2 => ∃ q8 q17 q26 q34 q43 : Nat, tf_mk L f a [(q8, ti q 160 (fun _ => 0)), (q17, ti q 160 (fun _ => 0)), (q26, tz q 160 (fun _ => 0)), (q34, ti q 54 (fun _ => 0)), (q43, ti q 160 (fun _ => 0))] (to 6 [.ref q8, .ref q17, .ref q26, .ref q34, .int 0, .ref q43, .int 0]) v L2 f2) := by
  refine tf_C.of (tf_gok _ _) (by decide) w_62 (Nat.le_of_ble_eq_true rfl) ?_
  refine tf_blk _ b_Outline_init_0 rfl ?_
  refine tf_obj 4 d_Outline_init_1 rfl w_63 wi_obj wc_obj (by omega) (by decide) ?_
  refine tf_blk _ b_Outline_init_4 rfl ?_
  refine tf_newa (N := 160) (a0 := (160, .inl (fun _ => 0))) 10 0 d_Outline_init_8 rfl rfl wa_int rfl (by decide) (by decide) (by decide) (fun _ => rfl) (fun q8 hq8 => ?_)
  have a_q8 : a ≠ q8 := fun hh => hq8 (hh ▸ (by simp [ha]))
  have n_q8 : q8 ∉ L := fun hh => hq8 (by simp [hh])
  apply tf_putF 13 d_Outline_init_10 rfl ff_Outline_9 rfl
  · first | assumption | (simp only [List.mem_append, List.mem_singleton]; simp [*])
  · first | assumption | exact va_up_self _ _ _ | (refine tf_u (by first | assumption | (apply Ne.symm; assumption) | (intro hh; subst hh; contradiction)) ?_; first | assumption | exact va_up_self _ _ _ | (refine tf_u (by first | assumption | (apply Ne.symm; assumption) | (intro hh; subst hh; contradiction)) ?_; first | assumption | exact va_up_self _ _ _ | (refine tf_u (by first | assumption | (apply Ne.symm; assumption) | (intro hh; subst hh; contradiction)) ?_; first | assumption | exact va_up_self _ _ _ | (refine tf_u (by first | assumption | (apply Ne.symm; assumption) | (intro hh; subst hh; contradiction)) ?_; first | assumption | exact va_up_self _ _ _ | (refine tf_u (by first | assumption | (apply Ne.symm; assumption) | (intro hh; subst hh; contradiction)) ?_; first | assumption | exact va_up_self _ _ _)))))
  · exact Nat.le_of_ble_eq_true rfl
  · rfl
  · rfl
  refine tf_blk _ b_Outline_init_13 rfl ?_
  refine tf_newa (N := 160) (a0 := (160, .inl (fun _ => 0))) 19 0 d_Outline_init_17 rfl rfl wa_int rfl (by decide) (by decide) (by decide) (fun _ => rfl) (fun q17 hq17 => ?_)
  have a_q17 : a ≠ q17 := fun hh => hq17 (hh ▸ (by simp [ha]))
  have n_q17 : q17 ∉ L := fun hh => hq17 (by simp [hh])
  have q8_q17 : q8 ≠ q17 := fun hh => hq17 (hh ▸ (by simp))
  apply tf_putF 22 d_Outline_init_19 rfl ff_Outline_15 rfl
  · first | assumption | (simp only [List.mem_append, List.mem_singleton]; simp [*])
  · first | assumption | exact va_up_self _ _ _ | (refine tf_u (by first | assumption | (apply Ne.symm; assumption) | (intro hh; subst hh; contradiction)) ?_; first | assumption | exact va_up_self _ _ _ | (refine tf_u (by first | assumption | (apply Ne.symm; assumption) | (intro hh; subst hh; contradiction)) ?_; first | assumption | exact va_up_self _ _ _ | (refine tf_u (by first | assumption | (apply Ne.symm; assumption) | (intro hh; subst hh; contradiction)) ?_; first | assumption | exact va_up_self _ _ _ | (refine tf_u (by first | assumption | (apply Ne.symm; assumption) | (intro hh; subst hh; contradiction)) ?_; first | assumption | exact va_up_self _ _ _ | (refine tf_u (by first | assumption | (apply Ne.symm; assumption) | (intro hh; subst hh; contradiction)) ?_; first | assumption | exact va_up_self _ _ _)))))
  · exact Nat.le_of_ble_eq_true rfl
  · rfl
  · rfl
  refine tf_blk _ b_Outline_init_22 rfl ?_
  refine tf_newa (N := 160) (a0 := (160, .inl (fun _ => 0))) 28 1 d_Outline_init_26 rfl rfl wa_boolean rfl (by decide) (by decide) (by decide) (fun _ => rfl) (fun q26 hq26 => ?_)
  have a_q26 : a ≠ q26 := fun hh => hq26 (hh ▸ (by simp [ha]))
  have n_q26 : q26 ∉ L := fun hh => hq26 (by simp [hh])
  have q8_q26 : q8 ≠ q26 := fun hh => hq26 (hh ▸ (by simp))
  have q17_q26 : q17 ≠ q26 := fun hh => hq26 (hh ▸ (by simp))
  apply tf_putF 31 d_Outline_init_28 rfl ff_Outline_18 rfl
  · first | assumption | (simp only [List.mem_append, List.mem_singleton]; simp [*])
  · first | assumption | exact va_up_self _ _ _ | (refine tf_u (by first | assumption | (apply Ne.symm; assumption) | (intro hh; subst hh; contradiction)) ?_; first | assumption | exact va_up_self _ _ _ | (refine tf_u (by first | assumption | (apply Ne.symm; assumption) | (intro hh; subst hh; contradiction)) ?_; first | assumption | exact va_up_self _ _ _ | (refine tf_u (by first | assumption | (apply Ne.symm; assumption) | (intro hh; subst hh; contradiction)) ?_; first | assumption | exact va_up_self _ _ _ | (refine tf_u (by first | assumption | (apply Ne.symm; assumption) | (intro hh; subst hh; contradiction)) ?_; first | assumption | exact va_up_self _ _ _ | (refine tf_u (by first | assumption | (apply Ne.symm; assumption) | (intro hh; subst hh; contradiction)) ?_; first | assumption | exact va_up_self _ _ _)))))
  · exact Nat.le_of_ble_eq_true rfl
  · rfl
  · rfl
  refine tf_blk _ b_Outline_init_31 rfl ?_
  refine tf_newa (N := 54) (a0 := (54, .inl (fun _ => 0))) 36 0 d_Outline_init_34 rfl rfl wa_int rfl (by decide) (by decide) (by decide) (fun _ => rfl) (fun q34 hq34 => ?_)
  have a_q34 : a ≠ q34 := fun hh => hq34 (hh ▸ (by simp [ha]))
  have n_q34 : q34 ∉ L := fun hh => hq34 (by simp [hh])
  have q8_q34 : q8 ≠ q34 := fun hh => hq34 (hh ▸ (by simp))
  have q17_q34 : q17 ≠ q34 := fun hh => hq34 (hh ▸ (by simp))
  have q26_q34 : q26 ≠ q34 := fun hh => hq34 (hh ▸ (by simp))
  apply tf_putF 39 d_Outline_init_36 rfl ff_Outline_22 rfl
  · first | assumption | (simp only [List.mem_append, List.mem_singleton]; simp [*])
  · first | assumption | exact va_up_self _ _ _ | (refine tf_u (by first | assumption | (apply Ne.symm; assumption) | (intro hh; subst hh; contradiction)) ?_; first | assumption | exact va_up_self _ _ _ | (refine tf_u (by first | assumption | (apply Ne.symm; assumption) | (intro hh; subst hh; contradiction)) ?_; first | assumption | exact va_up_self _ _ _ | (refine tf_u (by first | assumption | (apply Ne.symm; assumption) | (intro hh; subst hh; contradiction)) ?_; first | assumption | exact va_up_self _ _ _ | (refine tf_u (by first | assumption | (apply Ne.symm; assumption) | (intro hh; subst hh; contradiction)) ?_; first | assumption | exact va_up_self _ _ _ | (refine tf_u (by first | assumption | (apply Ne.symm; assumption) | (intro hh; subst hh; contradiction)) ?_; first | assumption | exact va_up_self _ _ _)))))
  · exact Nat.le_of_ble_eq_true rfl
  · rfl
  · rfl
  refine tf_blk _ b_Outline_init_39 rfl ?_
  refine tf_newa (N := 160) (a0 := (160, .inl (fun _ => 0))) 45 0 d_Outline_init_43 rfl rfl wa_int rfl (by decide) (by decide) (by decide) (fun _ => rfl) (fun q43 hq43 => ?_)
  have a_q43 : a ≠ q43 := fun hh => hq43 (hh ▸ (by simp [ha]))
  have n_q43 : q43 ∉ L := fun hh => hq43 (by simp [hh])
  have q8_q43 : q8 ≠ q43 := fun hh => hq43 (hh ▸ (by simp))
  have q17_q43 : q17 ≠ q43 := fun hh => hq43 (hh ▸ (by simp))
  have q26_q43 : q26 ≠ q43 := fun hh => hq43 (hh ▸ (by simp))
  have q34_q43 : q34 ≠ q43 := fun hh => hq43 (hh ▸ (by simp))
  apply tf_putF 48 d_Outline_init_45 rfl ff_Outline_25 rfl
  · first | assumption | (simp only [List.mem_append, List.mem_singleton]; simp [*])
  · first | assumption | exact va_up_self _ _ _ | (refine tf_u (by first | assumption | (apply Ne.symm; assumption) | (intro hh; subst hh; contradiction)) ?_; first | assumption | exact va_up_self _ _ _ | (refine tf_u (by first | assumption | (apply Ne.symm; assumption) | (intro hh; subst hh; contradiction)) ?_; first | assumption | exact va_up_self _ _ _ | (refine tf_u (by first | assumption | (apply Ne.symm; assumption) | (intro hh; subst hh; contradiction)) ?_; first | assumption | exact va_up_self _ _ _ | (refine tf_u (by first | assumption | (apply Ne.symm; assumption) | (intro hh; subst hh; contradiction)) ?_; first | assumption | exact va_up_self _ _ _ | (refine tf_u (by first | assumption | (apply Ne.symm; assumption) | (intro hh; subst hh; contradiction)) ?_; first | assumption | exact va_up_self _ _ _)))))
  · exact Nat.le_of_ble_eq_true rfl
  · rfl
  · rfl
  refine tf_vret d_Outline_init_48 rfl ?_
  refine ⟨q8, q17, q26, q34, q43, rfl, by simp, ?_, ?_, ?_, ?_, ?_⟩
  · simp only [List.forall_mem_cons, List.not_mem_nil, false_implies, implies_true, and_true]
    exact ⟨n_q8, n_q17, n_q26, n_q34, n_q43⟩
  · simp only [List.map_cons, List.map_nil, List.nodup_cons, List.mem_cons, List.not_mem_nil, or_false, not_or, List.nodup_nil, and_true, not_false_eq_true]
    exact ⟨⟨q8_q17, q8_q26, q8_q34, q8_q43⟩, ⟨q17_q26, q17_q34, q17_q43⟩, ⟨q26_q34, q26_q43⟩, q34_q43⟩
  · repeat (first | exact va_up_self _ _ _ | refine tf_u (by first | assumption | (apply Ne.symm; assumption)) ?_)
  · simp only [List.forall_mem_cons, List.not_mem_nil, false_implies, implies_true, and_true]
    refine ⟨?_, ?_, ?_, ?_, ?_⟩ <;> (repeat (first | exact va_up_self _ _ _ | refine tf_u (by first | assumption | (apply Ne.symm; assumption)) ?_))
  · intro z hz hza
    have z_q8 : z ≠ q8 := fun hh => n_q8 (hh ▸ hz)
    have z_q17 : z ≠ q17 := fun hh => n_q17 (hh ▸ hz)
    have z_q26 : z ≠ q26 := fun hh => n_q26 (hh ▸ hz)
    have z_q34 : z ≠ q34 := fun hh => n_q34 (hh ▸ hz)
    have z_q43 : z ≠ q43 := fun hh => n_q43 (hh ▸ hz)
    iterate 10 refine tf_u (by first | assumption | (apply Ne.symm; assumption)) ?_
    rfl
set_option maxHeartbeats 4000000 in
set_option maxRecDepth 100000 in
theorem c_Kerning_init (hd : 1 ≤ d) {a : Nat} (ha : a ∈ L) (fa : f a = to 5 [.int 0, .null, .null, .null, .null, .null, .null]) : tf_C l (tf_H D q) d i_Kerning_init [.ref a] L f 6 456 (fun v L2 f2 => ∃ q7 q15 q24 q32 q40 q48 : Nat, tf_mk L f a [(q7, ti q 40 (fun _ => 0)), (q15, ti q 40 (fun _ => 0)), (q24, ti q 256 (fun _ => 0)), (q32, ti q 40 (fun _ => 0)), (q40, ti q 40 (fun _ => 0)), (q48, ti q 40 (fun _ => 0))] (to 5 [.int 0, .ref q7, .ref q15, .ref q24, .ref q32, .ref q40, .ref q48]) v L2 f2) := by
  refine tf_C.of (tf_gok _ _) (by decide) w_146 (Nat.le_of_ble_eq_true rfl) ?_
  refine tf_blk _ b_Kerning_init_0 rfl ?_
  refine tf_obj 4 d_Kerning_init_1 rfl w_147 wi_obj wc_obj (by omega) (by decide) ?_
  refine tf_blk _ b_Kerning_init_4 rfl ?_
  refine tf_newa (N := 40) (a0 := (40, .inl (fun _ => 0))) 9 0 d_Kerning_init_7 rfl rfl wa_int rfl (by decide) (by decide) (by decide) (fun _ => rfl) (fun q7 hq7 => ?_)
  have a_q7 : a ≠ q7 := fun hh => hq7 (hh ▸ (by simp [ha]))
  have n_q7 : q7 ∉ L := fun hh => hq7 (by simp [hh])
  apply tf_putF 12 d_Kerning_init_9 rfl ff_Kerning_9 rfl
  · first | assumption | (simp only [List.mem_append, List.mem_singleton]; simp [*])
  · first | assumption | exact va_up_self _ _ _ | (refine tf_u (by first | assumption | (apply Ne.symm; assumption) | (intro hh; subst hh; contradiction)) ?_; first | assumption | exact va_up_self _ _ _ | (refine tf_u (by first | assumption | (apply Ne.symm; assumption) | (intro hh; subst hh; contradiction)) ?_; first | assumption | exact va_up_self _ _ _ | (refine tf_u (by first | assumption | (apply Ne.symm; assumption) | (intro hh; subst hh; contradiction)) ?_; first | assumption | exact va_up_self _ _ _ | (refine tf_u (by first | assumption | (apply Ne.symm; assumption) | (intro hh; subst hh; contradiction)) ?_; first | assumption | exact va_up_self _ _ _ | (refine tf_u (by first | assumption | (apply Ne.symm; assumption) | (intro hh; subst hh; contradiction)) ?_; first | assumption | exact va_up_self _ _ _)))))
  · exact Nat.le_of_ble_eq_true rfl
  · rfl
  · rfl
  refine tf_blk _ b_Kerning_init_12 rfl ?_
  refine tf_newa (N := 40) (a0 := (40, .inl (fun _ => 0))) 17 0 d_Kerning_init_15 rfl rfl wa_int rfl (by decide) (by decide) (by decide) (fun _ => rfl) (fun q15 hq15 => ?_)
  have a_q15 : a ≠ q15 := fun hh => hq15 (hh ▸ (by simp [ha]))
  have n_q15 : q15 ∉ L := fun hh => hq15 (by simp [hh])
  have q7_q15 : q7 ≠ q15 := fun hh => hq15 (hh ▸ (by simp))
  apply tf_putF 20 d_Kerning_init_17 rfl ff_Kerning_15 rfl
  · first | assumption | (simp only [List.mem_append, List.mem_singleton]; simp [*])
  · first | assumption | exact va_up_self _ _ _ | (refine tf_u (by first | assumption | (apply Ne.symm; assumption) | (intro hh; subst hh; contradiction)) ?_; first | assumption | exact va_up_self _ _ _ | (refine tf_u (by first | assumption | (apply Ne.symm; assumption) | (intro hh; subst hh; contradiction)) ?_; first | assumption | exact va_up_self _ _ _ | (refine tf_u (by first | assumption | (apply Ne.symm; assumption) | (intro hh; subst hh; contradiction)) ?_; first | assumption | exact va_up_self _ _ _ | (refine tf_u (by first | assumption | (apply Ne.symm; assumption) | (intro hh; subst hh; contradiction)) ?_; first | assumption | exact va_up_self _ _ _ | (refine tf_u (by first | assumption | (apply Ne.symm; assumption) | (intro hh; subst hh; contradiction)) ?_; first | assumption | exact va_up_self _ _ _)))))
  · exact Nat.le_of_ble_eq_true rfl
  · rfl
  · rfl
  refine tf_blk _ b_Kerning_init_20 rfl ?_
  refine tf_newa (N := 256) (a0 := (256, .inl (fun _ => 0))) 26 0 d_Kerning_init_24 rfl rfl wa_int rfl (by decide) (by decide) (by decide) (fun _ => rfl) (fun q24 hq24 => ?_)
  have a_q24 : a ≠ q24 := fun hh => hq24 (hh ▸ (by simp [ha]))
  have n_q24 : q24 ∉ L := fun hh => hq24 (by simp [hh])
  have q7_q24 : q7 ≠ q24 := fun hh => hq24 (hh ▸ (by simp))
  have q15_q24 : q15 ≠ q24 := fun hh => hq24 (hh ▸ (by simp))
  apply tf_putF 29 d_Kerning_init_26 rfl ff_Kerning_18 rfl
  · first | assumption | (simp only [List.mem_append, List.mem_singleton]; simp [*])
  · first | assumption | exact va_up_self _ _ _ | (refine tf_u (by first | assumption | (apply Ne.symm; assumption) | (intro hh; subst hh; contradiction)) ?_; first | assumption | exact va_up_self _ _ _ | (refine tf_u (by first | assumption | (apply Ne.symm; assumption) | (intro hh; subst hh; contradiction)) ?_; first | assumption | exact va_up_self _ _ _ | (refine tf_u (by first | assumption | (apply Ne.symm; assumption) | (intro hh; subst hh; contradiction)) ?_; first | assumption | exact va_up_self _ _ _ | (refine tf_u (by first | assumption | (apply Ne.symm; assumption) | (intro hh; subst hh; contradiction)) ?_; first | assumption | exact va_up_self _ _ _ | (refine tf_u (by first | assumption | (apply Ne.symm; assumption) | (intro hh; subst hh; contradiction)) ?_; first | assumption | exact va_up_self _ _ _)))))
  · exact Nat.le_of_ble_eq_true rfl
  · rfl
  · rfl
  refine tf_blk _ b_Kerning_init_29 rfl ?_
  refine tf_newa (N := 40) (a0 := (40, .inl (fun _ => 0))) 34 0 d_Kerning_init_32 rfl rfl wa_int rfl (by decide) (by decide) (by decide) (fun _ => rfl) (fun q32 hq32 => ?_)
  have a_q32 : a ≠ q32 := fun hh => hq32 (hh ▸ (by simp [ha]))
  have n_q32 : q32 ∉ L := fun hh => hq32 (by simp [hh])
  have q7_q32 : q7 ≠ q32 := fun hh => hq32 (hh ▸ (by simp))
  have q15_q32 : q15 ≠ q32 := fun hh => hq32 (hh ▸ (by simp))
  have q24_q32 : q24 ≠ q32 := fun hh => hq32 (hh ▸ (by simp))
  apply tf_putF 37 d_Kerning_init_34 rfl ff_Kerning_21 rfl
  · first | assumption | (simp only [List.mem_append, List.mem_singleton]; simp [*])
  · first | assumption | exact va_up_self _ _ _ | (refine tf_u (by first | assumption | (apply Ne.symm; assumption) | (intro hh; subst hh; contradiction)) ?_; first | assumption | exact va_up_self _ _ _ | (refine tf_u (by first | assumption | (apply Ne.symm; assumption) | (intro hh; subst hh; contradiction)) ?_; first | assumption | exact va_up_self _ _ _ | (refine tf_u (by first | assumption | (apply Ne.symm; assumption) | (intro hh; subst hh; contradiction)) ?_; first | assumption | exact va_up_self _ _ _ | (refine tf_u (by first | assumption | (apply Ne.symm; assumption) | (intro hh; subst hh; contradiction)) ?_; first | assumption | exact va_up_self _ _ _ | (refine tf_u (by first | assumption | (apply Ne.symm; assumption) | (intro hh; subst hh; contradiction)) ?_; first | assumption | exact va_up_self _ _ _)))))
  · exact Nat.le_of_ble_eq_true rfl
  · rfl
  · rfl
  refine tf_blk _ b_Kerning_init_37 rfl ?_
  refine tf_newa (N := 40) (a0 := (40, .inl (fun _ => 0))) 42 0 d_Kerning_init_40 rfl rfl wa_int rfl (by decide) (by decide) (by decide) (fun _ => rfl) (fun q40 hq40 => ?_)
  have a_q40 : a ≠ q40 := fun hh => hq40 (hh ▸ (by simp [ha]))
  have n_q40 : q40 ∉ L := fun hh => hq40 (by simp [hh])
  have q7_q40 : q7 ≠ q40 := fun hh => hq40 (hh ▸ (by simp))
  have q15_q40 : q15 ≠ q40 := fun hh => hq40 (hh ▸ (by simp))
  have q24_q40 : q24 ≠ q40 := fun hh => hq40 (hh ▸ (by simp))
  have q32_q40 : q32 ≠ q40 := fun hh => hq40 (hh ▸ (by simp))
  apply tf_putF 45 d_Kerning_init_42 rfl ff_Kerning_24 rfl
  · first | assumption | (simp only [List.mem_append, List.mem_singleton]; simp [*])
  · first | assumption | exact va_up_self _ _ _ | (refine tf_u (by first | assumption | (apply Ne.symm; assumption) | (intro hh; subst hh; contradiction)) ?_; first | assumption | exact va_up_self _ _ _ | (refine tf_u (by first | assumption | (apply Ne.symm; assumption) | (intro hh; subst hh; contradiction)) ?_; first | assumption | exact va_up_self _ _ _ | (refine tf_u (by first | assumption | (apply Ne.symm; assumption) | (intro hh; subst hh; contradiction)) ?_; first | assumption | exact va_up_self _ _ _ | (refine tf_u (by first | assumption | (apply Ne.symm; assumption) | (intro hh; subst hh; contradiction)) ?_; first | assumption | exact va_up_self _ _ _ | (refine tf_u (by first | assumption | (apply Ne.symm; assumption) | (intro hh; subst hh; contradiction)) ?_; first | assumption | exact va_up_self _ _ _)))))
  · exact Nat.le_of_ble_eq_true rfl
  · rfl
  · rfl
  refine tf_blk _ b_Kerning_init_45 rfl ?_
  refine tf_newa (N := 40) (a0 := (40, .inl (fun _ => 0))) 50 0 d_Kerning_init_48 rfl rfl wa_int rfl (by decide) (by decide) (by decide) (fun _ => rfl) (fun q48 hq48 => ?_)
  have a_q48 : a ≠ q48 := fun hh => hq48 (hh ▸ (by simp [ha]))
  have n_q48 : q48 ∉ L := fun hh => hq48 (by simp [hh])
  have q7_q48 : q7 ≠ q48 := fun hh => hq48 (hh ▸ (by simp))
  have q15_q48 : q15 ≠ q48 := fun hh => hq48 (hh ▸ (by simp))
  have q24_q48 : q24 ≠ q48 := fun hh => hq48 (hh ▸ (by simp))
  have q32_q48 : q32 ≠ q48 := fun hh => hq48 (hh ▸ (by simp))
  have q40_q48 : q40 ≠ q48 := fun hh => hq48 (hh ▸ (by simp))
  apply tf_putF 53 d_Kerning_init_50 rfl ff_Kerning_27 rfl
  · first | assumption | (simp only [List.mem_append, List.mem_singleton]; simp [*])
  · first | assumption | exact va_up_self _ _ _ | (refine tf_u (by first | assumption | (apply Ne.symm; assumption) | (intro hh; subst hh; contradiction)) ?_; first | assumption | exact va_up_self _ _ _ | (refine tf_u (by first | assumption | (apply Ne.symm; assumption) | (intro hh; subst hh; contradiction)) ?_; first | assumption | exact va_up_self _ _ _ | (refine tf_u (by first | assumption | (apply Ne.symm; assumption) | (intro hh; subst hh; contradiction)) ?_; first | assumption | exact va_up_self _ _ _ | (refine tf_u (by first | assumption | (apply Ne.symm; assumption) | (intro hh; subst hh; contradiction)) ?_; first | assumption | exact va_up_self _ _ _ | (refine tf_u (by first | assumption | (apply Ne.symm; assumption) | (intro hh; subst hh; contradiction)) ?_; first | assumption | exact va_up_self _ _ _)))))
  · exact Nat.le_of_ble_eq_true rfl
  · rfl
  · rfl
  refine tf_vret d_Kerning_init_53 rfl ?_
  refine ⟨q7, q15, q24, q32, q40, q48, rfl, by simp, ?_, ?_, ?_, ?_, ?_⟩
  · simp only [List.forall_mem_cons, List.not_mem_nil, false_implies, implies_true, and_true]
    exact ⟨n_q7, n_q15, n_q24, n_q32, n_q40, n_q48⟩
  · simp only [List.map_cons, List.map_nil, List.nodup_cons, List.mem_cons, List.not_mem_nil, or_false, not_or, List.nodup_nil, and_true, not_false_eq_true]
    exact ⟨⟨q7_q15, q7_q24, q7_q32, q7_q40, q7_q48⟩, ⟨q15_q24, q15_q32, q15_q40, q15_q48⟩, ⟨q24_q32, q24_q40, q24_q48⟩, ⟨q32_q40, q32_q48⟩, q40_q48⟩
  · repeat (first | exact va_up_self _ _ _ | refine tf_u (by first | assumption | (apply Ne.symm; assumption)) ?_)
  · simp only [List.forall_mem_cons, List.not_mem_nil, false_implies, implies_true, and_true]
    refine ⟨?_, ?_, ?_, ?_, ?_, ?_⟩ <;> (repeat (first | exact va_up_self _ _ _ | refine tf_u (by first | assumption | (apply Ne.symm; assumption)) ?_))
  · intro z hz hza
    have z_q7 : z ≠ q7 := fun hh => n_q7 (hh ▸ hz)
    have z_q15 : z ≠ q15 := fun hh => n_q15 (hh ▸ hz)
    have z_q24 : z ≠ q24 := fun hh => n_q24 (hh ▸ hz)
    have z_q32 : z ≠ q32 := fun hh => n_q32 (hh ▸ hz)
    have z_q40 : z ≠ q40 := fun hh => n_q40 (hh ▸ hz)
    have z_q48 : z ≠ q48 := fun hh => n_q48 (hh ▸ hz)
    iterate 12 refine tf_u (by first | assumption | (apply Ne.symm; assumption)) ?_
    rfl
set_option maxHeartbeats 4000000 in
set_option maxRecDepth 100000 in
theorem c_Setter_init (hd : 1 ≤ d) {a : Nat} (ha : a ∈ L) (fa : f a = to 10 [.null, .int 0, .int 0, .int 0, .int 0, .null, .null]) : tf_C l (tf_H D q) d i_Setter_init [.ref a] L f 3 160 (fun v L2 f2 => ∃ q7 q15 q23 : Nat, tf_mk L f a [(q7, ti q 60 (fun _ => 0)), (q15, ti q 60 (fun _ => 0)), (q23, tr 7 q 40 (fun _ => none))] (to 10 [.ref q7, .int 0, .int 0, .int 0, .int 0, .ref q15, .ref q23]) v L2 f2) := by
  refine tf_C.of (tf_gok _ _) (by decide) w_175 (Nat.le_of_ble_eq_true rfl) ?_
  refine tf_blk _ b_Setter_init_0 rfl ?_
  refine tf_obj 4 d_Setter_init_1 rfl w_176 wi_obj wc_obj (by omega) (by decide) ?_
  refine tf_blk _ b_Setter_init_4 rfl ?_
  refine tf_newa (N := 60) (a0 := (60, .inl (fun _ => 0))) 9 0 d_Setter_init_7 rfl rfl wa_int rfl (by decide) (by decide) (by decide) (fun _ => rfl) (fun q7 hq7 => ?_)
  have a_q7 : a ≠ q7 := fun hh => hq7 (hh ▸ (by simp [ha]))
  have n_q7 : q7 ∉ L := fun hh => hq7 (by simp [hh])
  apply tf_putF 12 d_Setter_init_9 rfl ff_Setter_9 rfl
  · first | assumption | (simp only [List.mem_append, List.mem_singleton]; simp [*])
  · first | assumption | exact va_up_self _ _ _ | (refine tf_u (by first | assumption | (apply Ne.symm; assumption) | (intro hh; subst hh; contradiction)) ?_; first | assumption | exact va_up_self _ _ _ | (refine tf_u (by first | assumption | (apply Ne.symm; assumption) | (intro hh; subst hh; contradiction)) ?_; first | assumption | exact va_up_self _ _ _ | (refine tf_u (by first | assumption | (apply Ne.symm; assumption) | (intro hh; subst hh; contradiction)) ?_; first | assumption | exact va_up_self _ _ _ | (refine tf_u (by first | assumption | (apply Ne.symm; assumption) | (intro hh; subst hh; contradiction)) ?_; first | assumption | exact va_up_self _ _ _ | (refine tf_u (by first | assumption | (apply Ne.symm; assumption) | (intro hh; subst hh; contradiction)) ?_; first | assumption | exact va_up_self _ _ _)))))
  · exact Nat.le_of_ble_eq_true rfl
  · rfl
  · rfl
  refine tf_blk _ b_Setter_init_12 rfl ?_
  refine tf_newa (N := 60) (a0 := (60, .inl (fun _ => 0))) 17 0 d_Setter_init_15 rfl rfl wa_int rfl (by decide) (by decide) (by decide) (fun _ => rfl) (fun q15 hq15 => ?_)
  have a_q15 : a ≠ q15 := fun hh => hq15 (hh ▸ (by simp [ha]))
  have n_q15 : q15 ∉ L := fun hh => hq15 (by simp [hh])
  have q7_q15 : q7 ≠ q15 := fun hh => hq15 (hh ▸ (by simp))
  apply tf_putF 20 d_Setter_init_17 rfl ff_Setter_15 rfl
  · first | assumption | (simp only [List.mem_append, List.mem_singleton]; simp [*])
  · first | assumption | exact va_up_self _ _ _ | (refine tf_u (by first | assumption | (apply Ne.symm; assumption) | (intro hh; subst hh; contradiction)) ?_; first | assumption | exact va_up_self _ _ _ | (refine tf_u (by first | assumption | (apply Ne.symm; assumption) | (intro hh; subst hh; contradiction)) ?_; first | assumption | exact va_up_self _ _ _ | (refine tf_u (by first | assumption | (apply Ne.symm; assumption) | (intro hh; subst hh; contradiction)) ?_; first | assumption | exact va_up_self _ _ _ | (refine tf_u (by first | assumption | (apply Ne.symm; assumption) | (intro hh; subst hh; contradiction)) ?_; first | assumption | exact va_up_self _ _ _ | (refine tf_u (by first | assumption | (apply Ne.symm; assumption) | (intro hh; subst hh; contradiction)) ?_; first | assumption | exact va_up_self _ _ _)))))
  · exact Nat.le_of_ble_eq_true rfl
  · rfl
  · rfl
  refine tf_blk _ b_Setter_init_20 rfl ?_
  refine tf_newq (N := 40) 26 7 d_Setter_init_23 rfl w_177 wo_Rule rfl (by decide) (by decide) (by decide) (fun q23 hq23 => ?_)
  have a_q23 : a ≠ q23 := fun hh => hq23 (hh ▸ (by simp [ha]))
  have n_q23 : q23 ∉ L := fun hh => hq23 (by simp [hh])
  have q7_q23 : q7 ≠ q23 := fun hh => hq23 (hh ▸ (by simp))
  have q15_q23 : q15 ≠ q23 := fun hh => hq23 (hh ▸ (by simp))
  apply tf_putF 29 d_Setter_init_26 rfl ff_Setter_20 rfl
  · first | assumption | (simp only [List.mem_append, List.mem_singleton]; simp [*])
  · first | assumption | exact va_up_self _ _ _ | (refine tf_u (by first | assumption | (apply Ne.symm; assumption) | (intro hh; subst hh; contradiction)) ?_; first | assumption | exact va_up_self _ _ _ | (refine tf_u (by first | assumption | (apply Ne.symm; assumption) | (intro hh; subst hh; contradiction)) ?_; first | assumption | exact va_up_self _ _ _ | (refine tf_u (by first | assumption | (apply Ne.symm; assumption) | (intro hh; subst hh; contradiction)) ?_; first | assumption | exact va_up_self _ _ _ | (refine tf_u (by first | assumption | (apply Ne.symm; assumption) | (intro hh; subst hh; contradiction)) ?_; first | assumption | exact va_up_self _ _ _ | (refine tf_u (by first | assumption | (apply Ne.symm; assumption) | (intro hh; subst hh; contradiction)) ?_; first | assumption | exact va_up_self _ _ _)))))
  · exact Nat.le_of_ble_eq_true rfl
  · rfl
  · rfl
  refine tf_vret d_Setter_init_29 rfl ?_
  refine ⟨q7, q15, q23, rfl, by simp, ?_, ?_, ?_, ?_, ?_⟩
  · simp only [List.forall_mem_cons, List.not_mem_nil, false_implies, implies_true, and_true]
    exact ⟨n_q7, n_q15, n_q23⟩
  · simp only [List.map_cons, List.map_nil, List.nodup_cons, List.mem_cons, List.not_mem_nil, or_false, not_or, List.nodup_nil, and_true, not_false_eq_true]
    exact ⟨⟨q7_q15, q7_q23⟩, q15_q23⟩
  · repeat (first | exact va_up_self _ _ _ | refine tf_u (by first | assumption | (apply Ne.symm; assumption)) ?_)
  · simp only [List.forall_mem_cons, List.not_mem_nil, false_implies, implies_true, and_true]
    refine ⟨?_, ?_, ?_⟩ <;> (repeat (first | exact va_up_self _ _ _ | refine tf_u (by first | assumption | (apply Ne.symm; assumption)) ?_))
  · intro z hz hza
    have z_q7 : z ≠ q7 := fun hh => n_q7 (hh ▸ hz)
    have z_q15 : z ≠ q15 := fun hh => n_q15 (hh ▸ hz)
    have z_q23 : z ≠ q23 := fun hh => n_q23 (hh ▸ hz)
    iterate 6 refine tf_u (by first | assumption | (apply Ne.symm; assumption)) ?_
    rfl
set_option maxHeartbeats 4000000 in
set_option maxRecDepth 100000 in
theorem c_Blend_init (hd : 1 ≤ d) {a : Nat} (k : Int32) (ha : a ∈ L) (fa : f a = to 1 [.int 0, .int 0, .int 0]) : tf_C l (tf_H D q) d i_Blend_init [.ref a, .int k] L f 0 0 (fun v L2 f2 => tf_mk L f a [] (to 1 [.int k, .int 0, .int 0]) v L2 f2) := by
  refine tf_C.of (tf_gok _ _) (by decide) w_43 (Nat.le_of_ble_eq_true rfl) ?_
  refine tf_blk _ b_Blend_init_0 rfl ?_
  refine tf_obj 4 d_Blend_init_1 rfl w_44 wi_obj wc_obj (by omega) (by decide) ?_
  refine tf_blk _ b_Blend_init_4 rfl ?_
  apply tf_putF 9 d_Blend_init_6 rfl ff_Blend_9 rfl
  · first | assumption | (simp only [List.mem_append, List.mem_singleton]; simp [*])
  · first | assumption | exact va_up_self _ _ _ | (refine tf_u (by first | assumption | (apply Ne.symm; assumption) | (intro hh; subst hh; contradiction)) ?_; first | assumption | exact va_up_self _ _ _ | (refine tf_u (by first | assumption | (apply Ne.symm; assumption) | (intro hh; subst hh; contradiction)) ?_; first | assumption | exact va_up_self _ _ _ | (refine tf_u (by first | assumption | (apply Ne.symm; assumption) | (intro hh; subst hh; contradiction)) ?_; first | assumption | exact va_up_self _ _ _ | (refine tf_u (by first | assumption | (apply Ne.symm; assumption) | (intro hh; subst hh; contradiction)) ?_; first | assumption | exact va_up_self _ _ _ | (refine tf_u (by first | assumption | (apply Ne.symm; assumption) | (intro hh; subst hh; contradiction)) ?_; first | assumption | exact va_up_self _ _ _)))))
  · exact Nat.le_of_ble_eq_true rfl
  · rfl
  · rfl
  refine tf_vret d_Blend_init_9 rfl ?_
  refine ⟨rfl, by simp, ?_, ?_, ?_, ?_, ?_⟩
  · simp
  · simp
  · repeat (first | exact va_up_self _ _ _ | refine tf_u (by first | assumption | (apply Ne.symm; assumption)) ?_)
  · simp
  · intro z hz hza
    iterate 1 refine tf_u (by first | assumption | (apply Ne.symm; assumption)) ?_
    rfl
end
