/-! Glyph's constructor; TypeFoundry.glyph -/
theorem k40 (c : Nat) : kI 40 * nI c = nI (40 * c) := by
  rw [show kI 40 = nI 40 by decide, pk_mul]
section
variable (l : Launch) (D : va_G) (q : Nat → ClassId) (d : Nat) (L : List Nat) (f : tf_F)
set_option maxHeartbeats 4000000 in
set_option maxRecDepth 100000 in
theorem c_Glyph_init (hd : 1 ≤ d) {a : Nat} (c : Nat) (hc : c ≤ 4) (ha : a ∈ L) (fa : f a = to 3 [.null, .null, .null, .null, .null, .null, .int 0, .int 0, .int 0, .int 0, .int 0, .int 0, .int 0, .int 0, .int 0]) : tf_C l (tf_H D q) d i_Glyph_init [.ref a, .int (nI c)] L f 6 ((((((0 + c) + 40 * c) + 40 * c) + 4) + 13) + 40) (fun v L2 f2 => ∃ q7 q15 q22 q38 q48 q55 : Nat, tf_mk L f a [(q7, tz q 40 (fun _ => 0)), (q15, ti q 13 (fun _ => 0)), (q22, tr 6 q 4 (fun _ => none)), (q38, ti q (40 * c) (fun _ => 0)), (q48, ti q (40 * c) (fun _ => 0)), (q55, ti q (c) (fun _ => 0))] (to 3 [.ref q38, .ref q48, .ref q55, .ref q7, .ref q15, .ref q22, .int 0, .int 0, .int 0, .int 0, .int (nI c), .int 0, .int 0, .int 0, .int 0]) v L2 f2) := by
  refine tf_C.of (tf_gok _ _) (by decide) w_450 (Nat.le_of_ble_eq_true rfl) ?_
  refine tf_blk _ b_Glyph_init_0 rfl ?_
  refine tf_obj 4 d_Glyph_init_1 rfl w_451 wi_obj wc_obj (by omega) (by decide) ?_
  refine tf_blk _ b_Glyph_init_4 rfl ?_
  refine tf_newa (N := 40) (a0 := (40, .inl (fun _ => 0))) 9 1 d_Glyph_init_7 rfl rfl wa_boolean rfl (by decide) (by decide) (by decide) (fun _ => rfl) (fun q7 hq7 => ?_)
  have a_q7 : a ≠ q7 := fun hh => hq7 (hh ▸ (by simp [ha]))
  have n_q7 : q7 ∉ L := fun hh => hq7 (by simp [hh])
  refine tf_putF (fs := ?fs_9_3) 12 d_Glyph_init_9 rfl ff_Glyph_9 rfl ?ha_9_3 ?hf_9_3 ?hl_9_3 ?hn_9_3 ?ht_9_3 ?kk_9_3
  case ha_9_3 => first | assumption | (simp only [List.mem_append, List.mem_singleton]; simp [*])
  case hf_9_3 => first | assumption | exact va_up_self _ _ _ | (refine tf_u (by first | assumption | (apply Ne.symm; assumption) | (intro hh; subst hh; contradiction)) ?_; first | assumption | exact va_up_self _ _ _ | (refine tf_u (by first | assumption | (apply Ne.symm; assumption) | (intro hh; subst hh; contradiction)) ?_; first | assumption | exact va_up_self _ _ _ | (refine tf_u (by first | assumption | (apply Ne.symm; assumption) | (intro hh; subst hh; contradiction)) ?_; first | assumption | exact va_up_self _ _ _ | (refine tf_u (by first | assumption | (apply Ne.symm; assumption) | (intro hh; subst hh; contradiction)) ?_; first | assumption | exact va_up_self _ _ _ | (refine tf_u (by first | assumption | (apply Ne.symm; assumption) | (intro hh; subst hh; contradiction)) ?_; first | assumption | exact va_up_self _ _ _)))))
  case hl_9_3 => exact Nat.le_of_ble_eq_true rfl
  case hn_9_3 => rfl
  case ht_9_3 => rfl
  refine tf_blk _ b_Glyph_init_12 rfl ?_
  refine tf_newa (N := 13) (a0 := (13, .inl (fun _ => 0))) 17 0 d_Glyph_init_15 rfl rfl wa_int rfl (by decide) (by decide) (by decide) (fun _ => rfl) (fun q15 hq15 => ?_)
  have a_q15 : a ≠ q15 := fun hh => hq15 (hh ▸ (by simp [ha]))
  have n_q15 : q15 ∉ L := fun hh => hq15 (by simp [hh])
  have q7_q15 : q7 ≠ q15 := fun hh => hq15 (hh ▸ (by simp))
  refine tf_putF (fs := ?fs_17_5) 20 d_Glyph_init_17 rfl ff_Glyph_15 rfl ?ha_17_5 ?hf_17_5 ?hl_17_5 ?hn_17_5 ?ht_17_5 ?kk_17_5
  case ha_17_5 => first | assumption | (simp only [List.mem_append, List.mem_singleton]; simp [*])
  case hf_17_5 => first | assumption | exact va_up_self _ _ _ | (refine tf_u (by first | assumption | (apply Ne.symm; assumption) | (intro hh; subst hh; contradiction)) ?_; first | assumption | exact va_up_self _ _ _ | (refine tf_u (by first | assumption | (apply Ne.symm; assumption) | (intro hh; subst hh; contradiction)) ?_; first | assumption | exact va_up_self _ _ _ | (refine tf_u (by first | assumption | (apply Ne.symm; assumption) | (intro hh; subst hh; contradiction)) ?_; first | assumption | exact va_up_self _ _ _ | (refine tf_u (by first | assumption | (apply Ne.symm; assumption) | (intro hh; subst hh; contradiction)) ?_; first | assumption | exact va_up_self _ _ _ | (refine tf_u (by first | assumption | (apply Ne.symm; assumption) | (intro hh; subst hh; contradiction)) ?_; first | assumption | exact va_up_self _ _ _)))))
  case hl_17_5 => exact Nat.le_of_ble_eq_true rfl
  case hn_17_5 => rfl
  case ht_17_5 => rfl
  refine tf_blk _ b_Glyph_init_20 rfl ?_
  refine tf_newq (N := 4) 25 6 d_Glyph_init_22 rfl w_452 wo_Part rfl (by decide) (by decide) (by decide) (fun q22 hq22 => ?_)
  have a_q22 : a ≠ q22 := fun hh => hq22 (hh ▸ (by simp [ha]))
  have n_q22 : q22 ∉ L := fun hh => hq22 (by simp [hh])
  have q7_q22 : q7 ≠ q22 := fun hh => hq22 (hh ▸ (by simp))
  have q15_q22 : q15 ≠ q22 := fun hh => hq22 (hh ▸ (by simp))
  refine tf_putF (fs := ?fs_25_7) 28 d_Glyph_init_25 rfl ff_Glyph_21 rfl ?ha_25_7 ?hf_25_7 ?hl_25_7 ?hn_25_7 ?ht_25_7 ?kk_25_7
  case ha_25_7 => first | assumption | (simp only [List.mem_append, List.mem_singleton]; simp [*])
  case hf_25_7 => first | assumption | exact va_up_self _ _ _ | (refine tf_u (by first | assumption | (apply Ne.symm; assumption) | (intro hh; subst hh; contradiction)) ?_; first | assumption | exact va_up_self _ _ _ | (refine tf_u (by first | assumption | (apply Ne.symm; assumption) | (intro hh; subst hh; contradiction)) ?_; first | assumption | exact va_up_self _ _ _ | (refine tf_u (by first | assumption | (apply Ne.symm; assumption) | (intro hh; subst hh; contradiction)) ?_; first | assumption | exact va_up_self _ _ _ | (refine tf_u (by first | assumption | (apply Ne.symm; assumption) | (intro hh; subst hh; contradiction)) ?_; first | assumption | exact va_up_self _ _ _ | (refine tf_u (by first | assumption | (apply Ne.symm; assumption) | (intro hh; subst hh; contradiction)) ?_; first | assumption | exact va_up_self _ _ _)))))
  case hl_25_7 => exact Nat.le_of_ble_eq_true rfl
  case hn_25_7 => rfl
  case ht_25_7 => rfl
  refine tf_blk _ b_Glyph_init_28 rfl ?_
  refine tf_putF (fs := ?fs_30_8) 33 d_Glyph_init_30 rfl ff_Glyph_25 rfl ?ha_30_8 ?hf_30_8 ?hl_30_8 ?hn_30_8 ?ht_30_8 ?kk_30_8
  case ha_30_8 => first | assumption | (simp only [List.mem_append, List.mem_singleton]; simp [*])
  case hf_30_8 => first | assumption | exact va_up_self _ _ _ | (refine tf_u (by first | assumption | (apply Ne.symm; assumption) | (intro hh; subst hh; contradiction)) ?_; first | assumption | exact va_up_self _ _ _ | (refine tf_u (by first | assumption | (apply Ne.symm; assumption) | (intro hh; subst hh; contradiction)) ?_; first | assumption | exact va_up_self _ _ _ | (refine tf_u (by first | assumption | (apply Ne.symm; assumption) | (intro hh; subst hh; contradiction)) ?_; first | assumption | exact va_up_self _ _ _ | (refine tf_u (by first | assumption | (apply Ne.symm; assumption) | (intro hh; subst hh; contradiction)) ?_; first | assumption | exact va_up_self _ _ _ | (refine tf_u (by first | assumption | (apply Ne.symm; assumption) | (intro hh; subst hh; contradiction)) ?_; first | assumption | exact va_up_self _ _ _)))))
  case hl_30_8 => exact Nat.le_of_ble_eq_true rfl
  case hn_30_8 => rfl
  case ht_30_8 => rfl
  refine tf_blk _ b_Glyph_init_33 rfl ?_
  refine tf_newa (N := (40 * c)) (a0 := ((40 * c), .inl (fun _ => 0))) 40 0 d_Glyph_init_38 rfl rfl wa_int rfl (by rw [k40]; exact nI_pos (by omega)) (by rw [k40]; exact nI_clamp (by omega)) (by show 40 * c * 4 ≤ _; omega) (fun _ => rfl) (fun q38 hq38 => ?_)
  have a_q38 : a ≠ q38 := fun hh => hq38 (hh ▸ (by simp [ha]))
  have n_q38 : q38 ∉ L := fun hh => hq38 (by simp [hh])
  have q7_q38 : q7 ≠ q38 := fun hh => hq38 (hh ▸ (by simp))
  have q15_q38 : q15 ≠ q38 := fun hh => hq38 (hh ▸ (by simp))
  have q22_q38 : q22 ≠ q38 := fun hh => hq38 (hh ▸ (by simp))
  refine tf_putF (fs := ?fs_40_10) 43 d_Glyph_init_40 rfl ff_Glyph_29 rfl ?ha_40_10 ?hf_40_10 ?hl_40_10 ?hn_40_10 ?ht_40_10 ?kk_40_10
  case ha_40_10 => first | assumption | (simp only [List.mem_append, List.mem_singleton]; simp [*])
  case hf_40_10 => first | assumption | exact va_up_self _ _ _ | (refine tf_u (by first | assumption | (apply Ne.symm; assumption) | (intro hh; subst hh; contradiction)) ?_; first | assumption | exact va_up_self _ _ _ | (refine tf_u (by first | assumption | (apply Ne.symm; assumption) | (intro hh; subst hh; contradiction)) ?_; first | assumption | exact va_up_self _ _ _ | (refine tf_u (by first | assumption | (apply Ne.symm; assumption) | (intro hh; subst hh; contradiction)) ?_; first | assumption | exact va_up_self _ _ _ | (refine tf_u (by first | assumption | (apply Ne.symm; assumption) | (intro hh; subst hh; contradiction)) ?_; first | assumption | exact va_up_self _ _ _ | (refine tf_u (by first | assumption | (apply Ne.symm; assumption) | (intro hh; subst hh; contradiction)) ?_; first | assumption | exact va_up_self _ _ _)))))
  case hl_40_10 => exact Nat.le_of_ble_eq_true rfl
  case hn_40_10 => rfl
  case ht_40_10 => rfl
  refine tf_blk _ b_Glyph_init_43 rfl ?_
  refine tf_newa (N := (40 * c)) (a0 := ((40 * c), .inl (fun _ => 0))) 50 0 d_Glyph_init_48 rfl rfl wa_int rfl (by rw [k40]; exact nI_pos (by omega)) (by rw [k40]; exact nI_clamp (by omega)) (by show 40 * c * 4 ≤ _; omega) (fun _ => rfl) (fun q48 hq48 => ?_)
  have a_q48 : a ≠ q48 := fun hh => hq48 (hh ▸ (by simp [ha]))
  have n_q48 : q48 ∉ L := fun hh => hq48 (by simp [hh])
  have q7_q48 : q7 ≠ q48 := fun hh => hq48 (hh ▸ (by simp))
  have q15_q48 : q15 ≠ q48 := fun hh => hq48 (hh ▸ (by simp))
  have q22_q48 : q22 ≠ q48 := fun hh => hq48 (hh ▸ (by simp))
  have q38_q48 : q38 ≠ q48 := fun hh => hq48 (hh ▸ (by simp))
  refine tf_putF (fs := ?fs_50_12) 53 d_Glyph_init_50 rfl ff_Glyph_32 rfl ?ha_50_12 ?hf_50_12 ?hl_50_12 ?hn_50_12 ?ht_50_12 ?kk_50_12
  case ha_50_12 => first | assumption | (simp only [List.mem_append, List.mem_singleton]; simp [*])
  case hf_50_12 => first | assumption | exact va_up_self _ _ _ | (refine tf_u (by first | assumption | (apply Ne.symm; assumption) | (intro hh; subst hh; contradiction)) ?_; first | assumption | exact va_up_self _ _ _ | (refine tf_u (by first | assumption | (apply Ne.symm; assumption) | (intro hh; subst hh; contradiction)) ?_; first | assumption | exact va_up_self _ _ _ | (refine tf_u (by first | assumption | (apply Ne.symm; assumption) | (intro hh; subst hh; contradiction)) ?_; first | assumption | exact va_up_self _ _ _ | (refine tf_u (by first | assumption | (apply Ne.symm; assumption) | (intro hh; subst hh; contradiction)) ?_; first | assumption | exact va_up_self _ _ _ | (refine tf_u (by first | assumption | (apply Ne.symm; assumption) | (intro hh; subst hh; contradiction)) ?_; first | assumption | exact va_up_self _ _ _)))))
  case hl_50_12 => exact Nat.le_of_ble_eq_true rfl
  case hn_50_12 => rfl
  case ht_50_12 => rfl
  refine tf_blk _ b_Glyph_init_53 rfl ?_
  refine tf_newa (N := c) (a0 := (c, .inl (fun _ => 0))) 57 0 d_Glyph_init_55 rfl rfl wa_int rfl (nI_pos (by omega)) (nI_clamp (by omega)) (by show c * 4 ≤ _; omega) (fun _ => rfl) (fun q55 hq55 => ?_)
  have a_q55 : a ≠ q55 := fun hh => hq55 (hh ▸ (by simp [ha]))
  have n_q55 : q55 ∉ L := fun hh => hq55 (by simp [hh])
  have q7_q55 : q7 ≠ q55 := fun hh => hq55 (hh ▸ (by simp))
  have q15_q55 : q15 ≠ q55 := fun hh => hq55 (hh ▸ (by simp))
  have q22_q55 : q22 ≠ q55 := fun hh => hq55 (hh ▸ (by simp))
  have q38_q55 : q38 ≠ q55 := fun hh => hq55 (hh ▸ (by simp))
  have q48_q55 : q48 ≠ q55 := fun hh => hq55 (hh ▸ (by simp))
  refine tf_putF (fs := ?fs_57_14) 60 d_Glyph_init_57 rfl ff_Glyph_35 rfl ?ha_57_14 ?hf_57_14 ?hl_57_14 ?hn_57_14 ?ht_57_14 ?kk_57_14
  case ha_57_14 => first | assumption | (simp only [List.mem_append, List.mem_singleton]; simp [*])
  case hf_57_14 => first | assumption | exact va_up_self _ _ _ | (refine tf_u (by first | assumption | (apply Ne.symm; assumption) | (intro hh; subst hh; contradiction)) ?_; first | assumption | exact va_up_self _ _ _ | (refine tf_u (by first | assumption | (apply Ne.symm; assumption) | (intro hh; subst hh; contradiction)) ?_; first | assumption | exact va_up_self _ _ _ | (refine tf_u (by first | assumption | (apply Ne.symm; assumption) | (intro hh; subst hh; contradiction)) ?_; first | assumption | exact va_up_self _ _ _ | (refine tf_u (by first | assumption | (apply Ne.symm; assumption) | (intro hh; subst hh; contradiction)) ?_; first | assumption | exact va_up_self _ _ _ | (refine tf_u (by first | assumption | (apply Ne.symm; assumption) | (intro hh; subst hh; contradiction)) ?_; first | assumption | exact va_up_self _ _ _)))))
  case hl_57_14 => exact Nat.le_of_ble_eq_true rfl
  case hn_57_14 => rfl
  case ht_57_14 => rfl
  refine tf_vret d_Glyph_init_60 rfl ?_
  refine ⟨q7, q15, q22, q38, q48, q55, rfl, by simp, ?_, ?_, ?_, ?_, ?_⟩
  · simp only [List.forall_mem_cons, List.not_mem_nil, false_implies, implies_true, and_true]
    exact ⟨n_q7, n_q15, n_q22, n_q38, n_q48, n_q55⟩
  · simp only [List.map_cons, List.map_nil, List.nodup_cons, List.mem_cons, List.not_mem_nil, or_false, not_or, List.nodup_nil, and_true, not_false_eq_true]
    exact ⟨⟨q7_q15, q7_q22, q7_q38, q7_q48, q7_q55⟩, ⟨q15_q22, q15_q38, q15_q48, q15_q55⟩, ⟨q22_q38, q22_q48, q22_q55⟩, ⟨q38_q48, q38_q55⟩, q48_q55⟩
  · repeat (first | exact va_up_self _ _ _ | refine tf_u (by first | assumption | (apply Ne.symm; assumption)) ?_)
  · simp only [List.forall_mem_cons, List.not_mem_nil, false_implies, implies_true, and_true]
    refine ⟨?_, ?_, ?_, ?_, ?_, ?_⟩ <;> (repeat (first | exact va_up_self _ _ _ | refine tf_u (by first | assumption | (apply Ne.symm; assumption)) ?_))
  · intro z hz hza
    have z_q7 : z ≠ q7 := fun hh => n_q7 (hh ▸ hz)
    have z_q15 : z ≠ q15 := fun hh => n_q15 (hh ▸ hz)
    have z_q22 : z ≠ q22 := fun hh => n_q22 (hh ▸ hz)
    have z_q38 : z ≠ q38 := fun hh => n_q38 (hh ▸ hz)
    have z_q48 : z ≠ q48 := fun hh => n_q48 (hh ▸ hz)
    have z_q55 : z ≠ q55 := fun hh => n_q55 (hh ▸ hz)
    iterate 13 refine tf_u (by first | assumption | (apply Ne.symm; assumption)) ?_
    rfl
end
