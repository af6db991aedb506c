/-! Outline.addContours -/
section
variable (l : Launch) (D : va_G) (q : Nat → ClassId) (d : Nat) (L : List Nat) (f : tf_F)
end
/-- point i of a glyph becomes point p of the outline, in contour C -/
def ou_pt (X Y O : Nat → Int32) (C i p : Nat) (A : Nat → Nat → Int32) : Nat → Nat → Int32 := va_up (va_up (va_up (va_up A 0 (upd (A 0) p (X i))) 1 (upd (A 1) p (Y i))) 2 (upd (A 2) p (vp_nar .boolean (O i)))) 4 (upd (A 4) p (nI C))
def tw_ac1 (X Y O : Nat → Int32) (C : Nat) : Nat → Nat → Nat → (Nat → Nat → Int32) → Nat → Nat → Int32
  | 0, _, _, A => A
  | m + 1, i, p, A => tw_ac1 X Y O C m (i + 1) (p + 1) (ou_pt X Y O C i p A)
/-- the values of a glyph's points in the instance -/
def tw_X (mm u w : Int32) (g : Nat → Int32) (i : Nat) : Int32 := tw_val mm u w g (nI i)
/-- a row of values of the masters can be taken at i -/
def tw_vin (mm : Int32) (n i : Nat) : Prop := vp_in (nI i * mm) n ∧ (¬ mm = kI 1 → vp_in (nI i * mm + kI 1) n) ∧ (¬ mm = kI 1 → ¬ mm = kI 2 → vp_in (nI i * mm + kI 2) n) ∧ (¬ mm = kI 1 → ¬ mm = kI 2 → vp_in (nI i * mm + kI 3) n)
/-- the cells of a glyph and of the blend, as W0 has them, none of them the outline's -/
def ou_gl (q : Nat → ClassId) (ad : Nat → Nat) (a b bl gx gy go ge n : Nat) (mm u w : Int32) (X Y O E : Nat → Int32) (ct : Nat) (L : List Nat) (W0 : tf_F) : Prop :=
  (∃ v2 v5 v6 v8 v9 v10 v11 v12 v13 v14 : Value, b ∈ L ∧ ¬ ou_own ad a b ∧ W0 b = to 3 [.ref gx, .ref gy, v2, .ref go, .ref ge, v5, v6, .int (nI ct), v8, v9, v10, v11, v12, v13, v14]) ∧ (bl ∈ L ∧ ¬ ou_own ad a bl ∧ W0 bl = to 1 [.int mm, .int u, .int w]) ∧ (gx ∈ L ∧ ¬ ou_own ad a gx ∧ W0 gx = ti q n X) ∧ (gy ∈ L ∧ ¬ ou_own ad a gy ∧ W0 gy = ti q n Y) ∧ (go ∈ L ∧ ¬ ou_own ad a go ∧ W0 go = tz q 40 O) ∧ (ge ∈ L ∧ ¬ ou_own ad a ge ∧ W0 ge = ti q 13 E)
section
variable (l : Launch) (D : va_G) (q : Nat → ClassId) (d : Nat) (L : List Nat) (f : tf_F)
set_option maxHeartbeats 4000000 in
set_option maxRecDepth 100000 in
theorem t_Outline_ac1 (hd : 3 ≤ d) {QB : tf_B} {kc ks : Nat} {ad : Nat → Nat} {a b bl gx gy go ge n ct : Nat} {mm u w : Int32} {X Y O E : Nat → Int32} {W0 : tf_F} (hG : ou_gl q ad a b bl gx gy go ge n mm u w X Y O E ct L W0) (hV : ∀ i, i < 40 → tw_vin mm n i) {c C e : Nat} (hc : c < 13) (hE : E c = nI e) (he40 : e ≤ 40) : ∀ m i p (A : Nat → Nat → Int32) (f : tf_F), i + m = e → p + m ≤ 160 → ou_at q ad a W0 L (nI C) (nI p) A f → (∀ f2 : tf_F, ou_at q ad a W0 L (nI C) (nI (p + m)) (tw_ac1 (tw_X mm u w X) (tw_X mm u w Y) O C m i p A) f2 → tf_W l (tf_H D q) tf_T QB d i_Outline_addContours 105 [(0, .ref a), (1, .ref b), (2, .ref bl), (3, .int (nI e)), (4, .int (nI c))] [] L f2 kc ks) → tf_W l (tf_H D q) tf_T QB d i_Outline_addContours 14 [(0, .ref a), (1, .ref b), (2, .ref bl), (3, .int (nI i)), (4, .int (nI c))] [] L f kc ks := by
  obtain ⟨⟨v2, v5, v6, v8, v9, v10, v11, v12, v13, v14, hb, ob, fb⟩, ⟨hl, ol, fl⟩, ⟨hx, ox, fx⟩, ⟨hy, oy, fy⟩, ⟨ho, oo, fo⟩, ⟨he, oe, fe⟩⟩ := id hG
  have hcv : vp_in (nI c) 13 := vp_in_nI hc (by omega)
  have hcc : (nI c).toNatClampNeg = c := nI_clamp (by omega)
  intro m
  induction m with
  | zero =>
    intro i p A f hm hp hT hK
    obtain rfl : i = e := hm
    refine tf_blk _ b_Outline_addContours_14 rfl ?_
    refine tf_get (fs := ?fs_16_1) (v := ?v_16_1) 19 d_Outline_addContours_16 rfl fl_Outline_68 ?ha_16_1 ?hf_16_1 ?hv_16_1 ?kk_16_1
    case ha_16_1 => first | assumption | (simp only [List.mem_append, List.mem_singleton]; simp [*])
    case hf_16_1 => rw [hT.2 b ob]; assumption
    case hv_16_1 => rfl
    refine tf_blk _ b_Outline_addContours_19 rfl ?_
    refine tf_iald (n := ?n_21_2) (g := ?g_21_2) 22 0 d_Outline_addContours_21 rfl rfl ?ha_21_2 ?hf_21_2 ?hi_21_2 ?kk_21_2
    case ha_21_2 => first | assumption | (simp only [List.mem_append, List.mem_singleton]; simp [*])
    case hf_21_2 => rw [hT.2 ge oe]; assumption
    case hi_21_2 => exact hcv
    rw [hcc, hE]
    refine tf_ic_ge 105 25 d_Outline_addContours_22 rfl rfl (fun h22 => ?_) (fun h22 => absurd (nI_le (by omega) (by omega)) h22)
    exact hK _ hT
  | succ m ih =>
    intro i p A f hm hp hT hK
    have hv : vp_in (nI p) 160 := vp_in_nI (by omega) (by omega)
    have hpc : (nI p).toNatClampNeg = p := nI_clamp (by omega)
    have hiv : vp_in (nI i) 40 := vp_in_nI (by omega) (by omega)
    have hic : (nI i).toNatClampNeg = i := nI_clamp (by omega)
    refine tf_blk _ b_Outline_addContours_14 rfl ?_
    refine tf_get (fs := ?fs_16_3) (v := ?v_16_3) 19 d_Outline_addContours_16 rfl fl_Outline_68 ?ha_16_3 ?hf_16_3 ?hv_16_3 ?kk_16_3
    case ha_16_3 => first | assumption | (simp only [List.mem_append, List.mem_singleton]; simp [*])
    case hf_16_3 => rw [hT.2 b ob]; assumption
    case hv_16_3 => rfl
    refine tf_blk _ b_Outline_addContours_19 rfl ?_
    refine tf_iald (n := ?n_21_4) (g := ?g_21_4) 22 0 d_Outline_addContours_21 rfl rfl ?ha_21_4 ?hf_21_4 ?hi_21_4 ?kk_21_4
    case ha_21_4 => first | assumption | (simp only [List.mem_append, List.mem_singleton]; simp [*])
    case hf_21_4 => rw [hT.2 ge oe]; assumption
    case hi_21_4 => exact hcv
    rw [hcc, hE]
    refine tf_ic_ge 105 25 d_Outline_addContours_22 rfl rfl (fun h22 => absurd h22 (nI_ge (by omega) (by omega))) (fun h22 => ?_)
    refine tf_blk _ b_Outline_addContours_25 rfl ?_
    refine ou_get 29 d_Outline_addContours_26 rfl fl_Outline_9 hT rfl ?_
    refine tf_blk _ b_Outline_addContours_29 rfl ?_
    refine ou_get 33 d_Outline_addContours_30 rfl fl_Outline_28 hT rfl ?_
    refine tf_blk _ b_Outline_addContours_33 rfl ?_
    refine tf_get (fs := ?fs_35_7) (v := ?v_35_7) 38 d_Outline_addContours_35 rfl fl_Outline_71 ?ha_35_7 ?hf_35_7 ?hv_35_7 ?kk_35_7
    case ha_35_7 => first | assumption | (simp only [List.mem_append, List.mem_singleton]; simp [*])
    case hf_35_7 => rw [hT.2 b ob]; assumption
    case hv_35_7 => rfl
    refine tf_blk _ b_Outline_addContours_38 rfl ?_
    refine tf_cV (tf_gok _ _) (c_Blend_valueOf l D q (d - 1) _ _ (by omega) hl ((hT.2 _ ol).trans fl) hx ((hT.2 _ ox).trans fx) (nI i) (hV i (by omega)).1 (hV i (by omega)).2.1 (hV i (by omega)).2.2.1 (hV i (by omega)).2.2.2) 42 d_Outline_addContours_39 rfl lk_Outline_72 cw_Blend_valueOf (by rfl) in_Blend_valueOf se_Blend_valueOf (by exact hl) (by exact (hT.2 _ ol).trans fl) (by rfl) (by rfl) (by omega) (by exact Nat.le_of_ble_eq_true rfl) rfl ?_
    rintro v39 L39 f39 ⟨rfl, rfl, rfl⟩
    refine ou_iast _ 43 d_Outline_addContours_42 rfl hT (by decide) rfl (by exact hv) (fun f hT => ?_)
    refine tf_blk _ b_Outline_addContours_43 rfl ?_
    refine ou_get 47 d_Outline_addContours_44 rfl fl_Outline_15 hT rfl ?_
    refine tf_blk _ b_Outline_addContours_47 rfl ?_
    refine ou_get 51 d_Outline_addContours_48 rfl fl_Outline_28 hT rfl ?_
    refine tf_blk _ b_Outline_addContours_51 rfl ?_
    refine tf_get (fs := ?fs_53_12) (v := ?v_53_12) 56 d_Outline_addContours_53 rfl fl_Outline_78 ?ha_53_12 ?hf_53_12 ?hv_53_12 ?kk_53_12
    case ha_53_12 => first | assumption | (simp only [List.mem_append, List.mem_singleton]; simp [*])
    case hf_53_12 => rw [hT.2 b ob]; assumption
    case hv_53_12 => rfl
    refine tf_blk _ b_Outline_addContours_56 rfl ?_
    refine tf_cV (tf_gok _ _) (c_Blend_valueOf l D q (d - 1) _ _ (by omega) hl ((hT.2 _ ol).trans fl) hy ((hT.2 _ oy).trans fy) (nI i) (hV i (by omega)).1 (hV i (by omega)).2.1 (hV i (by omega)).2.2.1 (hV i (by omega)).2.2.2) 60 d_Outline_addContours_57 rfl lk_Outline_72 cw_Blend_valueOf (by rfl) in_Blend_valueOf se_Blend_valueOf (by exact hl) (by exact (hT.2 _ ol).trans fl) (by rfl) (by rfl) (by omega) (by exact Nat.le_of_ble_eq_true rfl) rfl ?_
    rintro v57 L57 f57 ⟨rfl, rfl, rfl⟩
    refine ou_iast _ 61 d_Outline_addContours_60 rfl hT (by decide) rfl (by exact hv) (fun f hT => ?_)
    refine tf_blk _ b_Outline_addContours_61 rfl ?_
    refine ou_get 65 d_Outline_addContours_62 rfl fl_Outline_18 hT rfl ?_
    refine tf_blk _ b_Outline_addContours_65 rfl ?_
    refine ou_get 69 d_Outline_addContours_66 rfl fl_Outline_28 hT rfl ?_
    refine tf_blk _ b_Outline_addContours_69 rfl ?_
    refine tf_get (fs := ?fs_70_17) (v := ?v_70_17) 73 d_Outline_addContours_70 rfl fl_Outline_79 ?ha_70_17 ?hf_70_17 ?hv_70_17 ?kk_70_17
    case ha_70_17 => first | assumption | (simp only [List.mem_append, List.mem_singleton]; simp [*])
    case hf_70_17 => rw [hT.2 b ob]; assumption
    case hv_70_17 => rfl
    refine tf_blk _ b_Outline_addContours_73 rfl ?_
    refine tf_zald (n := ?n_74_18) (g := ?g_74_18) 75 1 d_Outline_addContours_74 rfl rfl ?ha_74_18 ?hf_74_18 ?hi_74_18 ?kk_74_18
    case ha_74_18 => first | assumption | (simp only [List.mem_append, List.mem_singleton]; simp [*])
    case hf_74_18 => rw [hT.2 go oo]; assumption
    case hi_74_18 => exact hiv
    refine ou_zast 76 d_Outline_addContours_75 rfl hT (by exact hv) (fun f hT => ?_)
    refine tf_blk _ b_Outline_addContours_76 rfl ?_
    refine ou_get 80 d_Outline_addContours_77 rfl fl_Outline_25 hT rfl ?_
    refine tf_blk _ b_Outline_addContours_80 rfl ?_
    refine ou_get 84 d_Outline_addContours_81 rfl fl_Outline_28 hT rfl ?_
    refine tf_blk _ b_Outline_addContours_84 rfl ?_
    refine ou_get 88 d_Outline_addContours_85 rfl fl_Outline_32 hT rfl ?_
    refine ou_iast _ 89 d_Outline_addContours_88 rfl hT (by decide) rfl (by exact hv) (fun f hT => ?_)
    refine tf_blk _ b_Outline_addContours_89 rfl ?_
    refine ou_get 94 d_Outline_addContours_91 rfl fl_Outline_28 hT rfl ?_
    refine tf_blk _ b_Outline_addContours_94 rfl ?_
    refine ou_put 99 d_Outline_addContours_96 rfl fw_Outline_28 hT (by decide) rfl rfl rfl (fun f hT => ?_)
    refine tf_blk _ b_Outline_addContours_99 rfl ?_
    refine tf_goto 14 d_Outline_addContours_102 rfl ?_
    rw [hpc, hic] at hT
    have h8 := hT
    rw [show nI p + kI 1 = nI (p + 1) from nI_1 p] at h8
    have h9 := ih (i + 1) (p + 1) (ou_pt (tw_X mm u w X) (tw_X mm u w Y) O C i p A) _ (by omega) (by omega) h8 (fun f2 h => hK f2 (by rw [show p + (m + 1) = p + 1 + m by omega]; exact h))
    rw [nI_succ] at h9
    exact h9
end
