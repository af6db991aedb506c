/-! public methods: glyph -/
/-- the slots that a glyph's arrays take -/
abbrev tw_gs (c : Nat) : Nat := ((((((0 + c) + 40 * c) + 40 * c) + 4) + 13) + 40)
abbrev tw_g0 (q : Nat → ClassId) (c : Nat) (r : Nat → Nat) : List (Nat × va_E) := [(r 0, tz q 40 (fun _ => 0)), (r 1, ti q 13 (fun _ => 0)), (r 2, tr 6 q 4 (fun _ => none)), (r 3, ti q (40 * c) (fun _ => 0)), (r 4, ti q (40 * c) (fun _ => 0)), (r 5, ti q (c) (fun _ => 0))]
abbrev tw_go (c : Nat) (r : Nat → Nat) : va_E := to 3 [.ref (r 3), .ref (r 4), .ref (r 5), .ref (r 0), .ref (r 1), .ref (r 2), .int 0, .int 0, .int 0, .int 0, .int (nI c), .int 0, .int 0, .int 0, .int 0]
abbrev tw_ge : va_E := to 3 [.null, .null, .null, .null, .null, .null, .int 0, .int 0, .int 0, .int 0, .int 0, .int 0, .int 0, .int 0, .int 0]
section
variable (l : Launch) (D : va_G) (q : Nat → ClassId) (d : Nat) (L : List Nat) (f : tf_F)
set_option maxHeartbeats 4000000 in
set_option maxRecDepth 100000 in
theorem c_Tf_glyph (hl : l.stackTraces = false) (hd : 8 ≤ d) {x bl gl n c : Nat} {ou pa he ca ke se : Value} {u w : Int32} {g : Nat → Option Nat} (hx : x ∈ L) (hbl : bl ∈ L) (hgl : gl ∈ L) (hn : n ≤ 40) (hc : c ≤ 4) (fx : f x = to 0 [.ref bl, .ref gl, ou, pa, he, ca, ke, se, .int (nI n)]) (fbl : f bl = to 1 [.int (nI c), .int u, .int w]) (fgl : f gl = tr 5 q 40 g) : tx_C l (tf_H D q) d i_Tf_glyph [.ref x] L f 7 ((0 + tw_gs c) + 15) (fun v L2 f2 => n < 40 ∧ v = some (.int (nI n)) ∧ ∃ (a : Nat) (r : Nat → Nat) (f1 : tf_F), a ∉ L ∧ tf_mk (L ++ [a]) (va_up f a tw_ge) a (tw_g0 q c r) (tw_go c r) none L2 f1 ∧ f2 = va_up (va_up f1 gl (tr 5 q 40 (va_up g n (some a)))) x (to 0 [.ref bl, .ref gl, ou, pa, he, ca, ke, se, .int (nI n + kI 1)])) (fun E L2 f2 => n = 40 ∧ E = "java/lang/IllegalStateException" ∧ L2 = L ∧ f2 = f) := by
  refine tx_C.of (by decide) (Nat.le_of_ble_eq_true rfl) ?_
  refine tf_blk _ b_Tf_glyph_0 rfl ?_
  refine tf_get (fs := ?fs_1_1) (v := ?v_1_1) 4 d_Tf_glyph_1 rfl fl_Tf_66 ?ha_1_1 ?hf_1_1 ?hv_1_1 ?kk_1_1
  case ha_1_1 => first | assumption | (simp only [List.mem_append, List.mem_singleton]; simp [*])
  case hf_1_1 => first | assumption | exact va_up_self _ _ _ | (refine tf_u (by first | assumption | (apply Ne.symm; assumption) | (intro hh; subst hh; contradiction)) ?_; first | assumption | exact va_up_self _ _ _ | (refine tf_u (by first | assumption | (apply Ne.symm; assumption) | (intro hh; subst hh; contradiction)) ?_; first | assumption | exact va_up_self _ _ _ | (refine tf_u (by first | assumption | (apply Ne.symm; assumption) | (intro hh; subst hh; contradiction)) ?_; first | assumption | exact va_up_self _ _ _ | (refine tf_u (by first | assumption | (apply Ne.symm; assumption) | (intro hh; subst hh; contradiction)) ?_; first | assumption | exact va_up_self _ _ _ | (refine tf_u (by first | assumption | (apply Ne.symm; assumption) | (intro hh; subst hh; contradiction)) ?_; first | assumption | exact va_up_self _ _ _)))))
  case hv_1_1 => rfl
  refine tf_blk _ b_Tf_glyph_4 rfl ?_
  refine tf_ic_lt 19 9 d_Tf_glyph_6 rfl rfl (fun h6 => ?_) (fun h6 => ?_)
  · have hn40 : n < 40 := by
      have h9 : nI n < nI 40 := h6
      exact (nI_ltI (by omega) (by omega)).mp h9
    refine tf_blk _ b_Tf_glyph_19 rfl ?_
    refine tf_get (fs := ?fs_20_2) (v := ?v_20_2) 23 d_Tf_glyph_20 rfl fl_Tf_20 ?ha_20_2 ?hf_20_2 ?hv_20_2 ?kk_20_2
    case ha_20_2 => first | assumption | (simp only [List.mem_append, List.mem_singleton]; simp [*])
    case hf_20_2 => first | assumption | exact va_up_self _ _ _ | (refine tf_u (by first | assumption | (apply Ne.symm; assumption) | (intro hh; subst hh; contradiction)) ?_; first | assumption | exact va_up_self _ _ _ | (refine tf_u (by first | assumption | (apply Ne.symm; assumption) | (intro hh; subst hh; contradiction)) ?_; first | assumption | exact va_up_self _ _ _ | (refine tf_u (by first | assumption | (apply Ne.symm; assumption) | (intro hh; subst hh; contradiction)) ?_; first | assumption | exact va_up_self _ _ _ | (refine tf_u (by first | assumption | (apply Ne.symm; assumption) | (intro hh; subst hh; contradiction)) ?_; first | assumption | exact va_up_self _ _ _ | (refine tf_u (by first | assumption | (apply Ne.symm; assumption) | (intro hh; subst hh; contradiction)) ?_; first | assumption | exact va_up_self _ _ _)))))
    case hv_20_2 => rfl
    refine tf_blk _ b_Tf_glyph_23 rfl ?_
    refine tf_get (fs := ?fs_24_3) (v := ?v_24_3) 27 d_Tf_glyph_24 rfl fl_Tf_66 ?ha_24_3 ?hf_24_3 ?hv_24_3 ?kk_24_3
    case ha_24_3 => first | assumption | (simp only [List.mem_append, List.mem_singleton]; simp [*])
    case hf_24_3 => first | assumption | exact va_up_self _ _ _ | (refine tf_u (by first | assumption | (apply Ne.symm; assumption) | (intro hh; subst hh; contradiction)) ?_; first | assumption | exact va_up_self _ _ _ | (refine tf_u (by first | assumption | (apply Ne.symm; assumption) | (intro hh; subst hh; contradiction)) ?_; first | assumption | exact va_up_self _ _ _ | (refine tf_u (by first | assumption | (apply Ne.symm; assumption) | (intro hh; subst hh; contradiction)) ?_; first | assumption | exact va_up_self _ _ _ | (refine tf_u (by first | assumption | (apply Ne.symm; assumption) | (intro hh; subst hh; contradiction)) ?_; first | assumption | exact va_up_self _ _ _ | (refine tf_u (by first | assumption | (apply Ne.symm; assumption) | (intro hh; subst hh; contradiction)) ?_; first | assumption | exact va_up_self _ _ _)))))
    case hv_24_3 => rfl
    refine tf_new (N := 15) 30 d_Tf_glyph_27 rfl nl_Tf_18 (fun a ha => ?_)
    refine tf_blk _ b_Tf_glyph_30 rfl ?_
    refine tf_get (fs := ?fs_32_5) (v := ?v_32_5) 35 d_Tf_glyph_32 rfl fl_Tf_14 ?ha_32_5 ?hf_32_5 ?hv_32_5 ?kk_32_5
    case ha_32_5 => first | assumption | (simp only [List.mem_append, List.mem_singleton]; simp [*])
    case hf_32_5 => first | assumption | exact va_up_self _ _ _ | (refine tf_u (by first | assumption | (apply Ne.symm; assumption) | (intro hh; subst hh; contradiction)) ?_; first | assumption | exact va_up_self _ _ _ | (refine tf_u (by first | assumption | (apply Ne.symm; assumption) | (intro hh; subst hh; contradiction)) ?_; first | assumption | exact va_up_self _ _ _ | (refine tf_u (by first | assumption | (apply Ne.symm; assumption) | (intro hh; subst hh; contradiction)) ?_; first | assumption | exact va_up_self _ _ _ | (refine tf_u (by first | assumption | (apply Ne.symm; assumption) | (intro hh; subst hh; contradiction)) ?_; first | assumption | exact va_up_self _ _ _ | (refine tf_u (by first | assumption | (apply Ne.symm; assumption) | (intro hh; subst hh; contradiction)) ?_; first | assumption | exact va_up_self _ _ _)))))
    case hv_32_5 => rfl
    refine tf_get (fs := ?fs_35_6) (v := ?v_35_6) 38 d_Tf_glyph_35 rfl fl_Tf_77 ?ha_35_6 ?hf_35_6 ?hv_35_6 ?kk_35_6
    case ha_35_6 => first | assumption | (simp only [List.mem_append, List.mem_singleton]; simp [*])
    case hf_35_6 => first | assumption | exact va_up_self _ _ _ | (refine tf_u (by first | assumption | (apply Ne.symm; assumption) | (intro hh; subst hh; contradiction)) ?_; first | assumption | exact va_up_self _ _ _ | (refine tf_u (by first | assumption | (apply Ne.symm; assumption) | (intro hh; subst hh; contradiction)) ?_; first | assumption | exact va_up_self _ _ _ | (refine tf_u (by first | assumption | (apply Ne.symm; assumption) | (intro hh; subst hh; contradiction)) ?_; first | assumption | exact va_up_self _ _ _ | (refine tf_u (by first | assumption | (apply Ne.symm; assumption) | (intro hh; subst hh; contradiction)) ?_; first | assumption | exact va_up_self _ _ _ | (refine tf_u (by first | assumption | (apply Ne.symm; assumption) | (intro hh; subst hh; contradiction)) ?_; first | assumption | exact va_up_self _ _ _)))))
    case hv_35_6 => rfl
    refine tf_cI (tf_gok _ _) (c_Glyph_init l D q (d - 1) _ _ (by omega) c hc (List.mem_append_right _ (List.mem_singleton.mpr rfl)) (va_up_self _ _ _)) 41 d_Tf_glyph_38 rfl lk_Tf_80 cw_Glyph_init (by rfl) in_Glyph_init rfl (by omega) (by exact Nat.le_of_ble_eq_true rfl) rfl ?_
    rintro v38 L38 f38 ⟨r0, r1, r2, r3, r4, r5, hm⟩
    obtain ⟨rfl, m2, m3, m4, m5, m6, m7⟩ := id hm
    have hga : gl ≠ a := fun e9 => ha (e9 ▸ hgl)
    have hxa : x ≠ a := fun e9 => ha (e9 ▸ hx)
    have fg31 : f38 gl = tr 5 q 40 g := (m7 gl (List.mem_append_left _ hgl) hga).trans ((va_up_ne _ _ hga).trans fgl)
    have fx31 : f38 x = to 0 [.ref bl, .ref gl, ou, pa, he, ca, ke, se, .int (nI n)] := (m7 x (List.mem_append_left _ hx) hxa).trans ((va_up_ne _ _ hxa).trans fx)
    have mg31 : gl ∈ L38 := by rw [m2]; exact List.mem_append_left _ (List.mem_append_left _ hgl)
    have mx31 : x ∈ L38 := by rw [m2]; exact List.mem_append_left _ (List.mem_append_left _ hx)
    have ma31 : a ∈ L38 := by rw [m2]; exact List.mem_append_left _ (List.mem_append_right _ (List.mem_singleton.mpr rfl))
    have hxg : x ≠ gl := fun e9 => by rw [e9, fgl] at fx; cases fx
    refine tf_aast (n := ?n_41_8) (g := ?g_41_8) (vs := ?vs_41_8) (ci := ?ci_41_8) (r := ("TypeFoundry$Glyph", T_3, 15)) 42 5 d_Tf_glyph_41 rfl rfl ?ha_41_8 ?hf_41_8 ?hb_41_8 ?hg_41_8 ?hc_41_8 ?hi_41_8 ?kk_41_8
    case ha_41_8 => exact mg31
    case hf_41_8 => assumption
    case hb_41_8 => exact ma31
    case hg_41_8 => assumption
    case hc_41_8 => rfl
    case hi_41_8 => exact vp_in_nI (by omega) (by omega)
    refine tf_blk _ b_Tf_glyph_42 rfl ?_
    refine tf_get (fs := ?fs_44_9) (v := ?v_44_9) 47 d_Tf_glyph_44 rfl fl_Tf_66 ?ha_44_9 ?hf_44_9 ?hv_44_9 ?kk_44_9
    case ha_44_9 => exact mx31
    case hf_44_9 => first | assumption | exact va_up_self _ _ _ | (refine tf_u (by first | assumption | (apply Ne.symm; assumption) | (intro hh; subst hh; contradiction)) ?_; first | assumption | exact va_up_self _ _ _ | (refine tf_u (by first | assumption | (apply Ne.symm; assumption) | (intro hh; subst hh; contradiction)) ?_; first | assumption | exact va_up_self _ _ _ | (refine tf_u (by first | assumption | (apply Ne.symm; assumption) | (intro hh; subst hh; contradiction)) ?_; first | assumption | exact va_up_self _ _ _ | (refine tf_u (by first | assumption | (apply Ne.symm; assumption) | (intro hh; subst hh; contradiction)) ?_; first | assumption | exact va_up_self _ _ _ | (refine tf_u (by first | assumption | (apply Ne.symm; assumption) | (intro hh; subst hh; contradiction)) ?_; first | assumption | exact va_up_self _ _ _)))))
    case hv_44_9 => rfl
    refine tf_blk _ b_Tf_glyph_47 rfl ?_
    refine tf_put (fs := ?fs_50_10) 53 d_Tf_glyph_50 rfl fw_Tf_66 ?ha_50_10 ?hf_50_10 ?hl_50_10 ?hn_50_10 ?ht_50_10 ?kk_50_10
    case ha_50_10 => exact mx31
    case hf_50_10 => first | assumption | exact va_up_self _ _ _ | (refine tf_u (by first | assumption | (apply Ne.symm; assumption) | (intro hh; subst hh; contradiction)) ?_; first | assumption | exact va_up_self _ _ _ | (refine tf_u (by first | assumption | (apply Ne.symm; assumption) | (intro hh; subst hh; contradiction)) ?_; first | assumption | exact va_up_self _ _ _ | (refine tf_u (by first | assumption | (apply Ne.symm; assumption) | (intro hh; subst hh; contradiction)) ?_; first | assumption | exact va_up_self _ _ _ | (refine tf_u (by first | assumption | (apply Ne.symm; assumption) | (intro hh; subst hh; contradiction)) ?_; first | assumption | exact va_up_self _ _ _ | (refine tf_u (by first | assumption | (apply Ne.symm; assumption) | (intro hh; subst hh; contradiction)) ?_; first | assumption | exact va_up_self _ _ _)))))
    case hl_50_10 => exact Nat.le_of_ble_eq_true rfl
    case hn_50_10 => rfl
    case ht_50_10 => rfl
    refine tx_ret ?_
    refine tf_iret d_Tf_glyph_53 rfl ?_
    exact ⟨hn40, rfl, a, (fun k => [r0, r1, r2, r3, r4, r5].getD k 0), f38, ha, hm, by rw [nI_clamp (show n < 2 ^ 31 by omega)]; rfl⟩
  · have hn40 : n = 40 := by
      have h9 : ¬ nI n < nI 40 := h6
      have : ¬ n < 40 := fun z => h9 ((nI_ltI (by omega) (by omega)).mpr z)
      omega
    refine tf_less (kc2 := 0 + 1) (ks2 := 0 + 6) (by omega) (by omega) ?_
    exact tx_throw (tx := "there are 40 glyphs") hl d_Tf_glyph_9 (tf_dec1 b_Tf_glyph_12) d_Tf_glyph_13 d_Tf_glyph_15 d_Tf_glyph_18 xa_74 w_378 w_13 w_379 w_377 (by decide) (by decide) (by omega) (by exact Nat.le_of_ble_eq_true rfl) (⟨hn40, rfl, rfl, rfl⟩)
end
