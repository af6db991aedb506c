/-! the law's helpers -/
theorem w_371 : Cond.static (⟨"TypeFoundryLaw", "glyph", "(LTypeFoundry;[J)I"⟩ : MethodName) ∈ tf_Ts := tf_mem 371 (by decide +kernel) rfl
theorem w_373 : Cond.classLink "TypeFoundryLaw" 13 "java/lang/IllegalStateException" ∈ tf_Ts := tf_mem 373 (by decide +kernel) rfl
theorem w_511 : Cond.static (⟨"TypeFoundryLaw", "point", "(LTypeFoundry;IIIZ[J)I"⟩ : MethodName) ∈ tf_Ts := tf_mem 511 (by decide +kernel) rfl
theorem w_513 : Cond.classLink "TypeFoundryLaw" 19 "java/lang/IllegalArgumentException" ∈ tf_Ts := tf_mem 513 (by decide +kernel) rfl
theorem w_547 : Cond.static (⟨"TypeFoundryLaw", "place", "(LTypeFoundry;IIIII)I"⟩ : MethodName) ∈ tf_Ts := tf_mem 547 (by decide +kernel) rfl
theorem w_549 : Cond.classLink "TypeFoundryLaw" 25 "java/lang/IndexOutOfBoundsException" ∈ tf_Ts := tf_mem 549 (by decide +kernel) rfl
theorem w_573 : Cond.static (⟨"TypeFoundryLaw", "component", "(LTypeFoundry;IIIII)I"⟩ : MethodName) ∈ tf_Ts := tf_mem 573 (by decide +kernel) rfl
theorem w_626 : Cond.static (⟨"TypeFoundryLaw", "outline", "(LTypeFoundry;III[J)I"⟩ : MethodName) ∈ tf_Ts := tf_mem 626 (by decide +kernel) rfl
theorem w_689 : Cond.static (⟨"TypeFoundryLaw", "draw", "(LTypeFoundry;IIZ[J)I"⟩ : MethodName) ∈ tf_Ts := tf_mem 689 (by decide +kernel) rfl
theorem w_1044 : Cond.static (⟨"TypeFoundryLaw", "rule", "(LTypeFoundry;IJJJI[J)I"⟩ : MethodName) ∈ tf_Ts := tf_mem 1044 (by decide +kernel) rfl
theorem w_1102 : Cond.static (⟨"TypeFoundryLaw", "shaped", "(LTypeFoundry;II[J)I"⟩ : MethodName) ∈ tf_Ts := tf_mem 1102 (by decide +kernel) rfl
theorem wl_glyph : Cond.codeWith i_Law_glyph.1 i_Law_glyph.2.1 i_Law_glyph.2.2.1 i_Law_glyph.2.2.2 [(0, 8, 11, 13)] ∈ tf_Ts := tf_mem 372 (by decide +kernel) rfl
theorem tlw_glyph {D : va_G} {q : Nat → ClassId} : tl_cw (tf_H D q) i_Law_glyph [(0, 8, 11, 13)] 2 := ⟨wl_glyph, w_0, by decide, by decide +kernel, by decide⟩
theorem sal_glyph : Cond.static i_Law_glyph.1 ∈ tf_Ts := w_371
theorem wk_380 : Cond.castable "java/lang/IllegalStateException" "java/lang/IllegalStateException" ∈ tx_W := List.mem_filter.mpr ⟨List.mem_of_getElem? (i := 380) (by decide +kernel), rfl⟩
theorem wl_point : Cond.codeWith i_Law_point.1 i_Law_point.2.1 i_Law_point.2.2.1 i_Law_point.2.2.2 [(0, 14, 17, 19), (0, 14, 21, 13)] ∈ tf_Ts := tf_mem 512 (by decide +kernel) rfl
theorem tlw_point {D : va_G} {q : Nat → ClassId} : tl_cw (tf_H D q) i_Law_point [(0, 14, 17, 19), (0, 14, 21, 13)] 6 := ⟨wl_point, w_0, by decide, by decide +kernel, by decide⟩
theorem sal_point : Cond.static i_Law_point.1 ∈ tf_Ts := w_511
theorem wk_523 : Cond.castable "java/lang/IllegalArgumentException" "java/lang/IllegalArgumentException" ∈ tx_W := List.mem_filter.mpr ⟨List.mem_of_getElem? (i := 523) (by decide +kernel), rfl⟩
theorem wl_place : Cond.codeWith i_Law_place.1 i_Law_place.2.1 i_Law_place.2.2.1 i_Law_place.2.2.2 [(0, 11, 14, 25), (0, 11, 18, 19)] ∈ tf_Ts := tf_mem 548 (by decide +kernel) rfl
theorem tlw_place {D : va_G} {q : Nat → ClassId} : tl_cw (tf_H D q) i_Law_place [(0, 11, 14, 25), (0, 11, 18, 19)] 6 := ⟨wl_place, w_0, by decide, by decide +kernel, by decide⟩
theorem sal_place : Cond.static i_Law_place.1 ∈ tf_Ts := w_547
theorem wk_556 : Cond.castable "java/lang/IndexOutOfBoundsException" "java/lang/IndexOutOfBoundsException" ∈ tx_W := List.mem_filter.mpr ⟨List.mem_of_getElem? (i := 556) (by decide +kernel), rfl⟩
theorem wl_component : Cond.codeWith i_Law_component.1 i_Law_component.2.1 i_Law_component.2.2.1 i_Law_component.2.2.2 [(0, 11, 14, 19), (0, 11, 18, 13)] ∈ tf_Ts := tf_mem 574 (by decide +kernel) rfl
theorem tlw_component {D : va_G} {q : Nat → ClassId} : tl_cw (tf_H D q) i_Law_component [(0, 11, 14, 19), (0, 11, 18, 13)] 6 := ⟨wl_component, w_0, by decide, by decide +kernel, by decide⟩
theorem sal_component : Cond.static i_Law_component.1 ∈ tf_Ts := w_573
theorem wl_outline : Cond.codeWith i_Law_outline.1 i_Law_outline.2.1 i_Law_outline.2.2.1 i_Law_outline.2.2.2 [(0, 12, 15, 25)] ∈ tf_Ts := tf_mem 627 (by decide +kernel) rfl
theorem tlw_outline {D : va_G} {q : Nat → ClassId} : tl_cw (tf_H D q) i_Law_outline [(0, 12, 15, 25)] 5 := ⟨wl_outline, w_0, by decide, by decide +kernel, by decide⟩
theorem sal_outline : Cond.static i_Law_outline.1 ∈ tf_Ts := w_626
theorem wl_draw : Cond.codeWith i_Law_draw.1 i_Law_draw.2.1 i_Law_draw.2.2.1 i_Law_draw.2.2.2 [(0, 12, 15, 19)] ∈ tf_Ts := tf_mem 690 (by decide +kernel) rfl
theorem tlw_draw {D : va_G} {q : Nat → ClassId} : tl_cw (tf_H D q) i_Law_draw [(0, 12, 15, 19)] 5 := ⟨wl_draw, w_0, by decide, by decide +kernel, by decide⟩
theorem sal_draw : Cond.static i_Law_draw.1 ∈ tf_Ts := w_689
theorem wl_rule : Cond.codeWith i_Law_rule.1 i_Law_rule.2.1 i_Law_rule.2.2.1 i_Law_rule.2.2.2 [(0, 17, 20, 19), (0, 17, 24, 13)] ∈ tf_Ts := tf_mem 1045 (by decide +kernel) rfl
theorem tlw_rule {D : va_G} {q : Nat → ClassId} : tl_cw (tf_H D q) i_Law_rule [(0, 17, 20, 19), (0, 17, 24, 13)] 7 := ⟨wl_rule, w_0, by decide, by decide +kernel, by decide⟩
theorem sal_rule : Cond.static i_Law_rule.1 ∈ tf_Ts := w_1044
theorem wl_shaped : Cond.codeWith i_Law_shaped.1 i_Law_shaped.2.1 i_Law_shaped.2.2.1 i_Law_shaped.2.2.2 [(0, 10, 13, 25)] ∈ tf_Ts := tf_mem 1103 (by decide +kernel) rfl
theorem tlw_shaped {D : va_G} {q : Nat → ClassId} : tl_cw (tf_H D q) i_Law_shaped [(0, 10, 13, 25)] 4 := ⟨wl_shaped, w_0, by decide, by decide +kernel, by decide⟩
theorem sal_shaped : Cond.static i_Law_shaped.1 ∈ tf_Ts := w_1102
def va_upJ (g : Nat → Int64) (a : Int32) : Nat → Int64 := vp_updL g (kI 0).toNatClampNeg a.toInt64
section
variable (l : Launch) (D : va_G) (q : Nat → ClassId) (d : Nat) (L : List Nat) (f : tf_F)
set_option maxHeartbeats 4000000 in
set_option maxRecDepth 100000 in
theorem hl_glyph_r (hd : 1 ≤ d) {x ou : Nat} {fs : List Value} {k2 s2 : Nat} {Φ : tf_O} {Ψ : tx_O}  (hx : x ∈ L) (fx : f x = to 0 fs) (hC : tx_C l (tf_H D q) (d - 1) i_Tf_glyph (.ref x :: []) L f k2 s2 Φ Ψ) (hno : ∀ E L2 f2, ¬ Ψ E L2 f2) (hou : ∀ v L2 f2, Φ v L2 f2 → ∃ a : Int32, v = some (.int a) ∧ ou ∈ L2 ∧ ∃ g, f2 ou = tj q 1 g) : tg_C l (tf_H D q) tx_EL d i_Law_glyph (.codeWith i_Law_glyph.1 i_Law_glyph.2.1 i_Law_glyph.2.2.1 i_Law_glyph.2.2.2 [(0, 8, 11, 13)]) [.ref x, .ref ou] L f (0 + k2) (0 + s2) (fun v L2 f2 => v = some (.int (kI 0)) ∧ ∃ (a : Int32) (f1 : tf_F) (g : Nat → Int64), Φ (some (.int a)) L2 f1 ∧ f1 ou = tj q 1 g ∧ f2 = va_up f1 ou (tj q 1 (va_upJ g a))) := by
  refine tg_C.ofW (by decide) (Nat.le_of_ble_eq_true rfl) ?_
  refine tf_blk _ b_Law_glyph_0 rfl ?_
  refine tx_cV hC hno 6 d_Law_glyph_3 rfl lk_Law_7 cw_Tf_glyph (by rfl) in_Tf_glyph se_Tf_glyph hx fx (by rfl) (by rfl) (by omega) (by exact Nat.le_of_ble_eq_true rfl) rfl ?_
  rintro v3 L3 f3 hΦ
  obtain ⟨a, rfl, ho, g, fo⟩ := hou _ _ _ hΦ
  refine tf_blk _ b_Law_glyph_6 rfl ?_
  refine tf_last (n := ?n_7_2) (g := ?g_7_2) 8 2 d_Law_glyph_7 rfl rfl ?ha_7_2 ?hf_7_2 ?hi_7_2 ?kk_7_2
  case ha_7_2 => exact ho
  case hf_7_2 => exact fo
  case hi_7_2 => exact (show vp_in (nI 0) 1 from vp_in_nI (by decide) (by decide))
  refine tf_goto 14 d_Law_glyph_8 rfl ?_
  refine tf_blk _ b_Law_glyph_14 rfl ?_
  refine tf_iret d_Law_glyph_15 rfl ?_
  exact ⟨rfl, a, f3, g, hΦ, fo, rfl⟩
set_option maxHeartbeats 4000000 in
set_option maxRecDepth 100000 in
theorem hl_glyph_x1 (hd : 1 ≤ d) {x ou : Nat} {fs : List Value} {k2 s2 : Nat} {Φ : tf_O} {Ψ : tx_O}  (hx : x ∈ L) (fx : f x = to 0 fs) (hC : tx_C l (tf_H D q) (d - 1) i_Tf_glyph (.ref x :: []) L f k2 s2 Φ Ψ) (hno : ∀ v L2 f2, ¬ Φ v L2 f2) (hE0 : ∀ E2 L2 f2, Ψ E2 L2 f2 → E2 = "java/lang/IllegalStateException") : tg_C l (tf_H D q) tx_EL d i_Law_glyph (.codeWith i_Law_glyph.1 i_Law_glyph.2.1 i_Law_glyph.2.2.1 i_Law_glyph.2.2.2 [(0, 8, 11, 13)]) [.ref x, .ref ou] L f (0 + k2) (0 + s2) (fun v L2 f2 => v = some (.int (kI 1)) ∧ Ψ "java/lang/IllegalStateException" L2 f2) := by
  refine tg_C.ofW (by decide) (Nat.le_of_ble_eq_true rfl) ?_
  refine tf_blk _ b_Law_glyph_0 rfl ?_
  refine tx_cX hC hno hE0 d_Law_glyph_3 lk_Law_7 cw_Tf_glyph (by rfl) in_Tf_glyph se_Tf_glyph hx fx (by rfl) (by rfl) (by omega) (by exact Nat.le_of_ble_eq_true rfl) rfl (hh := [(0, 8, 11, 13)]) wl_glyph (x := ⟨0, 8, 11, 13⟩) (nm := "java/lang/IllegalStateException") (Or.inl ⟨_, rfl⟩) (by decide) (by decide) w_373 wk_380 (fun z L2 f2 hΨ => ?_)
  refine tf_blk _ b_Law_glyph_11 rfl ?_
  refine tf_iret d_Law_glyph_13 rfl ?_
  exact ⟨rfl, hΨ⟩
set_option maxHeartbeats 4000000 in
set_option maxRecDepth 100000 in
theorem hl_point_r (hd : 1 ≤ d) {x ou : Nat} {fs : List Value} {k2 s2 : Nat} {Φ : tf_O} {Ψ : tx_O} (p0 : Int32) (p1 : Int32) (p2 : Int32) (p3 : Int32) (hx : x ∈ L) (fx : f x = to 0 fs) (hC : tx_C l (tf_H D q) (d - 1) i_Tf_point (.ref x :: [.int p0, .int p1, .int p2, .int p3]) L f k2 s2 Φ Ψ) (hno : ∀ E L2 f2, ¬ Ψ E L2 f2) (hou : ∀ v L2 f2, Φ v L2 f2 → ∃ a : Int32, v = some (.int a) ∧ ou ∈ L2 ∧ ∃ g, f2 ou = tj q 1 g) : tg_C l (tf_H D q) tx_EL d i_Law_point (.codeWith i_Law_point.1 i_Law_point.2.1 i_Law_point.2.2.1 i_Law_point.2.2.2 [(0, 14, 17, 19), (0, 14, 21, 13)]) [.ref x, .int p0, .int p1, .int p2, .int p3, .ref ou] L f (0 + k2) (0 + s2) (fun v L2 f2 => v = some (.int (kI 0)) ∧ ∃ (a : Int32) (f1 : tf_F) (g : Nat → Int64), Φ (some (.int a)) L2 f1 ∧ f1 ou = tj q 1 g ∧ f2 = va_up f1 ou (tj q 1 (va_upJ g a))) := by
  refine tg_C.ofW (by decide) (Nat.le_of_ble_eq_true rfl) ?_
  refine tf_blk _ b_Law_point_0 rfl ?_
  refine tx_cV hC hno 12 d_Law_point_9 rfl lk_Law_15 cw_Tf_point (by rfl) in_Tf_point se_Tf_point hx fx (by rfl) (by rfl) (by omega) (by exact Nat.le_of_ble_eq_true rfl) rfl ?_
  rintro v3 L3 f3 hΦ
  obtain ⟨a, rfl, ho, g, fo⟩ := hou _ _ _ hΦ
  refine tf_blk _ b_Law_point_12 rfl ?_
  refine tf_last (n := ?n_13_6) (g := ?g_13_6) 14 2 d_Law_point_13 rfl rfl ?ha_13_6 ?hf_13_6 ?hi_13_6 ?kk_13_6
  case ha_13_6 => exact ho
  case hf_13_6 => exact fo
  case hi_13_6 => exact (show vp_in (nI 0) 1 from vp_in_nI (by decide) (by decide))
  refine tf_goto 25 d_Law_point_14 rfl ?_
  refine tf_blk _ b_Law_point_25 rfl ?_
  refine tf_iret d_Law_point_26 rfl ?_
  exact ⟨rfl, a, f3, g, hΦ, fo, rfl⟩
set_option maxHeartbeats 4000000 in
set_option maxRecDepth 100000 in
theorem hl_point_x1 (hd : 1 ≤ d) {x ou : Nat} {fs : List Value} {k2 s2 : Nat} {Φ : tf_O} {Ψ : tx_O} (p0 : Int32) (p1 : Int32) (p2 : Int32) (p3 : Int32) (hx : x ∈ L) (fx : f x = to 0 fs) (hC : tx_C l (tf_H D q) (d - 1) i_Tf_point (.ref x :: [.int p0, .int p1, .int p2, .int p3]) L f k2 s2 Φ Ψ) (hno : ∀ v L2 f2, ¬ Φ v L2 f2) (hE0 : ∀ E2 L2 f2, Ψ E2 L2 f2 → E2 = "java/lang/IllegalArgumentException") : tg_C l (tf_H D q) tx_EL d i_Law_point (.codeWith i_Law_point.1 i_Law_point.2.1 i_Law_point.2.2.1 i_Law_point.2.2.2 [(0, 14, 17, 19), (0, 14, 21, 13)]) [.ref x, .int p0, .int p1, .int p2, .int p3, .ref ou] L f (0 + k2) (0 + s2) (fun v L2 f2 => v = some (.int (kI 1)) ∧ Ψ "java/lang/IllegalArgumentException" L2 f2) := by
  refine tg_C.ofW (by decide) (Nat.le_of_ble_eq_true rfl) ?_
  refine tf_blk _ b_Law_point_0 rfl ?_
  refine tx_cX hC hno hE0 d_Law_point_9 lk_Law_15 cw_Tf_point (by rfl) in_Tf_point se_Tf_point hx fx (by rfl) (by rfl) (by omega) (by exact Nat.le_of_ble_eq_true rfl) rfl (hh := [(0, 14, 17, 19), (0, 14, 21, 13)]) wl_point (x := ⟨0, 14, 17, 19⟩) (nm := "java/lang/IllegalArgumentException") (Or.inl ⟨_, rfl⟩) (by decide) (by decide) w_513 wk_523 (fun z L2 f2 hΨ => ?_)
  refine tf_blk _ b_Law_point_17 rfl ?_
  refine tf_iret d_Law_point_20 rfl ?_
  exact ⟨rfl, hΨ⟩
set_option maxHeartbeats 4000000 in
set_option maxRecDepth 100000 in
theorem hl_point_x2 (hd : 1 ≤ d) {x ou : Nat} {fs : List Value} {k2 s2 : Nat} {Φ : tf_O} {Ψ : tx_O} (p0 : Int32) (p1 : Int32) (p2 : Int32) (p3 : Int32) (hx : x ∈ L) (fx : f x = to 0 fs) (hC : tx_C l (tf_H D q) (d - 1) i_Tf_point (.ref x :: [.int p0, .int p1, .int p2, .int p3]) L f k2 s2 Φ Ψ) (hno : ∀ v L2 f2, ¬ Φ v L2 f2) (hE0 : ∀ E2 L2 f2, Ψ E2 L2 f2 → E2 = "java/lang/IllegalStateException") : tg_C l (tf_H D q) tx_EL d i_Law_point (.codeWith i_Law_point.1 i_Law_point.2.1 i_Law_point.2.2.1 i_Law_point.2.2.2 [(0, 14, 17, 19), (0, 14, 21, 13)]) [.ref x, .int p0, .int p1, .int p2, .int p3, .ref ou] L f (0 + k2) (0 + s2) (fun v L2 f2 => v = some (.int (kI 2)) ∧ Ψ "java/lang/IllegalStateException" L2 f2) := by
  refine tg_C.ofW (by decide) (Nat.le_of_ble_eq_true rfl) ?_
  refine tf_blk _ b_Law_point_0 rfl ?_
  refine tx_cX hC hno hE0 d_Law_point_9 lk_Law_15 cw_Tf_point (by rfl) in_Tf_point se_Tf_point hx fx (by rfl) (by rfl) (by omega) (by exact Nat.le_of_ble_eq_true rfl) rfl (hh := [(0, 14, 17, 19), (0, 14, 21, 13)]) wl_point (x := ⟨0, 14, 21, 13⟩) (nm := "java/lang/IllegalStateException") (Or.inr ⟨⟨0, 14, 17, 19⟩, _, "java/lang/IllegalArgumentException", rfl, by decide, by decide, w_513, by decide⟩) (by decide) (by decide) w_373 wk_380 (fun z L2 f2 hΨ => ?_)
  refine tf_blk _ b_Law_point_21 rfl ?_
  refine tf_iret d_Law_point_24 rfl ?_
  exact ⟨rfl, hΨ⟩
set_option maxHeartbeats 4000000 in
set_option maxRecDepth 100000 in
theorem hl_place_r (hd : 1 ≤ d) {x ou : Nat} {fs : List Value} {k2 s2 : Nat} {Φ : tf_O} {Ψ : tx_O} (p0 : Int32) (p1 : Int32) (p2 : Int32) (p3 : Int32) (p4 : Int32) (hx : x ∈ L) (fx : f x = to 0 fs) (hC : tx_C l (tf_H D q) (d - 1) i_Tf_place (.ref x :: [.int p0, .int p1, .int p2, .int p3, .int p4]) L f k2 s2 Φ Ψ) (hno : ∀ E L2 f2, ¬ Ψ E L2 f2) (hou : ∀ v L2 f2, Φ v L2 f2 → v = none) : tg_C l (tf_H D q) tx_EL d i_Law_place (.codeWith i_Law_place.1 i_Law_place.2.1 i_Law_place.2.2.1 i_Law_place.2.2.2 [(0, 11, 14, 25), (0, 11, 18, 19)]) [.ref x, .int p0, .int p1, .int p2, .int p3, .int p4] L f (0 + k2) (0 + s2) (fun v L2 f2 => v = some (.int (kI 0)) ∧ Φ none L2 f2) := by
  refine tg_C.ofW (by decide) (Nat.le_of_ble_eq_true rfl) ?_
  refine tf_blk _ b_Law_place_0 rfl ?_
  refine tx_cV hC hno 11 d_Law_place_8 rfl lk_Law_21 cw_Tf_place (by rfl) in_Tf_place se_Tf_place hx fx (by rfl) (by rfl) (by omega) (by exact Nat.le_of_ble_eq_true rfl) rfl ?_
  rintro v3 L3 f3 hΦ
  obtain rfl := hou _ _ _ hΦ
  refine tf_goto 22 d_Law_place_11 rfl ?_
  refine tf_blk _ b_Law_place_22 rfl ?_
  refine tf_iret d_Law_place_23 rfl ?_
  exact ⟨rfl, hΦ⟩
set_option maxHeartbeats 4000000 in
set_option maxRecDepth 100000 in
theorem hl_place_x1 (hd : 1 ≤ d) {x ou : Nat} {fs : List Value} {k2 s2 : Nat} {Φ : tf_O} {Ψ : tx_O} (p0 : Int32) (p1 : Int32) (p2 : Int32) (p3 : Int32) (p4 : Int32) (hx : x ∈ L) (fx : f x = to 0 fs) (hC : tx_C l (tf_H D q) (d - 1) i_Tf_place (.ref x :: [.int p0, .int p1, .int p2, .int p3, .int p4]) L f k2 s2 Φ Ψ) (hno : ∀ v L2 f2, ¬ Φ v L2 f2) (hE0 : ∀ E2 L2 f2, Ψ E2 L2 f2 → E2 = "java/lang/IndexOutOfBoundsException") : tg_C l (tf_H D q) tx_EL d i_Law_place (.codeWith i_Law_place.1 i_Law_place.2.1 i_Law_place.2.2.1 i_Law_place.2.2.2 [(0, 11, 14, 25), (0, 11, 18, 19)]) [.ref x, .int p0, .int p1, .int p2, .int p3, .int p4] L f (0 + k2) (0 + s2) (fun v L2 f2 => v = some (.int (kI 1)) ∧ Ψ "java/lang/IndexOutOfBoundsException" L2 f2) := by
  refine tg_C.ofW (by decide) (Nat.le_of_ble_eq_true rfl) ?_
  refine tf_blk _ b_Law_place_0 rfl ?_
  refine tx_cX hC hno hE0 d_Law_place_8 lk_Law_21 cw_Tf_place (by rfl) in_Tf_place se_Tf_place hx fx (by rfl) (by rfl) (by omega) (by exact Nat.le_of_ble_eq_true rfl) rfl (hh := [(0, 11, 14, 25), (0, 11, 18, 19)]) wl_place (x := ⟨0, 11, 14, 25⟩) (nm := "java/lang/IndexOutOfBoundsException") (Or.inl ⟨_, rfl⟩) (by decide) (by decide) w_549 wk_556 (fun z L2 f2 hΨ => ?_)
  refine tf_blk _ b_Law_place_14 rfl ?_
  refine tf_iret d_Law_place_17 rfl ?_
  exact ⟨rfl, hΨ⟩
set_option maxHeartbeats 4000000 in
set_option maxRecDepth 100000 in
theorem hl_place_x2 (hd : 1 ≤ d) {x ou : Nat} {fs : List Value} {k2 s2 : Nat} {Φ : tf_O} {Ψ : tx_O} (p0 : Int32) (p1 : Int32) (p2 : Int32) (p3 : Int32) (p4 : Int32) (hx : x ∈ L) (fx : f x = to 0 fs) (hC : tx_C l (tf_H D q) (d - 1) i_Tf_place (.ref x :: [.int p0, .int p1, .int p2, .int p3, .int p4]) L f k2 s2 Φ Ψ) (hno : ∀ v L2 f2, ¬ Φ v L2 f2) (hE0 : ∀ E2 L2 f2, Ψ E2 L2 f2 → E2 = "java/lang/IllegalArgumentException") : tg_C l (tf_H D q) tx_EL d i_Law_place (.codeWith i_Law_place.1 i_Law_place.2.1 i_Law_place.2.2.1 i_Law_place.2.2.2 [(0, 11, 14, 25), (0, 11, 18, 19)]) [.ref x, .int p0, .int p1, .int p2, .int p3, .int p4] L f (0 + k2) (0 + s2) (fun v L2 f2 => v = some (.int (kI 2)) ∧ Ψ "java/lang/IllegalArgumentException" L2 f2) := by
  refine tg_C.ofW (by decide) (Nat.le_of_ble_eq_true rfl) ?_
  refine tf_blk _ b_Law_place_0 rfl ?_
  refine tx_cX hC hno hE0 d_Law_place_8 lk_Law_21 cw_Tf_place (by rfl) in_Tf_place se_Tf_place hx fx (by rfl) (by rfl) (by omega) (by exact Nat.le_of_ble_eq_true rfl) rfl (hh := [(0, 11, 14, 25), (0, 11, 18, 19)]) wl_place (x := ⟨0, 11, 18, 19⟩) (nm := "java/lang/IllegalArgumentException") (Or.inr ⟨⟨0, 11, 14, 25⟩, _, "java/lang/IndexOutOfBoundsException", rfl, by decide, by decide, w_549, by decide⟩) (by decide) (by decide) w_513 wk_523 (fun z L2 f2 hΨ => ?_)
  refine tf_blk _ b_Law_place_18 rfl ?_
  refine tf_iret d_Law_place_21 rfl ?_
  exact ⟨rfl, hΨ⟩
set_option maxHeartbeats 4000000 in
set_option maxRecDepth 100000 in
theorem hl_component_r (hd : 1 ≤ d) {x ou : Nat} {fs : List Value} {k2 s2 : Nat} {Φ : tf_O} {Ψ : tx_O} (p0 : Int32) (p1 : Int32) (p2 : Int32) (p3 : Int32) (p4 : Int32) (hx : x ∈ L) (fx : f x = to 0 fs) (hC : tx_C l (tf_H D q) (d - 1) i_Tf_component (.ref x :: [.int p0, .int p1, .int p2, .int p3, .int p4]) L f k2 s2 Φ Ψ) (hno : ∀ E L2 f2, ¬ Ψ E L2 f2) (hou : ∀ v L2 f2, Φ v L2 f2 → v = none) : tg_C l (tf_H D q) tx_EL d i_Law_component (.codeWith i_Law_component.1 i_Law_component.2.1 i_Law_component.2.2.1 i_Law_component.2.2.2 [(0, 11, 14, 19), (0, 11, 18, 13)]) [.ref x, .int p0, .int p1, .int p2, .int p3, .int p4] L f (0 + k2) (0 + s2) (fun v L2 f2 => v = some (.int (kI 0)) ∧ Φ none L2 f2) := by
  refine tg_C.ofW (by decide) (Nat.le_of_ble_eq_true rfl) ?_
  refine tf_blk _ b_Law_component_0 rfl ?_
  refine tx_cV hC hno 11 d_Law_component_8 rfl lk_Law_27 cw_Tf_component (by rfl) in_Tf_component se_Tf_component hx fx (by rfl) (by rfl) (by omega) (by exact Nat.le_of_ble_eq_true rfl) rfl ?_
  rintro v3 L3 f3 hΦ
  obtain rfl := hou _ _ _ hΦ
  refine tf_goto 22 d_Law_component_11 rfl ?_
  refine tf_blk _ b_Law_component_22 rfl ?_
  refine tf_iret d_Law_component_23 rfl ?_
  exact ⟨rfl, hΦ⟩
set_option maxHeartbeats 4000000 in
set_option maxRecDepth 100000 in
theorem hl_component_x1 (hd : 1 ≤ d) {x ou : Nat} {fs : List Value} {k2 s2 : Nat} {Φ : tf_O} {Ψ : tx_O} (p0 : Int32) (p1 : Int32) (p2 : Int32) (p3 : Int32) (p4 : Int32) (hx : x ∈ L) (fx : f x = to 0 fs) (hC : tx_C l (tf_H D q) (d - 1) i_Tf_component (.ref x :: [.int p0, .int p1, .int p2, .int p3, .int p4]) L f k2 s2 Φ Ψ) (hno : ∀ v L2 f2, ¬ Φ v L2 f2) (hE0 : ∀ E2 L2 f2, Ψ E2 L2 f2 → E2 = "java/lang/IllegalArgumentException") : tg_C l (tf_H D q) tx_EL d i_Law_component (.codeWith i_Law_component.1 i_Law_component.2.1 i_Law_component.2.2.1 i_Law_component.2.2.2 [(0, 11, 14, 19), (0, 11, 18, 13)]) [.ref x, .int p0, .int p1, .int p2, .int p3, .int p4] L f (0 + k2) (0 + s2) (fun v L2 f2 => v = some (.int (kI 1)) ∧ Ψ "java/lang/IllegalArgumentException" L2 f2) := by
  refine tg_C.ofW (by decide) (Nat.le_of_ble_eq_true rfl) ?_
  refine tf_blk _ b_Law_component_0 rfl ?_
  refine tx_cX hC hno hE0 d_Law_component_8 lk_Law_27 cw_Tf_component (by rfl) in_Tf_component se_Tf_component hx fx (by rfl) (by rfl) (by omega) (by exact Nat.le_of_ble_eq_true rfl) rfl (hh := [(0, 11, 14, 19), (0, 11, 18, 13)]) wl_component (x := ⟨0, 11, 14, 19⟩) (nm := "java/lang/IllegalArgumentException") (Or.inl ⟨_, rfl⟩) (by decide) (by decide) w_513 wk_523 (fun z L2 f2 hΨ => ?_)
  refine tf_blk _ b_Law_component_14 rfl ?_
  refine tf_iret d_Law_component_17 rfl ?_
  exact ⟨rfl, hΨ⟩
set_option maxHeartbeats 4000000 in
set_option maxRecDepth 100000 in
theorem hl_component_x2 (hd : 1 ≤ d) {x ou : Nat} {fs : List Value} {k2 s2 : Nat} {Φ : tf_O} {Ψ : tx_O} (p0 : Int32) (p1 : Int32) (p2 : Int32) (p3 : Int32) (p4 : Int32) (hx : x ∈ L) (fx : f x = to 0 fs) (hC : tx_C l (tf_H D q) (d - 1) i_Tf_component (.ref x :: [.int p0, .int p1, .int p2, .int p3, .int p4]) L f k2 s2 Φ Ψ) (hno : ∀ v L2 f2, ¬ Φ v L2 f2) (hE0 : ∀ E2 L2 f2, Ψ E2 L2 f2 → E2 = "java/lang/IllegalStateException") : tg_C l (tf_H D q) tx_EL d i_Law_component (.codeWith i_Law_component.1 i_Law_component.2.1 i_Law_component.2.2.1 i_Law_component.2.2.2 [(0, 11, 14, 19), (0, 11, 18, 13)]) [.ref x, .int p0, .int p1, .int p2, .int p3, .int p4] L f (0 + k2) (0 + s2) (fun v L2 f2 => v = some (.int (kI 2)) ∧ Ψ "java/lang/IllegalStateException" L2 f2) := by
  refine tg_C.ofW (by decide) (Nat.le_of_ble_eq_true rfl) ?_
  refine tf_blk _ b_Law_component_0 rfl ?_
  refine tx_cX hC hno hE0 d_Law_component_8 lk_Law_27 cw_Tf_component (by rfl) in_Tf_component se_Tf_component hx fx (by rfl) (by rfl) (by omega) (by exact Nat.le_of_ble_eq_true rfl) rfl (hh := [(0, 11, 14, 19), (0, 11, 18, 13)]) wl_component (x := ⟨0, 11, 18, 13⟩) (nm := "java/lang/IllegalStateException") (Or.inr ⟨⟨0, 11, 14, 19⟩, _, "java/lang/IllegalArgumentException", rfl, by decide, by decide, w_513, by decide⟩) (by decide) (by decide) w_373 wk_380 (fun z L2 f2 hΨ => ?_)
  refine tf_blk _ b_Law_component_18 rfl ?_
  refine tf_iret d_Law_component_21 rfl ?_
  exact ⟨rfl, hΨ⟩
set_option maxHeartbeats 4000000 in
set_option maxRecDepth 100000 in
theorem hl_outline_r (hd : 1 ≤ d) {x ou : Nat} {fs : List Value} {k2 s2 : Nat} {Φ : tf_O} {Ψ : tx_O} (p0 : Int32) (p1 : Int32) (p2 : Int32) (hx : x ∈ L) (fx : f x = to 0 fs) (hC : tx_C l (tf_H D q) (d - 1) i_Tf_outline (.ref x :: [.int p0, .int p1, .int p2]) L f k2 s2 Φ Ψ) (hno : ∀ E L2 f2, ¬ Ψ E L2 f2) (hou : ∀ v L2 f2, Φ v L2 f2 → ∃ a : Int32, v = some (.int a) ∧ ou ∈ L2 ∧ ∃ g, f2 ou = tj q 1 g) : tg_C l (tf_H D q) tx_EL d i_Law_outline (.codeWith i_Law_outline.1 i_Law_outline.2.1 i_Law_outline.2.2.1 i_Law_outline.2.2.2 [(0, 12, 15, 25)]) [.ref x, .int p0, .int p1, .int p2, .ref ou] L f (0 + k2) (0 + s2) (fun v L2 f2 => v = some (.int (kI 0)) ∧ ∃ (a : Int32) (f1 : tf_F) (g : Nat → Int64), Φ (some (.int a)) L2 f1 ∧ f1 ou = tj q 1 g ∧ f2 = va_up f1 ou (tj q 1 (va_upJ g a))) := by
  refine tg_C.ofW (by decide) (Nat.le_of_ble_eq_true rfl) ?_
  refine tf_blk _ b_Law_outline_0 rfl ?_
  refine tx_cV hC hno 10 d_Law_outline_7 rfl lk_Law_30 cw_Tf_outline (by rfl) in_Tf_outline se_Tf_outline hx fx (by rfl) (by rfl) (by omega) (by exact Nat.le_of_ble_eq_true rfl) rfl ?_
  rintro v3 L3 f3 hΦ
  obtain ⟨a, rfl, ho, g, fo⟩ := hou _ _ _ hΦ
  refine tf_blk _ b_Law_outline_10 rfl ?_
  refine tf_last (n := ?n_11_19) (g := ?g_11_19) 12 2 d_Law_outline_11 rfl rfl ?ha_11_19 ?hf_11_19 ?hi_11_19 ?kk_11_19
  case ha_11_19 => exact ho
  case hf_11_19 => exact fo
  case hi_11_19 => exact (show vp_in (nI 0) 1 from vp_in_nI (by decide) (by decide))
  refine tf_goto 19 d_Law_outline_12 rfl ?_
  refine tf_blk _ b_Law_outline_19 rfl ?_
  refine tf_iret d_Law_outline_20 rfl ?_
  exact ⟨rfl, a, f3, g, hΦ, fo, rfl⟩
set_option maxHeartbeats 4000000 in
set_option maxRecDepth 100000 in
theorem hl_outline_x1 (hd : 1 ≤ d) {x ou : Nat} {fs : List Value} {k2 s2 : Nat} {Φ : tf_O} {Ψ : tx_O} (p0 : Int32) (p1 : Int32) (p2 : Int32) (hx : x ∈ L) (fx : f x = to 0 fs) (hC : tx_C l (tf_H D q) (d - 1) i_Tf_outline (.ref x :: [.int p0, .int p1, .int p2]) L f k2 s2 Φ Ψ) (hno : ∀ v L2 f2, ¬ Φ v L2 f2) (hE0 : ∀ E2 L2 f2, Ψ E2 L2 f2 → E2 = "java/lang/IndexOutOfBoundsException") : tg_C l (tf_H D q) tx_EL d i_Law_outline (.codeWith i_Law_outline.1 i_Law_outline.2.1 i_Law_outline.2.2.1 i_Law_outline.2.2.2 [(0, 12, 15, 25)]) [.ref x, .int p0, .int p1, .int p2, .ref ou] L f (0 + k2) (0 + s2) (fun v L2 f2 => v = some (.int (kI 1)) ∧ Ψ "java/lang/IndexOutOfBoundsException" L2 f2) := by
  refine tg_C.ofW (by decide) (Nat.le_of_ble_eq_true rfl) ?_
  refine tf_blk _ b_Law_outline_0 rfl ?_
  refine tx_cX hC hno hE0 d_Law_outline_7 lk_Law_30 cw_Tf_outline (by rfl) in_Tf_outline se_Tf_outline hx fx (by rfl) (by rfl) (by omega) (by exact Nat.le_of_ble_eq_true rfl) rfl (hh := [(0, 12, 15, 25)]) wl_outline (x := ⟨0, 12, 15, 25⟩) (nm := "java/lang/IndexOutOfBoundsException") (Or.inl ⟨_, rfl⟩) (by decide) (by decide) w_549 wk_556 (fun z L2 f2 hΨ => ?_)
  refine tf_blk _ b_Law_outline_15 rfl ?_
  refine tf_iret d_Law_outline_18 rfl ?_
  exact ⟨rfl, hΨ⟩
set_option maxHeartbeats 4000000 in
set_option maxRecDepth 100000 in
theorem hl_draw_r (hd : 1 ≤ d) {x ou : Nat} {fs : List Value} {k2 s2 : Nat} {Φ : tf_O} {Ψ : tx_O} (p0 : Int32) (p1 : Int32) (p2 : Int32) (hx : x ∈ L) (fx : f x = to 0 fs) (hC : tx_C l (tf_H D q) (d - 1) i_Tf_draw (.ref x :: [.int p0, .int p1, .int p2]) L f k2 s2 Φ Ψ) (hno : ∀ E L2 f2, ¬ Ψ E L2 f2) (hou : ∀ v L2 f2, Φ v L2 f2 → ∃ a : Int32, v = some (.int a) ∧ ou ∈ L2 ∧ ∃ g, f2 ou = tj q 1 g) : tg_C l (tf_H D q) tx_EL d i_Law_draw (.codeWith i_Law_draw.1 i_Law_draw.2.1 i_Law_draw.2.2.1 i_Law_draw.2.2.2 [(0, 12, 15, 19)]) [.ref x, .int p0, .int p1, .int p2, .ref ou] L f (0 + k2) (0 + s2) (fun v L2 f2 => v = some (.int (kI 0)) ∧ ∃ (a : Int32) (f1 : tf_F) (g : Nat → Int64), Φ (some (.int a)) L2 f1 ∧ f1 ou = tj q 1 g ∧ f2 = va_up f1 ou (tj q 1 (va_upJ g a))) := by
  refine tg_C.ofW (by decide) (Nat.le_of_ble_eq_true rfl) ?_
  refine tf_blk _ b_Law_draw_0 rfl ?_
  refine tx_cV hC hno 10 d_Law_draw_7 rfl lk_Law_34 cw_Tf_draw (by rfl) in_Tf_draw se_Tf_draw hx fx (by rfl) (by rfl) (by omega) (by exact Nat.le_of_ble_eq_true rfl) rfl ?_
  rintro v3 L3 f3 hΦ
  obtain ⟨a, rfl, ho, g, fo⟩ := hou _ _ _ hΦ
  refine tf_blk _ b_Law_draw_10 rfl ?_
  refine tf_last (n := ?n_11_23) (g := ?g_11_23) 12 2 d_Law_draw_11 rfl rfl ?ha_11_23 ?hf_11_23 ?hi_11_23 ?kk_11_23
  case ha_11_23 => exact ho
  case hf_11_23 => exact fo
  case hi_11_23 => exact (show vp_in (nI 0) 1 from vp_in_nI (by decide) (by decide))
  refine tf_goto 19 d_Law_draw_12 rfl ?_
  refine tf_blk _ b_Law_draw_19 rfl ?_
  refine tf_iret d_Law_draw_20 rfl ?_
  exact ⟨rfl, a, f3, g, hΦ, fo, rfl⟩
set_option maxHeartbeats 4000000 in
set_option maxRecDepth 100000 in
theorem hl_draw_x1 (hd : 1 ≤ d) {x ou : Nat} {fs : List Value} {k2 s2 : Nat} {Φ : tf_O} {Ψ : tx_O} (p0 : Int32) (p1 : Int32) (p2 : Int32) (hx : x ∈ L) (fx : f x = to 0 fs) (hC : tx_C l (tf_H D q) (d - 1) i_Tf_draw (.ref x :: [.int p0, .int p1, .int p2]) L f k2 s2 Φ Ψ) (hno : ∀ v L2 f2, ¬ Φ v L2 f2) (hE0 : ∀ E2 L2 f2, Ψ E2 L2 f2 → E2 = "java/lang/IllegalArgumentException") : tg_C l (tf_H D q) tx_EL d i_Law_draw (.codeWith i_Law_draw.1 i_Law_draw.2.1 i_Law_draw.2.2.1 i_Law_draw.2.2.2 [(0, 12, 15, 19)]) [.ref x, .int p0, .int p1, .int p2, .ref ou] L f (0 + k2) (0 + s2) (fun v L2 f2 => v = some (.int (kI 1)) ∧ Ψ "java/lang/IllegalArgumentException" L2 f2) := by
  refine tg_C.ofW (by decide) (Nat.le_of_ble_eq_true rfl) ?_
  refine tf_blk _ b_Law_draw_0 rfl ?_
  refine tx_cX hC hno hE0 d_Law_draw_7 lk_Law_34 cw_Tf_draw (by rfl) in_Tf_draw se_Tf_draw hx fx (by rfl) (by rfl) (by omega) (by exact Nat.le_of_ble_eq_true rfl) rfl (hh := [(0, 12, 15, 19)]) wl_draw (x := ⟨0, 12, 15, 19⟩) (nm := "java/lang/IllegalArgumentException") (Or.inl ⟨_, rfl⟩) (by decide) (by decide) w_513 wk_523 (fun z L2 f2 hΨ => ?_)
  refine tf_blk _ b_Law_draw_15 rfl ?_
  refine tf_iret d_Law_draw_18 rfl ?_
  exact ⟨rfl, hΨ⟩
set_option maxHeartbeats 4000000 in
set_option maxRecDepth 100000 in
theorem hl_rule_r (hd : 1 ≤ d) {x ou : Nat} {fs : List Value} {k2 s2 : Nat} {Φ : tf_O} {Ψ : tx_O} (p0 : Int32) (p1 : Int64) (p2 : Int64) (p3 : Int64) (p4 : Int32) (hx : x ∈ L) (fx : f x = to 0 fs) (hC : tx_C l (tf_H D q) (d - 1) i_Tf_rule (.ref x :: [.int p0, .long p1, .long p2, .long p3, .int p4]) L f k2 s2 Φ Ψ) (hno : ∀ E L2 f2, ¬ Ψ E L2 f2) (hou : ∀ v L2 f2, Φ v L2 f2 → ∃ a : Int32, v = some (.int a) ∧ ou ∈ L2 ∧ ∃ g, f2 ou = tj q 1 g) : tg_C l (tf_H D q) tx_EL d i_Law_rule (.codeWith i_Law_rule.1 i_Law_rule.2.1 i_Law_rule.2.2.1 i_Law_rule.2.2.2 [(0, 17, 20, 19), (0, 17, 24, 13)]) [.ref x, .int p0, .long p1, .long p2, .long p3, .int p4, .ref ou] L f (0 + k2) (0 + s2) (fun v L2 f2 => v = some (.int (kI 0)) ∧ ∃ (a : Int32) (f1 : tf_F) (g : Nat → Int64), Φ (some (.int a)) L2 f1 ∧ f1 ou = tj q 1 g ∧ f2 = va_up f1 ou (tj q 1 (va_upJ g a))) := by
  refine tg_C.ofW (by decide) (Nat.le_of_ble_eq_true rfl) ?_
  refine tf_blk _ b_Law_rule_0 rfl ?_
  refine tx_cV hC hno 15 d_Law_rule_12 rfl lk_Law_38 cw_Tf_rule (by rfl) in_Tf_rule se_Tf_rule hx fx (by rfl) (by rfl) (by omega) (by exact Nat.le_of_ble_eq_true rfl) rfl ?_
  rintro v3 L3 f3 hΦ
  obtain ⟨a, rfl, ho, g, fo⟩ := hou _ _ _ hΦ
  refine tf_blk _ b_Law_rule_15 rfl ?_
  refine tf_last (n := ?n_16_27) (g := ?g_16_27) 17 2 d_Law_rule_16 rfl rfl ?ha_16_27 ?hf_16_27 ?hi_16_27 ?kk_16_27
  case ha_16_27 => exact ho
  case hf_16_27 => exact fo
  case hi_16_27 => exact (show vp_in (nI 0) 1 from vp_in_nI (by decide) (by decide))
  refine tf_goto 28 d_Law_rule_17 rfl ?_
  refine tf_blk _ b_Law_rule_28 rfl ?_
  refine tf_iret d_Law_rule_29 rfl ?_
  exact ⟨rfl, a, f3, g, hΦ, fo, rfl⟩
set_option maxHeartbeats 4000000 in
set_option maxRecDepth 100000 in
theorem hl_rule_x1 (hd : 1 ≤ d) {x ou : Nat} {fs : List Value} {k2 s2 : Nat} {Φ : tf_O} {Ψ : tx_O} (p0 : Int32) (p1 : Int64) (p2 : Int64) (p3 : Int64) (p4 : Int32) (hx : x ∈ L) (fx : f x = to 0 fs) (hC : tx_C l (tf_H D q) (d - 1) i_Tf_rule (.ref x :: [.int p0, .long p1, .long p2, .long p3, .int p4]) L f k2 s2 Φ Ψ) (hno : ∀ v L2 f2, ¬ Φ v L2 f2) (hE0 : ∀ E2 L2 f2, Ψ E2 L2 f2 → E2 = "java/lang/IllegalArgumentException") : tg_C l (tf_H D q) tx_EL d i_Law_rule (.codeWith i_Law_rule.1 i_Law_rule.2.1 i_Law_rule.2.2.1 i_Law_rule.2.2.2 [(0, 17, 20, 19), (0, 17, 24, 13)]) [.ref x, .int p0, .long p1, .long p2, .long p3, .int p4, .ref ou] L f (0 + k2) (0 + s2) (fun v L2 f2 => v = some (.int (kI 1)) ∧ Ψ "java/lang/IllegalArgumentException" L2 f2) := by
  refine tg_C.ofW (by decide) (Nat.le_of_ble_eq_true rfl) ?_
  refine tf_blk _ b_Law_rule_0 rfl ?_
  refine tx_cX hC hno hE0 d_Law_rule_12 lk_Law_38 cw_Tf_rule (by rfl) in_Tf_rule se_Tf_rule hx fx (by rfl) (by rfl) (by omega) (by exact Nat.le_of_ble_eq_true rfl) rfl (hh := [(0, 17, 20, 19), (0, 17, 24, 13)]) wl_rule (x := ⟨0, 17, 20, 19⟩) (nm := "java/lang/IllegalArgumentException") (Or.inl ⟨_, rfl⟩) (by decide) (by decide) w_513 wk_523 (fun z L2 f2 hΨ => ?_)
  refine tf_blk _ b_Law_rule_20 rfl ?_
  refine tf_iret d_Law_rule_23 rfl ?_
  exact ⟨rfl, hΨ⟩
set_option maxHeartbeats 4000000 in
set_option maxRecDepth 100000 in
theorem hl_rule_x2 (hd : 1 ≤ d) {x ou : Nat} {fs : List Value} {k2 s2 : Nat} {Φ : tf_O} {Ψ : tx_O} (p0 : Int32) (p1 : Int64) (p2 : Int64) (p3 : Int64) (p4 : Int32) (hx : x ∈ L) (fx : f x = to 0 fs) (hC : tx_C l (tf_H D q) (d - 1) i_Tf_rule (.ref x :: [.int p0, .long p1, .long p2, .long p3, .int p4]) L f k2 s2 Φ Ψ) (hno : ∀ v L2 f2, ¬ Φ v L2 f2) (hE0 : ∀ E2 L2 f2, Ψ E2 L2 f2 → E2 = "java/lang/IllegalStateException") : tg_C l (tf_H D q) tx_EL d i_Law_rule (.codeWith i_Law_rule.1 i_Law_rule.2.1 i_Law_rule.2.2.1 i_Law_rule.2.2.2 [(0, 17, 20, 19), (0, 17, 24, 13)]) [.ref x, .int p0, .long p1, .long p2, .long p3, .int p4, .ref ou] L f (0 + k2) (0 + s2) (fun v L2 f2 => v = some (.int (kI 2)) ∧ Ψ "java/lang/IllegalStateException" L2 f2) := by
  refine tg_C.ofW (by decide) (Nat.le_of_ble_eq_true rfl) ?_
  refine tf_blk _ b_Law_rule_0 rfl ?_
  refine tx_cX hC hno hE0 d_Law_rule_12 lk_Law_38 cw_Tf_rule (by rfl) in_Tf_rule se_Tf_rule hx fx (by rfl) (by rfl) (by omega) (by exact Nat.le_of_ble_eq_true rfl) rfl (hh := [(0, 17, 20, 19), (0, 17, 24, 13)]) wl_rule (x := ⟨0, 17, 24, 13⟩) (nm := "java/lang/IllegalStateException") (Or.inr ⟨⟨0, 17, 20, 19⟩, _, "java/lang/IllegalArgumentException", rfl, by decide, by decide, w_513, by decide⟩) (by decide) (by decide) w_373 wk_380 (fun z L2 f2 hΨ => ?_)
  refine tf_blk _ b_Law_rule_24 rfl ?_
  refine tf_iret d_Law_rule_27 rfl ?_
  exact ⟨rfl, hΨ⟩
set_option maxHeartbeats 4000000 in
set_option maxRecDepth 100000 in
theorem hl_shaped_r (hd : 1 ≤ d) {x ou : Nat} {fs : List Value} {k2 s2 : Nat} {Φ : tf_O} {Ψ : tx_O} (p0 : Int32) (p1 : Int32) (hx : x ∈ L) (fx : f x = to 0 fs) (hC : tx_C l (tf_H D q) (d - 1) i_Tf_shaped (.ref x :: [.int p0, .int p1]) L f k2 s2 Φ Ψ) (hno : ∀ E L2 f2, ¬ Ψ E L2 f2) (hou : ∀ v L2 f2, Φ v L2 f2 → ∃ a : Int32, v = some (.int a) ∧ ou ∈ L2 ∧ ∃ g, f2 ou = tj q 1 g) : tg_C l (tf_H D q) tx_EL d i_Law_shaped (.codeWith i_Law_shaped.1 i_Law_shaped.2.1 i_Law_shaped.2.2.1 i_Law_shaped.2.2.2 [(0, 10, 13, 25)]) [.ref x, .int p0, .int p1, .ref ou] L f (0 + k2) (0 + s2) (fun v L2 f2 => v = some (.int (kI 0)) ∧ ∃ (a : Int32) (f1 : tf_F) (g : Nat → Int64), Φ (some (.int a)) L2 f1 ∧ f1 ou = tj q 1 g ∧ f2 = va_up f1 ou (tj q 1 (va_upJ g a))) := by
  refine tg_C.ofW (by decide) (Nat.le_of_ble_eq_true rfl) ?_
  refine tf_blk _ b_Law_shaped_0 rfl ?_
  refine tx_cV hC hno 8 d_Law_shaped_5 rfl lk_Law_42 cw_Tf_shaped (by rfl) in_Tf_shaped se_Tf_shaped hx fx (by rfl) (by rfl) (by omega) (by exact Nat.le_of_ble_eq_true rfl) rfl ?_
  rintro v3 L3 f3 hΦ
  obtain ⟨a, rfl, ho, g, fo⟩ := hou _ _ _ hΦ
  refine tf_blk _ b_Law_shaped_8 rfl ?_
  refine tf_last (n := ?n_9_32) (g := ?g_9_32) 10 2 d_Law_shaped_9 rfl rfl ?ha_9_32 ?hf_9_32 ?hi_9_32 ?kk_9_32
  case ha_9_32 => exact ho
  case hf_9_32 => exact fo
  case hi_9_32 => exact (show vp_in (nI 0) 1 from vp_in_nI (by decide) (by decide))
  refine tf_goto 17 d_Law_shaped_10 rfl ?_
  refine tf_blk _ b_Law_shaped_17 rfl ?_
  refine tf_iret d_Law_shaped_18 rfl ?_
  exact ⟨rfl, a, f3, g, hΦ, fo, rfl⟩
set_option maxHeartbeats 4000000 in
set_option maxRecDepth 100000 in
theorem hl_shaped_x1 (hd : 1 ≤ d) {x ou : Nat} {fs : List Value} {k2 s2 : Nat} {Φ : tf_O} {Ψ : tx_O} (p0 : Int32) (p1 : Int32) (hx : x ∈ L) (fx : f x = to 0 fs) (hC : tx_C l (tf_H D q) (d - 1) i_Tf_shaped (.ref x :: [.int p0, .int p1]) L f k2 s2 Φ Ψ) (hno : ∀ v L2 f2, ¬ Φ v L2 f2) (hE0 : ∀ E2 L2 f2, Ψ E2 L2 f2 → E2 = "java/lang/IndexOutOfBoundsException") : tg_C l (tf_H D q) tx_EL d i_Law_shaped (.codeWith i_Law_shaped.1 i_Law_shaped.2.1 i_Law_shaped.2.2.1 i_Law_shaped.2.2.2 [(0, 10, 13, 25)]) [.ref x, .int p0, .int p1, .ref ou] L f (0 + k2) (0 + s2) (fun v L2 f2 => v = some (.int (kI 1)) ∧ Ψ "java/lang/IndexOutOfBoundsException" L2 f2) := by
  refine tg_C.ofW (by decide) (Nat.le_of_ble_eq_true rfl) ?_
  refine tf_blk _ b_Law_shaped_0 rfl ?_
  refine tx_cX hC hno hE0 d_Law_shaped_5 lk_Law_42 cw_Tf_shaped (by rfl) in_Tf_shaped se_Tf_shaped hx fx (by rfl) (by rfl) (by omega) (by exact Nat.le_of_ble_eq_true rfl) rfl (hh := [(0, 10, 13, 25)]) wl_shaped (x := ⟨0, 10, 13, 25⟩) (nm := "java/lang/IndexOutOfBoundsException") (Or.inl ⟨_, rfl⟩) (by decide) (by decide) w_549 wk_556 (fun z L2 f2 hΨ => ?_)
  refine tf_blk _ b_Law_shaped_13 rfl ?_
  refine tf_iret d_Law_shaped_16 rfl ?_
  exact ⟨rfl, hΨ⟩
set_option maxHeartbeats 4000000 in
theorem c_Law_cell {b N : Nat} {xs : Nat → Int32} (hN : N < 2 ^ 31) : tg_C l (tf_H D q) (tl_X b N xs) d i_Law_cell (.code i_Law_cell.1 i_Law_cell.2.1 i_Law_cell.2.2.1 i_Law_cell.2.2.2) [.ref b, .int (kI 0)] L f 0 0 (tf_rd (.int (if 0 < N then xs 0 else kI 0)) L f) := by
  refine tg_C.of (by decide) (Nat.le_of_ble_eq_true rfl) ?_
  by_cases h0 : 0 < N
  · refine tf_blk _ b_Law_cell_0 rfl ?_
    refine tl_slen (fun _ _ h => h) 3 d_Law_cell_2 rfl ?_
    refine tf_ic_ge 12 6 d_Law_cell_3 rfl rfl (fun h3 => absurd h3 (nI_ge (a := 0) (by omega) (by omega))) (fun h3 => ?_)
    refine tf_blk _ b_Law_cell_6 rfl ?_
    refine tl_sld (fun _ _ h => h) 9 d_Law_cell_8 rfl (show vp_in (nI 0) N from vp_in_nI h0 (by omega)) ?_
    refine tf_goto 13 d_Law_cell_9 rfl ?_
    refine tf_iret d_Law_cell_13 rfl ?_
    exact ⟨by rw [if_pos h0]; rfl, rfl, rfl⟩
  · refine tf_blk _ b_Law_cell_0 rfl ?_
    refine tl_slen (fun _ _ h => h) 3 d_Law_cell_2 rfl ?_
    refine tf_ic_ge 12 6 d_Law_cell_3 rfl rfl (fun h3 => ?_) (fun h3 => absurd (nI_le (b := 0) (by omega) (by omega)) h3)
    refine tf_blk _ b_Law_cell_12 rfl ?_
    refine tf_iret d_Law_cell_13 rfl ?_
    exact ⟨by rw [if_neg h0], rfl, rfl⟩
end
