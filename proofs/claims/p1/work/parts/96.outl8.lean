/-! outline -/
section
variable (l : Launch) (D : va_G) (q : Nat → ClassId) (d : Nat) (L : List Nat) (f : tf_F)
end
/-- the state with this outline gathered -/
def tc_wO (S : tc_S) (s : ou_ST) : tc_S := (tc_S_mk S.mm S.u S.w S.n S.T (nI s.2.1) (nI s.1) (s.2.2) S.pz S.px S.py S.hn S.hy S.cs S.ca S.ce S.kp S.kl S.kr S.kc S.kL S.kR S.kO S.row S.rs S.ts S.rn S.pu S.tx S.R)
theorem tc_og {q : Nat → ClassId} {ad : Nat → Nat} {S : tc_S} {B : Nat → Prop} {L : List Nat} {f f2 : tf_F} {s : ou_ST} (h : tc_at q ad S B L f) (hT : og_at q ad f L s f2) : tc_at q ad (tc_wO S s) B L f2 ∧ ∀ z, B z → f2 z = f z := by
  have hc : ∀ k, k < 5 → f2 (ad (4 + k)) = ou_ar q k (s.2.2 k) := fun k hk => (hT.1.2.2.1 k hk).2
  have e : f2 = tc_uF ad f [(4, ti q 160 (s.2.2 0)), (5, ti q 160 (s.2.2 1)), (6, tz q 160 (s.2.2 2)), (7, ti q 54 (s.2.2 3)), (8, ti q 160 (s.2.2 4)), (3, to 6 [.ref (ad 4), .ref (ad 5), .ref (ad 6), .ref (ad 7), .int (nI s.2.1), .ref (ad 8), .int (nI s.1)])] := by
    funext z
    by_cases z3 : z = ad 3
    · rw [z3]; exact hT.1.2.1.trans (va_up_self _ _ _).symm
    refine Eq.trans ?_ (va_up_ne _ _ z3).symm
    by_cases z8 : z = ad 8
    · rw [z8]; exact (hc 4 (by decide)).trans (va_up_self _ _ _).symm
    refine Eq.trans ?_ (va_up_ne _ _ z8).symm
    by_cases z7 : z = ad 7
    · rw [z7]; exact (hc 3 (by decide)).trans (va_up_self _ _ _).symm
    refine Eq.trans ?_ (va_up_ne _ _ z7).symm
    by_cases z6 : z = ad 6
    · rw [z6]; exact (hc 2 (by decide)).trans (va_up_self _ _ _).symm
    refine Eq.trans ?_ (va_up_ne _ _ z6).symm
    by_cases z5 : z = ad 5
    · rw [z5]; exact (hc 1 (by decide)).trans (va_up_self _ _ _).symm
    refine Eq.trans ?_ (va_up_ne _ _ z5).symm
    by_cases z4 : z = ad 4
    · rw [z4]; exact (hc 0 (by decide)).trans (va_up_self _ _ _).symm
    refine Eq.trans ?_ (va_up_ne _ _ z4).symm
    refine hT.2 z ?_
    rintro (e | ⟨k, hk, e⟩)
    · exact z3 e
    · have hk2 : k = 0 ∨ k = 1 ∨ k = 2 ∨ k = 3 ∨ k = 4 := by omega
      rcases hk2 with rfl | rfl | rfl | rfl | rfl
      · exact z4 e
      · exact z5 e
      · exact z6 e
      · exact z7 e
      · exact z8 e
  rw [e]
  exact tc_goF (S2 := tc_wO S s) h _ (by simp) rfl rfl rfl rfl rfl rfl
def tc_out (S : tc_S) (i : Nat) : ou_ST := tw_gat S 4 i (0, 0, S.oA)
def tc_outv (s : ou_ST) (k : Nat) (w : Int32) : Int32 := if w = kI 0 then s.2.2 0 k else if w = kI 1 then s.2.2 1 k else if w = kI 2 then bI (decide (¬ s.2.2 2 k = 0)) else s.2.2 4 k
def tc_outw (S : tc_S) (i : Nat) (w : Int32) : Int32 := if w = kI 0 then nI (S.T i).cp + nI (S.T i).pp else if w = kI 1 then nI (S.T i).ct + nI (S.T i).ps else if w = kI 2 then tc_wid S i else nI (S.T i).dp
section
variable (l : Launch) (D : va_G) (q : Nat → ClassId) (d : Nat) (L : List Nat) (f : tf_F)
set_option maxHeartbeats 4000000 in
set_option maxRecDepth 100000 in
theorem c_Tf_outline_w (hl : l.stackTraces = false) (hd : 7 ≤ d) {ad : Nat → Nat} {S : tc_S} {B : Nat → Prop} (h : tc_at q ad S B L f) (hn : S.n ≤ 40) {i : Nat} (hi : i < S.n) (k w : Int32) (hw : tw_in w (kI 0) (kI 3) = false) : tx_C l (tf_H D q) d i_Tf_outline [.ref (ad 0), .int (nI i), .int k, .int w] L f 1 6 (fun _ _ _ => False) (fun E2 L2 f2 => E2 = "java/lang/IndexOutOfBoundsException" ∧ L2 = L ∧ f2 = f) := by
  obtain ⟨hx, fx⟩ := tc_c0 h
  obtain ⟨hg, fg⟩ := tc_g0 h hi
  refine tx_C.of (by decide) (Nat.le_of_ble_eq_true rfl) ?_
  refine tf_blk _ b_Tf_outline_0 rfl ?_
  refine tf_cV (tf_gok _ _) (c_find_r l D q (d - 1) _ _ (by omega) h hn hi) 5 d_Tf_outline_2 rfl lk_Tf_81 cw_Tf_find (by rfl) in_Tf_find se_Tf_find (by first | assumption | (simp only [List.mem_append, List.mem_singleton]; simp [*])) (by first | assumption | exact va_up_self _ _ _ | (refine tf_u (by first | assumption | (apply Ne.symm; assumption) | (intro hh; subst hh; contradiction) | exact tf_n1 (by assumption) (by assumption) | exact tf_n2 (by assumption) (by assumption)) ?_; first | assumption | exact va_up_self _ _ _ | (refine tf_u (by first | assumption | (apply Ne.symm; assumption) | (intro hh; subst hh; contradiction) | exact tf_n1 (by assumption) (by assumption) | exact tf_n2 (by assumption) (by assumption)) ?_; first | assumption | exact va_up_self _ _ _ | (refine tf_u (by first | assumption | (apply Ne.symm; assumption) | (intro hh; subst hh; contradiction) | exact tf_n1 (by assumption) (by assumption) | exact tf_n2 (by assumption) (by assumption)) ?_; first | assumption | exact va_up_self _ _ _ | (refine tf_u (by first | assumption | (apply Ne.symm; assumption) | (intro hh; subst hh; contradiction) | exact tf_n1 (by assumption) (by assumption) | exact tf_n2 (by assumption) (by assumption)) ?_; first | assumption | exact va_up_self _ _ _ | (refine tf_u (by first | assumption | (apply Ne.symm; assumption) | (intro hh; subst hh; contradiction) | exact tf_n1 (by assumption) (by assumption) | exact tf_n2 (by assumption) (by assumption)) ?_; first | assumption | exact va_up_self _ _ _)))))) (by rfl) (by rfl) (by omega) (by exact Nat.le_of_ble_eq_true rfl) rfl ?_
  rintro v2 L2 f2 ⟨rfl, rfl, rfl⟩
  refine tf_blk _ b_Tf_outline_5 rfl ?_
  refine tf_ifnull_r 12 d_Tf_outline_9 rfl ?_
  refine tf_blk _ b_Tf_outline_12 rfl ?_
  refine tf_cS (tf_gok _ _) (c_Tf_within l D q (d - 1) _ _ _ _ _) 18 d_Tf_outline_15 rfl lk_Tf_111 cw_Tf_within (by rfl) sa_Tf_within (by omega) (by exact Nat.le_of_ble_eq_true rfl) rfl ?_
  rintro v15 L15 f15 ⟨rfl, rfl, rfl⟩
  refine tf_if_eq 36 21 d_Tf_outline_18 rfl rfl (fun h18 => ?_) (fun h18 => absurd (by rw [hw]; rfl) h18)
  refine tf_less (kc2 := 0 + 1) (ks2 := 0 + 6) (by omega) (by omega) ?_
  exact tx_throw (tx := "no such glyph, point or what") hl d_Tf_outline_36 (tf_dec1 b_Tf_outline_39) d_Tf_outline_40 d_Tf_outline_42 d_Tf_outline_45 xa_123 w_554 w_16 w_555 w_631 (by decide) (by decide) (by omega) (by exact Nat.le_of_ble_eq_true rfl) (⟨rfl, rfl, rfl⟩)
set_option maxHeartbeats 4000000 in
set_option maxRecDepth 100000 in
theorem c_Tf_outline_k (hl : l.stackTraces = false) (hd : 7 ≤ d) {ad : Nat → Nat} {S : tc_S} {B : Nat → Prop} (h : tc_at q ad S B L f) (hn : S.n ≤ 40) {i : Nat} (hi : i < S.n) (k w : Int32) (hw : tw_in w (kI 0) (kI 3) = true) (hk : tw_in k (kI (-1)) (nI (S.T i).cp + nI (S.T i).pp - kI 1) = false) : tx_C l (tf_H D q) d i_Tf_outline [.ref (ad 0), .int (nI i), .int k, .int w] L f 1 6 (fun _ _ _ => False) (fun E2 L2 f2 => E2 = "java/lang/IndexOutOfBoundsException" ∧ L2 = L ∧ f2 = f) := by
  obtain ⟨hx, fx⟩ := tc_c0 h
  obtain ⟨hg, fg⟩ := tc_g0 h hi
  refine tx_C.of (by decide) (Nat.le_of_ble_eq_true rfl) ?_
  refine tf_blk _ b_Tf_outline_0 rfl ?_
  refine tf_cV (tf_gok _ _) (c_find_r l D q (d - 1) _ _ (by omega) h hn hi) 5 d_Tf_outline_2 rfl lk_Tf_81 cw_Tf_find (by rfl) in_Tf_find se_Tf_find (by first | assumption | (simp only [List.mem_append, List.mem_singleton]; simp [*])) (by first | assumption | exact va_up_self _ _ _ | (refine tf_u (by first | assumption | (apply Ne.symm; assumption) | (intro hh; subst hh; contradiction) | exact tf_n1 (by assumption) (by assumption) | exact tf_n2 (by assumption) (by assumption)) ?_; first | assumption | exact va_up_self _ _ _ | (refine tf_u (by first | assumption | (apply Ne.symm; assumption) | (intro hh; subst hh; contradiction) | exact tf_n1 (by assumption) (by assumption) | exact tf_n2 (by assumption) (by assumption)) ?_; first | assumption | exact va_up_self _ _ _ | (refine tf_u (by first | assumption | (apply Ne.symm; assumption) | (intro hh; subst hh; contradiction) | exact tf_n1 (by assumption) (by assumption) | exact tf_n2 (by assumption) (by assumption)) ?_; first | assumption | exact va_up_self _ _ _ | (refine tf_u (by first | assumption | (apply Ne.symm; assumption) | (intro hh; subst hh; contradiction) | exact tf_n1 (by assumption) (by assumption) | exact tf_n2 (by assumption) (by assumption)) ?_; first | assumption | exact va_up_self _ _ _ | (refine tf_u (by first | assumption | (apply Ne.symm; assumption) | (intro hh; subst hh; contradiction) | exact tf_n1 (by assumption) (by assumption) | exact tf_n2 (by assumption) (by assumption)) ?_; first | assumption | exact va_up_self _ _ _)))))) (by rfl) (by rfl) (by omega) (by exact Nat.le_of_ble_eq_true rfl) rfl ?_
  rintro v2 L2 f2 ⟨rfl, rfl, rfl⟩
  refine tf_blk _ b_Tf_outline_5 rfl ?_
  refine tf_ifnull_r 12 d_Tf_outline_9 rfl ?_
  refine tf_blk _ b_Tf_outline_12 rfl ?_
  refine tf_cS (tf_gok _ _) (c_Tf_within l D q (d - 1) _ _ _ _ _) 18 d_Tf_outline_15 rfl lk_Tf_111 cw_Tf_within (by rfl) sa_Tf_within (by omega) (by exact Nat.le_of_ble_eq_true rfl) rfl ?_
  rintro v15 L15 f15 ⟨rfl, rfl, rfl⟩
  refine tf_if_eq 36 21 d_Tf_outline_18 rfl rfl (fun h18 => absurd h18 ((by rw [hw]; decide))) (fun h18 => ?_)
  refine tf_blk _ b_Tf_outline_21 rfl ?_
  refine tf_cV (tf_gok _ _) (c_Glyph_outlinePoints l D q (d - 1) _ _ (v14 := .null) hg fg) 28 d_Tf_outline_25 rfl lk_Tf_158 cw_Glyph_outlinePoints (by rfl) in_Glyph_outlinePoints se_Glyph_outlinePoints (by first | assumption | (simp only [List.mem_append, List.mem_singleton]; simp [*])) (by first | assumption | exact va_up_self _ _ _ | (refine tf_u (by first | assumption | (apply Ne.symm; assumption) | (intro hh; subst hh; contradiction) | exact tf_n1 (by assumption) (by assumption) | exact tf_n2 (by assumption) (by assumption)) ?_; first | assumption | exact va_up_self _ _ _ | (refine tf_u (by first | assumption | (apply Ne.symm; assumption) | (intro hh; subst hh; contradiction) | exact tf_n1 (by assumption) (by assumption) | exact tf_n2 (by assumption) (by assumption)) ?_; first | assumption | exact va_up_self _ _ _ | (refine tf_u (by first | assumption | (apply Ne.symm; assumption) | (intro hh; subst hh; contradiction) | exact tf_n1 (by assumption) (by assumption) | exact tf_n2 (by assumption) (by assumption)) ?_; first | assumption | exact va_up_self _ _ _ | (refine tf_u (by first | assumption | (apply Ne.symm; assumption) | (intro hh; subst hh; contradiction) | exact tf_n1 (by assumption) (by assumption) | exact tf_n2 (by assumption) (by assumption)) ?_; first | assumption | exact va_up_self _ _ _ | (refine tf_u (by first | assumption | (apply Ne.symm; assumption) | (intro hh; subst hh; contradiction) | exact tf_n1 (by assumption) (by assumption) | exact tf_n2 (by assumption) (by assumption)) ?_; first | assumption | exact va_up_self _ _ _)))))) (by rfl) (by rfl) (by omega) (by exact Nat.le_of_ble_eq_true rfl) rfl ?_
  rintro v25 L25 f25 ⟨rfl, rfl, rfl⟩
  refine tf_blk _ b_Tf_outline_28 rfl ?_
  refine tf_cS (tf_gok _ _) (c_Tf_within l D q (d - 1) _ _ _ _ _) 33 d_Tf_outline_30 rfl lk_Tf_111 cw_Tf_within (by rfl) sa_Tf_within (by omega) (by exact Nat.le_of_ble_eq_true rfl) rfl ?_
  rintro v30 L30 f30 ⟨rfl, rfl, rfl⟩
  refine tf_if_ne 46 36 d_Tf_outline_33 rfl rfl (fun h33 => absurd h33 ((not_not_intro (by rw [hk]; rfl)))) (fun h33 => ?_)
  refine tf_less (kc2 := 0 + 1) (ks2 := 0 + 6) (by omega) (by omega) ?_
  exact tx_throw (tx := "no such glyph, point or what") hl d_Tf_outline_36 (tf_dec1 b_Tf_outline_39) d_Tf_outline_40 d_Tf_outline_42 d_Tf_outline_45 xa_123 w_554 w_16 w_555 w_631 (by decide) (by decide) (by omega) (by exact Nat.le_of_ble_eq_true rfl) (⟨rfl, rfl, rfl⟩)
set_option maxHeartbeats 4000000 in
set_option maxRecDepth 100000 in
theorem c_Tf_outline_t0 (hl : l.stackTraces = false) (hd : 7 ≤ d) {ad : Nat → Nat} {S : tc_S} {B : Nat → Prop} (h : tc_at q ad S B L f) (hn : S.n ≤ 40) {i : Nat} (hi : i < S.n) (hm : tc_mm S.mm) (w : Int32) (hw : tw_in w (kI 0) (kI 3) = true) (hk : tw_in (kI (-1)) (kI (-1)) (nI (S.T i).cp + nI (S.T i).pp - kI 1) = true) : tx_C l (tf_H D q) d i_Tf_outline [.ref (ad 0), .int (nI i), .int (kI (-1)), .int w] L f 1 6 (tc_po q ad B L f (tc_outw S i w) S) (fun _ _ _ => False) := by
  obtain ⟨hx, fx⟩ := tc_c0 h
  obtain ⟨hg, fg⟩ := tc_g0 h hi
  refine tx_C.of (by decide) (Nat.le_of_ble_eq_true rfl) ?_
  refine tf_blk _ b_Tf_outline_0 rfl ?_
  refine tf_cV (tf_gok _ _) (c_find_r l D q (d - 1) _ _ (by omega) h hn hi) 5 d_Tf_outline_2 rfl lk_Tf_81 cw_Tf_find (by rfl) in_Tf_find se_Tf_find (by first | assumption | (simp only [List.mem_append, List.mem_singleton]; simp [*])) (by first | assumption | exact va_up_self _ _ _ | (refine tf_u (by first | assumption | (apply Ne.symm; assumption) | (intro hh; subst hh; contradiction) | exact tf_n1 (by assumption) (by assumption) | exact tf_n2 (by assumption) (by assumption)) ?_; first | assumption | exact va_up_self _ _ _ | (refine tf_u (by first | assumption | (apply Ne.symm; assumption) | (intro hh; subst hh; contradiction) | exact tf_n1 (by assumption) (by assumption) | exact tf_n2 (by assumption) (by assumption)) ?_; first | assumption | exact va_up_self _ _ _ | (refine tf_u (by first | assumption | (apply Ne.symm; assumption) | (intro hh; subst hh; contradiction) | exact tf_n1 (by assumption) (by assumption) | exact tf_n2 (by assumption) (by assumption)) ?_; first | assumption | exact va_up_self _ _ _ | (refine tf_u (by first | assumption | (apply Ne.symm; assumption) | (intro hh; subst hh; contradiction) | exact tf_n1 (by assumption) (by assumption) | exact tf_n2 (by assumption) (by assumption)) ?_; first | assumption | exact va_up_self _ _ _ | (refine tf_u (by first | assumption | (apply Ne.symm; assumption) | (intro hh; subst hh; contradiction) | exact tf_n1 (by assumption) (by assumption) | exact tf_n2 (by assumption) (by assumption)) ?_; first | assumption | exact va_up_self _ _ _)))))) (by rfl) (by rfl) (by omega) (by exact Nat.le_of_ble_eq_true rfl) rfl ?_
  rintro v2 L2 f2 ⟨rfl, rfl, rfl⟩
  refine tf_blk _ b_Tf_outline_5 rfl ?_
  refine tf_ifnull_r 12 d_Tf_outline_9 rfl ?_
  refine tf_blk _ b_Tf_outline_12 rfl ?_
  refine tf_cS (tf_gok _ _) (c_Tf_within l D q (d - 1) _ _ _ _ _) 18 d_Tf_outline_15 rfl lk_Tf_111 cw_Tf_within (by rfl) sa_Tf_within (by omega) (by exact Nat.le_of_ble_eq_true rfl) rfl ?_
  rintro v15 L15 f15 ⟨rfl, rfl, rfl⟩
  refine tf_if_eq 36 21 d_Tf_outline_18 rfl rfl (fun h18 => absurd h18 ((by rw [hw]; decide))) (fun h18 => ?_)
  refine tf_blk _ b_Tf_outline_21 rfl ?_
  refine tf_cV (tf_gok _ _) (c_Glyph_outlinePoints l D q (d - 1) _ _ (v14 := .null) hg fg) 28 d_Tf_outline_25 rfl lk_Tf_158 cw_Glyph_outlinePoints (by rfl) in_Glyph_outlinePoints se_Glyph_outlinePoints (by first | assumption | (simp only [List.mem_append, List.mem_singleton]; simp [*])) (by first | assumption | exact va_up_self _ _ _ | (refine tf_u (by first | assumption | (apply Ne.symm; assumption) | (intro hh; subst hh; contradiction) | exact tf_n1 (by assumption) (by assumption) | exact tf_n2 (by assumption) (by assumption)) ?_; first | assumption | exact va_up_self _ _ _ | (refine tf_u (by first | assumption | (apply Ne.symm; assumption) | (intro hh; subst hh; contradiction) | exact tf_n1 (by assumption) (by assumption) | exact tf_n2 (by assumption) (by assumption)) ?_; first | assumption | exact va_up_self _ _ _ | (refine tf_u (by first | assumption | (apply Ne.symm; assumption) | (intro hh; subst hh; contradiction) | exact tf_n1 (by assumption) (by assumption) | exact tf_n2 (by assumption) (by assumption)) ?_; first | assumption | exact va_up_self _ _ _ | (refine tf_u (by first | assumption | (apply Ne.symm; assumption) | (intro hh; subst hh; contradiction) | exact tf_n1 (by assumption) (by assumption) | exact tf_n2 (by assumption) (by assumption)) ?_; first | assumption | exact va_up_self _ _ _ | (refine tf_u (by first | assumption | (apply Ne.symm; assumption) | (intro hh; subst hh; contradiction) | exact tf_n1 (by assumption) (by assumption) | exact tf_n2 (by assumption) (by assumption)) ?_; first | assumption | exact va_up_self _ _ _)))))) (by rfl) (by rfl) (by omega) (by exact Nat.le_of_ble_eq_true rfl) rfl ?_
  rintro v25 L25 f25 ⟨rfl, rfl, rfl⟩
  refine tf_blk _ b_Tf_outline_28 rfl ?_
  refine tf_cS (tf_gok _ _) (c_Tf_within l D q (d - 1) _ _ _ _ _) 33 d_Tf_outline_30 rfl lk_Tf_111 cw_Tf_within (by rfl) sa_Tf_within (by omega) (by exact Nat.le_of_ble_eq_true rfl) rfl ?_
  rintro v30 L30 f30 ⟨rfl, rfl, rfl⟩
  refine tf_if_ne 46 36 d_Tf_outline_33 rfl rfl (fun h33 => ?_) (fun h33 => absurd h33 ((by rw [hk]; decide)))
  refine tf_blk _ b_Tf_outline_46 rfl ?_
  refine tf_ic_ne 59 51 d_Tf_outline_48 rfl rfl (fun h48 => absurd h48 (not_not_intro rfl)) (fun h48 => ?_)
  refine tf_blk _ b_Tf_outline_51 rfl ?_
  refine tf_cV (tf_gok _ _) (c_Tf_ofWholeOutline l D q (d - 1) _ _ (by omega) h hm hi w) 58 d_Tf_outline_55 rfl lk_Tf_164 cw_Tf_ofWholeOutline (by rfl) in_Tf_ofWholeOutline se_Tf_ofWholeOutline (by first | assumption | (simp only [List.mem_append, List.mem_singleton]; simp [*])) (by first | assumption | exact va_up_self _ _ _ | (refine tf_u (by first | assumption | (apply Ne.symm; assumption) | (intro hh; subst hh; contradiction) | exact tf_n1 (by assumption) (by assumption) | exact tf_n2 (by assumption) (by assumption)) ?_; first | assumption | exact va_up_self _ _ _ | (refine tf_u (by first | assumption | (apply Ne.symm; assumption) | (intro hh; subst hh; contradiction) | exact tf_n1 (by assumption) (by assumption) | exact tf_n2 (by assumption) (by assumption)) ?_; first | assumption | exact va_up_self _ _ _ | (refine tf_u (by first | assumption | (apply Ne.symm; assumption) | (intro hh; subst hh; contradiction) | exact tf_n1 (by assumption) (by assumption) | exact tf_n2 (by assumption) (by assumption)) ?_; first | assumption | exact va_up_self _ _ _ | (refine tf_u (by first | assumption | (apply Ne.symm; assumption) | (intro hh; subst hh; contradiction) | exact tf_n1 (by assumption) (by assumption) | exact tf_n2 (by assumption) (by assumption)) ?_; first | assumption | exact va_up_self _ _ _ | (refine tf_u (by first | assumption | (apply Ne.symm; assumption) | (intro hh; subst hh; contradiction) | exact tf_n1 (by assumption) (by assumption) | exact tf_n2 (by assumption) (by assumption)) ?_; first | assumption | exact va_up_self _ _ _)))))) (by rfl) (by rfl) (by omega) (by exact Nat.le_of_ble_eq_true rfl) rfl ?_
  rintro v55 L55 f55 ⟨rfl, rfl, rfl⟩
  refine tx_ret ?_
  refine tf_iret d_Tf_outline_58 rfl ?_
  exact ⟨rfl, rfl, h, fun _ _ => rfl⟩
set_option maxHeartbeats 4000000 in
set_option maxRecDepth 100000 in
theorem c_Tf_outline_t1 (hl : l.stackTraces = false) (hd : 12 ≤ d) {ad : Nat → Nat} {S : tc_S} {B : Nat → Prop} (h : tc_at q ad S B L f) (hn : S.n ≤ 40) {i : Nat} (hi : i < S.n) (hm : tc_mm S.mm) (hG : tc_GI S) (hdp : (S.T i).dp ≤ 4) (h0 : S.oA 3 0 = nI 0) {k : Nat} (h160 : k < 160) (w : Int32) (hw : tw_in w (kI 0) (kI 3) = true) (hk : tw_in (nI k) (kI (-1)) (nI (S.T i).cp + nI (S.T i).pp - kI 1) = true) : tx_C l (tf_H D q) d i_Tf_outline [.ref (ad 0), .int (nI i), .int (nI k), .int w] L f 1 6 (tc_po q ad B L f (tc_outv (tc_out S i) k w) (tc_wO S (tc_out S i))) (fun _ _ _ => False) := by
  obtain ⟨hx, fx⟩ := tc_c0 h
  obtain ⟨hg, fg⟩ := tc_g0 h hi
  refine tx_C.of (by decide) (Nat.le_of_ble_eq_true rfl) ?_
  refine tf_blk _ b_Tf_outline_0 rfl ?_
  refine tf_cV (tf_gok _ _) (c_find_r l D q (d - 1) _ _ (by omega) h hn hi) 5 d_Tf_outline_2 rfl lk_Tf_81 cw_Tf_find (by rfl) in_Tf_find se_Tf_find (by first | assumption | (simp only [List.mem_append, List.mem_singleton]; simp [*])) (by first | assumption | exact va_up_self _ _ _ | (refine tf_u (by first | assumption | (apply Ne.symm; assumption) | (intro hh; subst hh; contradiction) | exact tf_n1 (by assumption) (by assumption) | exact tf_n2 (by assumption) (by assumption)) ?_; first | assumption | exact va_up_self _ _ _ | (refine tf_u (by first | assumption | (apply Ne.symm; assumption) | (intro hh; subst hh; contradiction) | exact tf_n1 (by assumption) (by assumption) | exact tf_n2 (by assumption) (by assumption)) ?_; first | assumption | exact va_up_self _ _ _ | (refine tf_u (by first | assumption | (apply Ne.symm; assumption) | (intro hh; subst hh; contradiction) | exact tf_n1 (by assumption) (by assumption) | exact tf_n2 (by assumption) (by assumption)) ?_; first | assumption | exact va_up_self _ _ _ | (refine tf_u (by first | assumption | (apply Ne.symm; assumption) | (intro hh; subst hh; contradiction) | exact tf_n1 (by assumption) (by assumption) | exact tf_n2 (by assumption) (by assumption)) ?_; first | assumption | exact va_up_self _ _ _ | (refine tf_u (by first | assumption | (apply Ne.symm; assumption) | (intro hh; subst hh; contradiction) | exact tf_n1 (by assumption) (by assumption) | exact tf_n2 (by assumption) (by assumption)) ?_; first | assumption | exact va_up_self _ _ _)))))) (by rfl) (by rfl) (by omega) (by exact Nat.le_of_ble_eq_true rfl) rfl ?_
  rintro v2 L2 f2 ⟨rfl, rfl, rfl⟩
  refine tf_blk _ b_Tf_outline_5 rfl ?_
  refine tf_ifnull_r 12 d_Tf_outline_9 rfl ?_
  refine tf_blk _ b_Tf_outline_12 rfl ?_
  refine tf_cS (tf_gok _ _) (c_Tf_within l D q (d - 1) _ _ _ _ _) 18 d_Tf_outline_15 rfl lk_Tf_111 cw_Tf_within (by rfl) sa_Tf_within (by omega) (by exact Nat.le_of_ble_eq_true rfl) rfl ?_
  rintro v15 L15 f15 ⟨rfl, rfl, rfl⟩
  refine tf_if_eq 36 21 d_Tf_outline_18 rfl rfl (fun h18 => absurd h18 ((by rw [hw]; decide))) (fun h18 => ?_)
  refine tf_blk _ b_Tf_outline_21 rfl ?_
  refine tf_cV (tf_gok _ _) (c_Glyph_outlinePoints l D q (d - 1) _ _ (v14 := .null) hg fg) 28 d_Tf_outline_25 rfl lk_Tf_158 cw_Glyph_outlinePoints (by rfl) in_Glyph_outlinePoints se_Glyph_outlinePoints (by first | assumption | (simp only [List.mem_append, List.mem_singleton]; simp [*])) (by first | assumption | exact va_up_self _ _ _ | (refine tf_u (by first | assumption | (apply Ne.symm; assumption) | (intro hh; subst hh; contradiction) | exact tf_n1 (by assumption) (by assumption) | exact tf_n2 (by assumption) (by assumption)) ?_; first | assumption | exact va_up_self _ _ _ | (refine tf_u (by first | assumption | (apply Ne.symm; assumption) | (intro hh; subst hh; contradiction) | exact tf_n1 (by assumption) (by assumption) | exact tf_n2 (by assumption) (by assumption)) ?_; first | assumption | exact va_up_self _ _ _ | (refine tf_u (by first | assumption | (apply Ne.symm; assumption) | (intro hh; subst hh; contradiction) | exact tf_n1 (by assumption) (by assumption) | exact tf_n2 (by assumption) (by assumption)) ?_; first | assumption | exact va_up_self _ _ _ | (refine tf_u (by first | assumption | (apply Ne.symm; assumption) | (intro hh; subst hh; contradiction) | exact tf_n1 (by assumption) (by assumption) | exact tf_n2 (by assumption) (by assumption)) ?_; first | assumption | exact va_up_self _ _ _ | (refine tf_u (by first | assumption | (apply Ne.symm; assumption) | (intro hh; subst hh; contradiction) | exact tf_n1 (by assumption) (by assumption) | exact tf_n2 (by assumption) (by assumption)) ?_; first | assumption | exact va_up_self _ _ _)))))) (by rfl) (by rfl) (by omega) (by exact Nat.le_of_ble_eq_true rfl) rfl ?_
  rintro v25 L25 f25 ⟨rfl, rfl, rfl⟩
  refine tf_blk _ b_Tf_outline_28 rfl ?_
  refine tf_cS (tf_gok _ _) (c_Tf_within l D q (d - 1) _ _ _ _ _) 33 d_Tf_outline_30 rfl lk_Tf_111 cw_Tf_within (by rfl) sa_Tf_within (by omega) (by exact Nat.le_of_ble_eq_true rfl) rfl ?_
  rintro v30 L30 f30 ⟨rfl, rfl, rfl⟩
  refine tf_if_ne 46 36 d_Tf_outline_33 rfl rfl (fun h33 => ?_) (fun h33 => absurd h33 ((by rw [hk]; decide)))
  refine tf_blk _ b_Tf_outline_46 rfl ?_
  refine tf_ic_ne 59 51 d_Tf_outline_48 rfl rfl (fun h48 => ?_) (fun h48 => absurd h48 (fun z => absurd (congrArg Int32.toInt z) (by rw [nI_toInt (by omega)]; intro z2; have : (0 : Int) ≤ (k : Int) := Int.natCast_nonneg k; rw [z2] at this; exact absurd this (by decide))))
  refine tf_blk _ b_Tf_outline_59 rfl ?_
  refine tf_get (fs := ?fs_60_19) (v := ?v_60_19) 63 d_Tf_outline_60 rfl fl_Tf_27 ?ha_60_19 ?hf_60_19 ?hv_60_19 ?kk_60_19
  case ha_60_19 => first | assumption | (simp only [List.mem_append, List.mem_singleton]; simp [*])
  case hf_60_19 => first | assumption | exact va_up_self _ _ _ | (refine tf_u (by first | assumption | (apply Ne.symm; assumption) | (intro hh; subst hh; contradiction) | exact tf_n1 (by assumption) (by assumption) | exact tf_n2 (by assumption) (by assumption)) ?_; first | assumption | exact va_up_self _ _ _ | (refine tf_u (by first | assumption | (apply Ne.symm; assumption) | (intro hh; subst hh; contradiction) | exact tf_n1 (by assumption) (by assumption) | exact tf_n2 (by assumption) (by assumption)) ?_; first | assumption | exact va_up_self _ _ _ | (refine tf_u (by first | assumption | (apply Ne.symm; assumption) | (intro hh; subst hh; contradiction) | exact tf_n1 (by assumption) (by assumption) | exact tf_n2 (by assumption) (by assumption)) ?_; first | assumption | exact va_up_self _ _ _ | (refine tf_u (by first | assumption | (apply Ne.symm; assumption) | (intro hh; subst hh; contradiction) | exact tf_n1 (by assumption) (by assumption) | exact tf_n2 (by assumption) (by assumption)) ?_; first | assumption | exact va_up_self _ _ _ | (refine tf_u (by first | assumption | (apply Ne.symm; assumption) | (intro hh; subst hh; contradiction) | exact tf_n1 (by assumption) (by assumption) | exact tf_n2 (by assumption) (by assumption)) ?_; first | assumption | exact va_up_self _ _ _)))))
  case hv_60_19 => rfl
  refine tf_blk _ b_Tf_outline_63 rfl ?_
  refine tf_get (fs := ?fs_66_20) (v := ?v_66_20) 69 d_Tf_outline_66 rfl fl_Tf_14 ?ha_66_20 ?hf_66_20 ?hv_66_20 ?kk_66_20
  case ha_66_20 => first | assumption | (simp only [List.mem_append, List.mem_singleton]; simp [*])
  case hf_66_20 => first | assumption | exact va_up_self _ _ _ | (refine tf_u (by first | assumption | (apply Ne.symm; assumption) | (intro hh; subst hh; contradiction) | exact tf_n1 (by assumption) (by assumption) | exact tf_n2 (by assumption) (by assumption)) ?_; first | assumption | exact va_up_self _ _ _ | (refine tf_u (by first | assumption | (apply Ne.symm; assumption) | (intro hh; subst hh; contradiction) | exact tf_n1 (by assumption) (by assumption) | exact tf_n2 (by assumption) (by assumption)) ?_; first | assumption | exact va_up_self _ _ _ | (refine tf_u (by first | assumption | (apply Ne.symm; assumption) | (intro hh; subst hh; contradiction) | exact tf_n1 (by assumption) (by assumption) | exact tf_n2 (by assumption) (by assumption)) ?_; first | assumption | exact va_up_self _ _ _ | (refine tf_u (by first | assumption | (apply Ne.symm; assumption) | (intro hh; subst hh; contradiction) | exact tf_n1 (by assumption) (by assumption) | exact tf_n2 (by assumption) (by assumption)) ?_; first | assumption | exact va_up_self _ _ _ | (refine tf_u (by first | assumption | (apply Ne.symm; assumption) | (intro hh; subst hh; contradiction) | exact tf_n1 (by assumption) (by assumption) | exact tf_n2 (by assumption) (by assumption)) ?_; first | assumption | exact va_up_self _ _ _)))))
  case hv_66_20 => rfl
  refine tf_cV (tf_gok _ _) (c_Outline_become l D q (d - 1) _ _ (by omega) h hm hG hi hdp h0) 72 d_Tf_outline_69 rfl lk_Tf_168 cw_Outline_become (by rfl) in_Outline_become se_Outline_become (by exact (tc_c3 h).1) (by exact (tc_c3 h).2) (by rfl) (by rfl) (by omega) (by exact Nat.le_of_ble_eq_true rfl) rfl ?_
  rintro v69 L69 f69 ⟨rfl, rfl, hT⟩
  have h2 := tc_og h hT
  obtain ⟨hx2, fx2⟩ := tc_c0 h2.1
  refine tf_blk _ b_Tf_outline_72 rfl ?_
  refine tf_get (fs := ?fs_73_22) (v := ?v_73_22) 76 d_Tf_outline_73 rfl fl_Tf_27 ?ha_73_22 ?hf_73_22 ?hv_73_22 ?kk_73_22
  case ha_73_22 => exact hx2
  case hf_73_22 => exact fx2
  case hv_73_22 => rfl
  refine tf_blk _ b_Tf_outline_76 rfl ?_
  refine tf_cV (tf_gok _ _) (c_Outline_ofPoint l D q (d - 1) _ _ hT (nI k) w (vp_in_nI h160 (by omega))) 81 d_Tf_outline_78 rfl lk_Tf_172 cw_Outline_ofPoint (by rfl) in_Outline_ofPoint se_Outline_ofPoint (by exact (tc_c3 h2.1).1) (by exact (tc_c3 h2.1).2) (by rfl) (by rfl) (by omega) (by exact Nat.le_of_ble_eq_true rfl) rfl ?_
  rintro v78 L78 f78 ⟨rfl, rfl, rfl⟩
  refine tx_ret ?_
  refine tf_iret d_Tf_outline_81 rfl ?_
  rw [nI_clamp (show k < 2 ^ 31 by omega)]
  exact ⟨rfl, rfl, h2⟩
end
