/-! public methods that throw: component, rule, outline, draw, shaped: the roads that are refused -/
section
variable (l : Launch) (D : va_G) (q : Nat → ClassId) (d : Nat) (L : List Nat) (f : tf_F)
set_option maxHeartbeats 4000000 in
set_option maxRecDepth 100000 in
theorem c_Tf_component_1a (hl : l.stackTraces = false) (hd : 7 ≤ d) {ad : Nat → Nat} {S : tc_S} {B : Nat → Prop} (h : tc_at q ad S B L f) (hn : S.n ≤ 40) {k : Int32} (hk : ∀ i, i < S.n → k ≠ nI i) {k2 : Int32} (hk2 : ∀ i, i < S.n → k2 ≠ nI i) (x y t : Int32) : tx_C l (tf_H D q) d i_Tf_component [.ref (ad 0), .int k, .int k2, .int x, .int y, .int t] L f 1 6 (fun _ _ _ => False) (fun E2 L2 f2 => E2 = "java/lang/IllegalArgumentException" ∧ L2 = L ∧ f2 = f) := by
  obtain ⟨hx, fx⟩ := tc_c0 h
  
  refine tx_C.of (by decide) (Nat.le_of_ble_eq_true rfl) ?_
  refine tf_blk _ b_Tf_component_0 rfl ?_
  refine tf_cV (tf_gok _ _) (c_find_n l D q (d - 1) _ _ (by omega) h hn hk) 5 d_Tf_component_2 rfl lk_Tf_81 cw_Tf_find (by rfl) in_Tf_find se_Tf_find (by first | assumption | (simp only [List.mem_append, List.mem_singleton]; simp [*])) (by first | assumption | exact va_up_self _ _ _ | (refine tf_u (by first | assumption | (apply Ne.symm; assumption) | (intro hh; subst hh; contradiction) | exact tf_n1 (by assumption) (by assumption) | exact tf_n2 (by assumption) (by assumption)) ?_; first | assumption | exact va_up_self _ _ _ | (refine tf_u (by first | assumption | (apply Ne.symm; assumption) | (intro hh; subst hh; contradiction) | exact tf_n1 (by assumption) (by assumption) | exact tf_n2 (by assumption) (by assumption)) ?_; first | assumption | exact va_up_self _ _ _ | (refine tf_u (by first | assumption | (apply Ne.symm; assumption) | (intro hh; subst hh; contradiction) | exact tf_n1 (by assumption) (by assumption) | exact tf_n2 (by assumption) (by assumption)) ?_; first | assumption | exact va_up_self _ _ _ | (refine tf_u (by first | assumption | (apply Ne.symm; assumption) | (intro hh; subst hh; contradiction) | exact tf_n1 (by assumption) (by assumption) | exact tf_n2 (by assumption) (by assumption)) ?_; first | assumption | exact va_up_self _ _ _ | (refine tf_u (by first | assumption | (apply Ne.symm; assumption) | (intro hh; subst hh; contradiction) | exact tf_n1 (by assumption) (by assumption) | exact tf_n2 (by assumption) (by assumption)) ?_; first | assumption | exact va_up_self _ _ _)))))) (by rfl) (by rfl) (by omega) (by exact Nat.le_of_ble_eq_true rfl) rfl ?_
  rintro v2 L2 f2 ⟨rfl, rfl, rfl⟩
  refine tf_blk _ b_Tf_component_5 rfl ?_
  refine tf_cV (tf_gok _ _) (c_find_n l D q (d - 1) _ _ (by omega) h hn hk2) 12 d_Tf_component_9 rfl lk_Tf_81 cw_Tf_find (by rfl) in_Tf_find se_Tf_find (by first | assumption | (simp only [List.mem_append, List.mem_singleton]; simp [*])) (by first | assumption | exact va_up_self _ _ _ | (refine tf_u (by first | assumption | (apply Ne.symm; assumption) | (intro hh; subst hh; contradiction) | exact tf_n1 (by assumption) (by assumption) | exact tf_n2 (by assumption) (by assumption)) ?_; first | assumption | exact va_up_self _ _ _ | (refine tf_u (by first | assumption | (apply Ne.symm; assumption) | (intro hh; subst hh; contradiction) | exact tf_n1 (by assumption) (by assumption) | exact tf_n2 (by assumption) (by assumption)) ?_; first | assumption | exact va_up_self _ _ _ | (refine tf_u (by first | assumption | (apply Ne.symm; assumption) | (intro hh; subst hh; contradiction) | exact tf_n1 (by assumption) (by assumption) | exact tf_n2 (by assumption) (by assumption)) ?_; first | assumption | exact va_up_self _ _ _ | (refine tf_u (by first | assumption | (apply Ne.symm; assumption) | (intro hh; subst hh; contradiction) | exact tf_n1 (by assumption) (by assumption) | exact tf_n2 (by assumption) (by assumption)) ?_; first | assumption | exact va_up_self _ _ _ | (refine tf_u (by first | assumption | (apply Ne.symm; assumption) | (intro hh; subst hh; contradiction) | exact tf_n1 (by assumption) (by assumption) | exact tf_n2 (by assumption) (by assumption)) ?_; first | assumption | exact va_up_self _ _ _)))))) (by rfl) (by rfl) (by omega) (by exact Nat.le_of_ble_eq_true rfl) rfl ?_
  rintro v9 L9 f9 ⟨rfl, rfl, rfl⟩
  refine tf_blk _ b_Tf_component_12 rfl ?_
  refine tf_ifnull_n 49 d_Tf_component_16 rfl ?_
  refine tf_less (kc2 := 0 + 1) (ks2 := 0 + 6) (by omega) (by omega) ?_
  exact tx_throw (tx := "no such glyphs, shift or turn") hl d_Tf_component_49 (tf_dec1 b_Tf_component_52) d_Tf_component_53 d_Tf_component_55 d_Tf_component_58 xa_93 w_521 w_15 w_522 w_578 (by decide) (by decide) (by omega) (by exact Nat.le_of_ble_eq_true rfl) (⟨rfl, rfl, rfl⟩)
set_option maxHeartbeats 4000000 in
set_option maxRecDepth 100000 in
theorem c_Tf_component_1b (hl : l.stackTraces = false) (hd : 7 ≤ d) {ad : Nat → Nat} {S : tc_S} {B : Nat → Prop} (h : tc_at q ad S B L f) (hn : S.n ≤ 40) {k : Int32} (hk : ∀ i, i < S.n → k ≠ nI i) {j : Nat} (hj : j < S.n) (x y t : Int32) : tx_C l (tf_H D q) d i_Tf_component [.ref (ad 0), .int k, .int (nI j), .int x, .int y, .int t] L f 1 6 (fun _ _ _ => False) (fun E2 L2 f2 => E2 = "java/lang/IllegalArgumentException" ∧ L2 = L ∧ f2 = f) := by
  obtain ⟨hx, fx⟩ := tc_c0 h
  
  refine tx_C.of (by decide) (Nat.le_of_ble_eq_true rfl) ?_
  refine tf_blk _ b_Tf_component_0 rfl ?_
  refine tf_cV (tf_gok _ _) (c_find_n l D q (d - 1) _ _ (by omega) h hn hk) 5 d_Tf_component_2 rfl lk_Tf_81 cw_Tf_find (by rfl) in_Tf_find se_Tf_find (by first | assumption | (simp only [List.mem_append, List.mem_singleton]; simp [*])) (by first | assumption | exact va_up_self _ _ _ | (refine tf_u (by first | assumption | (apply Ne.symm; assumption) | (intro hh; subst hh; contradiction) | exact tf_n1 (by assumption) (by assumption) | exact tf_n2 (by assumption) (by assumption)) ?_; first | assumption | exact va_up_self _ _ _ | (refine tf_u (by first | assumption | (apply Ne.symm; assumption) | (intro hh; subst hh; contradiction) | exact tf_n1 (by assumption) (by assumption) | exact tf_n2 (by assumption) (by assumption)) ?_; first | assumption | exact va_up_self _ _ _ | (refine tf_u (by first | assumption | (apply Ne.symm; assumption) | (intro hh; subst hh; contradiction) | exact tf_n1 (by assumption) (by assumption) | exact tf_n2 (by assumption) (by assumption)) ?_; first | assumption | exact va_up_self _ _ _ | (refine tf_u (by first | assumption | (apply Ne.symm; assumption) | (intro hh; subst hh; contradiction) | exact tf_n1 (by assumption) (by assumption) | exact tf_n2 (by assumption) (by assumption)) ?_; first | assumption | exact va_up_self _ _ _ | (refine tf_u (by first | assumption | (apply Ne.symm; assumption) | (intro hh; subst hh; contradiction) | exact tf_n1 (by assumption) (by assumption) | exact tf_n2 (by assumption) (by assumption)) ?_; first | assumption | exact va_up_self _ _ _)))))) (by rfl) (by rfl) (by omega) (by exact Nat.le_of_ble_eq_true rfl) rfl ?_
  rintro v2 L2 f2 ⟨rfl, rfl, rfl⟩
  refine tf_blk _ b_Tf_component_5 rfl ?_
  refine tf_cV (tf_gok _ _) (c_find_r l D q (d - 1) _ _ (by omega) h hn hj) 12 d_Tf_component_9 rfl lk_Tf_81 cw_Tf_find (by rfl) in_Tf_find se_Tf_find (by first | assumption | (simp only [List.mem_append, List.mem_singleton]; simp [*])) (by first | assumption | exact va_up_self _ _ _ | (refine tf_u (by first | assumption | (apply Ne.symm; assumption) | (intro hh; subst hh; contradiction) | exact tf_n1 (by assumption) (by assumption) | exact tf_n2 (by assumption) (by assumption)) ?_; first | assumption | exact va_up_self _ _ _ | (refine tf_u (by first | assumption | (apply Ne.symm; assumption) | (intro hh; subst hh; contradiction) | exact tf_n1 (by assumption) (by assumption) | exact tf_n2 (by assumption) (by assumption)) ?_; first | assumption | exact va_up_self _ _ _ | (refine tf_u (by first | assumption | (apply Ne.symm; assumption) | (intro hh; subst hh; contradiction) | exact tf_n1 (by assumption) (by assumption) | exact tf_n2 (by assumption) (by assumption)) ?_; first | assumption | exact va_up_self _ _ _ | (refine tf_u (by first | assumption | (apply Ne.symm; assumption) | (intro hh; subst hh; contradiction) | exact tf_n1 (by assumption) (by assumption) | exact tf_n2 (by assumption) (by assumption)) ?_; first | assumption | exact va_up_self _ _ _ | (refine tf_u (by first | assumption | (apply Ne.symm; assumption) | (intro hh; subst hh; contradiction) | exact tf_n1 (by assumption) (by assumption) | exact tf_n2 (by assumption) (by assumption)) ?_; first | assumption | exact va_up_self _ _ _)))))) (by rfl) (by rfl) (by omega) (by exact Nat.le_of_ble_eq_true rfl) rfl ?_
  rintro v9 L9 f9 ⟨rfl, rfl, rfl⟩
  refine tf_blk _ b_Tf_component_12 rfl ?_
  refine tf_ifnull_n 49 d_Tf_component_16 rfl ?_
  refine tf_less (kc2 := 0 + 1) (ks2 := 0 + 6) (by omega) (by omega) ?_
  exact tx_throw (tx := "no such glyphs, shift or turn") hl d_Tf_component_49 (tf_dec1 b_Tf_component_52) d_Tf_component_53 d_Tf_component_55 d_Tf_component_58 xa_93 w_521 w_15 w_522 w_578 (by decide) (by decide) (by omega) (by exact Nat.le_of_ble_eq_true rfl) (⟨rfl, rfl, rfl⟩)
theorem c_Tf_component_1 (hl : l.stackTraces = false) (hd : 7 ≤ d) {ad : Nat → Nat} {S : tc_S} {B : Nat → Prop} (h : tc_at q ad S B L f) (hn : S.n ≤ 40) {k : Int32} (hk : ∀ i, i < S.n → k ≠ nI i) (k2 x y t : Int32) : tx_C l (tf_H D q) d i_Tf_component [.ref (ad 0), .int k, .int k2, .int x, .int y, .int t] L f 1 6 (fun _ _ _ => False) (fun E2 L2 f2 => E2 = "java/lang/IllegalArgumentException" ∧ L2 = L ∧ f2 = f) := by
  by_cases h2 : ∃ j, j < S.n ∧ k2 = nI j
  · obtain ⟨j, hj, rfl⟩ := h2
    exact c_Tf_component_1b l D q d L f hl hd h hn hk hj x y t
  · exact c_Tf_component_1a l D q d L f hl hd h hn hk (fun j hj e => h2 ⟨j, hj, e⟩) x y t
set_option maxHeartbeats 4000000 in
set_option maxRecDepth 100000 in
theorem c_Tf_component_2 (hl : l.stackTraces = false) (hd : 7 ≤ d) {ad : Nat → Nat} {S : tc_S} {B : Nat → Prop} (h : tc_at q ad S B L f) (hn : S.n ≤ 40) {i : Nat} (hi : i < S.n) {k : Int32} (hk : ∀ i, i < S.n → k ≠ nI i) (x y t : Int32) : tx_C l (tf_H D q) d i_Tf_component [.ref (ad 0), .int (nI i), .int k, .int x, .int y, .int t] L f 1 6 (fun _ _ _ => False) (fun E2 L2 f2 => E2 = "java/lang/IllegalArgumentException" ∧ L2 = L ∧ f2 = f) := by
  obtain ⟨hx, fx⟩ := tc_c0 h
  
  refine tx_C.of (by decide) (Nat.le_of_ble_eq_true rfl) ?_
  refine tf_blk _ b_Tf_component_0 rfl ?_
  refine tf_cV (tf_gok _ _) (c_find_r l D q (d - 1) _ _ (by omega) h hn hi) 5 d_Tf_component_2 rfl lk_Tf_81 cw_Tf_find (by rfl) in_Tf_find se_Tf_find (by first | assumption | (simp only [List.mem_append, List.mem_singleton]; simp [*])) (by first | assumption | exact va_up_self _ _ _ | (refine tf_u (by first | assumption | (apply Ne.symm; assumption) | (intro hh; subst hh; contradiction) | exact tf_n1 (by assumption) (by assumption) | exact tf_n2 (by assumption) (by assumption)) ?_; first | assumption | exact va_up_self _ _ _ | (refine tf_u (by first | assumption | (apply Ne.symm; assumption) | (intro hh; subst hh; contradiction) | exact tf_n1 (by assumption) (by assumption) | exact tf_n2 (by assumption) (by assumption)) ?_; first | assumption | exact va_up_self _ _ _ | (refine tf_u (by first | assumption | (apply Ne.symm; assumption) | (intro hh; subst hh; contradiction) | exact tf_n1 (by assumption) (by assumption) | exact tf_n2 (by assumption) (by assumption)) ?_; first | assumption | exact va_up_self _ _ _ | (refine tf_u (by first | assumption | (apply Ne.symm; assumption) | (intro hh; subst hh; contradiction) | exact tf_n1 (by assumption) (by assumption) | exact tf_n2 (by assumption) (by assumption)) ?_; first | assumption | exact va_up_self _ _ _ | (refine tf_u (by first | assumption | (apply Ne.symm; assumption) | (intro hh; subst hh; contradiction) | exact tf_n1 (by assumption) (by assumption) | exact tf_n2 (by assumption) (by assumption)) ?_; first | assumption | exact va_up_self _ _ _)))))) (by rfl) (by rfl) (by omega) (by exact Nat.le_of_ble_eq_true rfl) rfl ?_
  rintro v2 L2 f2 ⟨rfl, rfl, rfl⟩
  refine tf_blk _ b_Tf_component_5 rfl ?_
  refine tf_cV (tf_gok _ _) (c_find_n l D q (d - 1) _ _ (by omega) h hn hk) 12 d_Tf_component_9 rfl lk_Tf_81 cw_Tf_find (by rfl) in_Tf_find se_Tf_find (by first | assumption | (simp only [List.mem_append, List.mem_singleton]; simp [*])) (by first | assumption | exact va_up_self _ _ _ | (refine tf_u (by first | assumption | (apply Ne.symm; assumption) | (intro hh; subst hh; contradiction) | exact tf_n1 (by assumption) (by assumption) | exact tf_n2 (by assumption) (by assumption)) ?_; first | assumption | exact va_up_self _ _ _ | (refine tf_u (by first | assumption | (apply Ne.symm; assumption) | (intro hh; subst hh; contradiction) | exact tf_n1 (by assumption) (by assumption) | exact tf_n2 (by assumption) (by assumption)) ?_; first | assumption | exact va_up_self _ _ _ | (refine tf_u (by first | assumption | (apply Ne.symm; assumption) | (intro hh; subst hh; contradiction) | exact tf_n1 (by assumption) (by assumption) | exact tf_n2 (by assumption) (by assumption)) ?_; first | assumption | exact va_up_self _ _ _ | (refine tf_u (by first | assumption | (apply Ne.symm; assumption) | (intro hh; subst hh; contradiction) | exact tf_n1 (by assumption) (by assumption) | exact tf_n2 (by assumption) (by assumption)) ?_; first | assumption | exact va_up_self _ _ _ | (refine tf_u (by first | assumption | (apply Ne.symm; assumption) | (intro hh; subst hh; contradiction) | exact tf_n1 (by assumption) (by assumption) | exact tf_n2 (by assumption) (by assumption)) ?_; first | assumption | exact va_up_self _ _ _)))))) (by rfl) (by rfl) (by omega) (by exact Nat.le_of_ble_eq_true rfl) rfl ?_
  rintro v9 L9 f9 ⟨rfl, rfl, rfl⟩
  refine tf_blk _ b_Tf_component_12 rfl ?_
  refine tf_ifnull_r 19 d_Tf_component_16 rfl ?_
  refine tf_blk _ b_Tf_component_19 rfl ?_
  refine tf_ifnull_n 49 d_Tf_component_21 rfl ?_
  refine tf_less (kc2 := 0 + 1) (ks2 := 0 + 6) (by omega) (by omega) ?_
  exact tx_throw (tx := "no such glyphs, shift or turn") hl d_Tf_component_49 (tf_dec1 b_Tf_component_52) d_Tf_component_53 d_Tf_component_55 d_Tf_component_58 xa_93 w_521 w_15 w_522 w_578 (by decide) (by decide) (by omega) (by exact Nat.le_of_ble_eq_true rfl) (⟨rfl, rfl, rfl⟩)
set_option maxHeartbeats 4000000 in
set_option maxRecDepth 100000 in
theorem c_Tf_component_e (hl : l.stackTraces = false) (hd : 7 ≤ d) {ad : Nat → Nat} {S : tc_S} {B : Nat → Prop} (h : tc_at q ad S B L f) (hn : S.n ≤ 40) {i : Nat} (hi : i < S.n) (x y t : Int32) : tx_C l (tf_H D q) d i_Tf_component [.ref (ad 0), .int (nI i), .int (nI i), .int x, .int y, .int t] L f 1 6 (fun _ _ _ => False) (fun E2 L2 f2 => E2 = "java/lang/IllegalArgumentException" ∧ L2 = L ∧ f2 = f) := by
  obtain ⟨hx, fx⟩ := tc_c0 h
  
  refine tx_C.of (by decide) (Nat.le_of_ble_eq_true rfl) ?_
  refine tf_blk _ b_Tf_component_0 rfl ?_
  refine tf_cV (tf_gok _ _) (c_find_r l D q (d - 1) _ _ (by omega) h hn hi) 5 d_Tf_component_2 rfl lk_Tf_81 cw_Tf_find (by rfl) in_Tf_find se_Tf_find (by first | assumption | (simp only [List.mem_append, List.mem_singleton]; simp [*])) (by first | assumption | exact va_up_self _ _ _ | (refine tf_u (by first | assumption | (apply Ne.symm; assumption) | (intro hh; subst hh; contradiction) | exact tf_n1 (by assumption) (by assumption) | exact tf_n2 (by assumption) (by assumption)) ?_; first | assumption | exact va_up_self _ _ _ | (refine tf_u (by first | assumption | (apply Ne.symm; assumption) | (intro hh; subst hh; contradiction) | exact tf_n1 (by assumption) (by assumption) | exact tf_n2 (by assumption) (by assumption)) ?_; first | assumption | exact va_up_self _ _ _ | (refine tf_u (by first | assumption | (apply Ne.symm; assumption) | (intro hh; subst hh; contradiction) | exact tf_n1 (by assumption) (by assumption) | exact tf_n2 (by assumption) (by assumption)) ?_; first | assumption | exact va_up_self _ _ _ | (refine tf_u (by first | assumption | (apply Ne.symm; assumption) | (intro hh; subst hh; contradiction) | exact tf_n1 (by assumption) (by assumption) | exact tf_n2 (by assumption) (by assumption)) ?_; first | assumption | exact va_up_self _ _ _ | (refine tf_u (by first | assumption | (apply Ne.symm; assumption) | (intro hh; subst hh; contradiction) | exact tf_n1 (by assumption) (by assumption) | exact tf_n2 (by assumption) (by assumption)) ?_; first | assumption | exact va_up_self _ _ _)))))) (by rfl) (by rfl) (by omega) (by exact Nat.le_of_ble_eq_true rfl) rfl ?_
  rintro v2 L2 f2 ⟨rfl, rfl, rfl⟩
  refine tf_blk _ b_Tf_component_5 rfl ?_
  refine tf_cV (tf_gok _ _) (c_find_r l D q (d - 1) _ _ (by omega) h hn hi) 12 d_Tf_component_9 rfl lk_Tf_81 cw_Tf_find (by rfl) in_Tf_find se_Tf_find (by first | assumption | (simp only [List.mem_append, List.mem_singleton]; simp [*])) (by first | assumption | exact va_up_self _ _ _ | (refine tf_u (by first | assumption | (apply Ne.symm; assumption) | (intro hh; subst hh; contradiction) | exact tf_n1 (by assumption) (by assumption) | exact tf_n2 (by assumption) (by assumption)) ?_; first | assumption | exact va_up_self _ _ _ | (refine tf_u (by first | assumption | (apply Ne.symm; assumption) | (intro hh; subst hh; contradiction) | exact tf_n1 (by assumption) (by assumption) | exact tf_n2 (by assumption) (by assumption)) ?_; first | assumption | exact va_up_self _ _ _ | (refine tf_u (by first | assumption | (apply Ne.symm; assumption) | (intro hh; subst hh; contradiction) | exact tf_n1 (by assumption) (by assumption) | exact tf_n2 (by assumption) (by assumption)) ?_; first | assumption | exact va_up_self _ _ _ | (refine tf_u (by first | assumption | (apply Ne.symm; assumption) | (intro hh; subst hh; contradiction) | exact tf_n1 (by assumption) (by assumption) | exact tf_n2 (by assumption) (by assumption)) ?_; first | assumption | exact va_up_self _ _ _ | (refine tf_u (by first | assumption | (apply Ne.symm; assumption) | (intro hh; subst hh; contradiction) | exact tf_n1 (by assumption) (by assumption) | exact tf_n2 (by assumption) (by assumption)) ?_; first | assumption | exact va_up_self _ _ _)))))) (by rfl) (by rfl) (by omega) (by exact Nat.le_of_ble_eq_true rfl) rfl ?_
  rintro v9 L9 f9 ⟨rfl, rfl, rfl⟩
  refine tf_blk _ b_Tf_component_12 rfl ?_
  refine tf_ifnull_r 19 d_Tf_component_16 rfl ?_
  refine tf_blk _ b_Tf_component_19 rfl ?_
  refine tf_ifnull_r 24 d_Tf_component_21 rfl ?_
  refine tf_blk _ b_Tf_component_24 rfl ?_
  refine tf_ic_eq 49 29 d_Tf_component_26 rfl rfl (fun h26 => ?_) (fun h26 => absurd (rfl) h26)
  refine tf_less (kc2 := 0 + 1) (ks2 := 0 + 6) (by omega) (by omega) ?_
  exact tx_throw (tx := "no such glyphs, shift or turn") hl d_Tf_component_49 (tf_dec1 b_Tf_component_52) d_Tf_component_53 d_Tf_component_55 d_Tf_component_58 xa_93 w_521 w_15 w_522 w_578 (by decide) (by decide) (by omega) (by exact Nat.le_of_ble_eq_true rfl) (⟨rfl, rfl, rfl⟩)
set_option maxHeartbeats 4000000 in
set_option maxRecDepth 100000 in
theorem c_Tf_component_s (hl : l.stackTraces = false) (hd : 7 ≤ d) {ad : Nat → Nat} {S : tc_S} {B : Nat → Prop} (h : tc_at q ad S B L f) (hn : S.n ≤ 40) {i : Nat} (hi : i < S.n) {j : Nat} (hj : j < S.n) (hij : i ≠ j) (x y t : Int32) (hs : tw_isShift x y = false) : tx_C l (tf_H D q) d i_Tf_component [.ref (ad 0), .int (nI i), .int (nI j), .int x, .int y, .int t] L f 1 6 (fun _ _ _ => False) (fun E2 L2 f2 => E2 = "java/lang/IllegalArgumentException" ∧ L2 = L ∧ f2 = f) := by
  obtain ⟨hx, fx⟩ := tc_c0 h
  have hne : ¬ nI i = nI j := fun z => hij (by have := congrArg Int32.toNatClampNeg z; rw [nI_clamp (by omega), nI_clamp (by omega)] at this; exact this)
  refine tx_C.of (by decide) (Nat.le_of_ble_eq_true rfl) ?_
  refine tf_blk _ b_Tf_component_0 rfl ?_
  refine tf_cV (tf_gok _ _) (c_find_r l D q (d - 1) _ _ (by omega) h hn hi) 5 d_Tf_component_2 rfl lk_Tf_81 cw_Tf_find (by rfl) in_Tf_find se_Tf_find (by first | assumption | (simp only [List.mem_append, List.mem_singleton]; simp [*])) (by first | assumption | exact va_up_self _ _ _ | (refine tf_u (by first | assumption | (apply Ne.symm; assumption) | (intro hh; subst hh; contradiction) | exact tf_n1 (by assumption) (by assumption) | exact tf_n2 (by assumption) (by assumption)) ?_; first | assumption | exact va_up_self _ _ _ | (refine tf_u (by first | assumption | (apply Ne.symm; assumption) | (intro hh; subst hh; contradiction) | exact tf_n1 (by assumption) (by assumption) | exact tf_n2 (by assumption) (by assumption)) ?_; first | assumption | exact va_up_self _ _ _ | (refine tf_u (by first | assumption | (apply Ne.symm; assumption) | (intro hh; subst hh; contradiction) | exact tf_n1 (by assumption) (by assumption) | exact tf_n2 (by assumption) (by assumption)) ?_; first | assumption | exact va_up_self _ _ _ | (refine tf_u (by first | assumption | (apply Ne.symm; assumption) | (intro hh; subst hh; contradiction) | exact tf_n1 (by assumption) (by assumption) | exact tf_n2 (by assumption) (by assumption)) ?_; first | assumption | exact va_up_self _ _ _ | (refine tf_u (by first | assumption | (apply Ne.symm; assumption) | (intro hh; subst hh; contradiction) | exact tf_n1 (by assumption) (by assumption) | exact tf_n2 (by assumption) (by assumption)) ?_; first | assumption | exact va_up_self _ _ _)))))) (by rfl) (by rfl) (by omega) (by exact Nat.le_of_ble_eq_true rfl) rfl ?_
  rintro v2 L2 f2 ⟨rfl, rfl, rfl⟩
  refine tf_blk _ b_Tf_component_5 rfl ?_
  refine tf_cV (tf_gok _ _) (c_find_r l D q (d - 1) _ _ (by omega) h hn hj) 12 d_Tf_component_9 rfl lk_Tf_81 cw_Tf_find (by rfl) in_Tf_find se_Tf_find (by first | assumption | (simp only [List.mem_append, List.mem_singleton]; simp [*])) (by first | assumption | exact va_up_self _ _ _ | (refine tf_u (by first | assumption | (apply Ne.symm; assumption) | (intro hh; subst hh; contradiction) | exact tf_n1 (by assumption) (by assumption) | exact tf_n2 (by assumption) (by assumption)) ?_; first | assumption | exact va_up_self _ _ _ | (refine tf_u (by first | assumption | (apply Ne.symm; assumption) | (intro hh; subst hh; contradiction) | exact tf_n1 (by assumption) (by assumption) | exact tf_n2 (by assumption) (by assumption)) ?_; first | assumption | exact va_up_self _ _ _ | (refine tf_u (by first | assumption | (apply Ne.symm; assumption) | (intro hh; subst hh; contradiction) | exact tf_n1 (by assumption) (by assumption) | exact tf_n2 (by assumption) (by assumption)) ?_; first | assumption | exact va_up_self _ _ _ | (refine tf_u (by first | assumption | (apply Ne.symm; assumption) | (intro hh; subst hh; contradiction) | exact tf_n1 (by assumption) (by assumption) | exact tf_n2 (by assumption) (by assumption)) ?_; first | assumption | exact va_up_self _ _ _ | (refine tf_u (by first | assumption | (apply Ne.symm; assumption) | (intro hh; subst hh; contradiction) | exact tf_n1 (by assumption) (by assumption) | exact tf_n2 (by assumption) (by assumption)) ?_; first | assumption | exact va_up_self _ _ _)))))) (by rfl) (by rfl) (by omega) (by exact Nat.le_of_ble_eq_true rfl) rfl ?_
  rintro v9 L9 f9 ⟨rfl, rfl, rfl⟩
  refine tf_blk _ b_Tf_component_12 rfl ?_
  refine tf_ifnull_r 19 d_Tf_component_16 rfl ?_
  refine tf_blk _ b_Tf_component_19 rfl ?_
  refine tf_ifnull_r 24 d_Tf_component_21 rfl ?_
  refine tf_blk _ b_Tf_component_24 rfl ?_
  refine tf_ic_eq 49 29 d_Tf_component_26 rfl rfl (fun h26 => absurd h26 (hne)) (fun h26 => ?_)
  refine tf_blk _ b_Tf_component_29 rfl ?_
  refine tf_cS (tf_gok _ _) (c_Tf_isShift l D q (d - 1) _ _ (by omega) _ _) 35 d_Tf_component_32 rfl lk_Tf_130 cw_Tf_isShift (by rfl) sa_Tf_isShift (by omega) (by exact Nat.le_of_ble_eq_true rfl) rfl ?_
  rintro v32 L32 f32 ⟨rfl, rfl, rfl⟩
  refine tf_if_eq 49 38 d_Tf_component_35 rfl rfl (fun h35 => ?_) (fun h35 => absurd (by rw [hs]; rfl) h35)
  refine tf_less (kc2 := 0 + 1) (ks2 := 0 + 6) (by omega) (by omega) ?_
  exact tx_throw (tx := "no such glyphs, shift or turn") hl d_Tf_component_49 (tf_dec1 b_Tf_component_52) d_Tf_component_53 d_Tf_component_55 d_Tf_component_58 xa_93 w_521 w_15 w_522 w_578 (by decide) (by decide) (by omega) (by exact Nat.le_of_ble_eq_true rfl) (⟨rfl, rfl, rfl⟩)
set_option maxHeartbeats 4000000 in
set_option maxRecDepth 100000 in
theorem c_Tf_component_u (hl : l.stackTraces = false) (hd : 7 ≤ d) {ad : Nat → Nat} {S : tc_S} {B : Nat → Prop} (h : tc_at q ad S B L f) (hn : S.n ≤ 40) {i : Nat} (hi : i < S.n) {j : Nat} (hj : j < S.n) (hij : i ≠ j) (x y t : Int32) (hs : tw_isShift x y = true) (ht : tw_in t (kI 0) (kI 7) = false) : tx_C l (tf_H D q) d i_Tf_component [.ref (ad 0), .int (nI i), .int (nI j), .int x, .int y, .int t] L f 1 6 (fun _ _ _ => False) (fun E2 L2 f2 => E2 = "java/lang/IllegalArgumentException" ∧ L2 = L ∧ f2 = f) := by
  obtain ⟨hx, fx⟩ := tc_c0 h
  have hne : ¬ nI i = nI j := fun z => hij (by have := congrArg Int32.toNatClampNeg z; rw [nI_clamp (by omega), nI_clamp (by omega)] at this; exact this)
  refine tx_C.of (by decide) (Nat.le_of_ble_eq_true rfl) ?_
  refine tf_blk _ b_Tf_component_0 rfl ?_
  refine tf_cV (tf_gok _ _) (c_find_r l D q (d - 1) _ _ (by omega) h hn hi) 5 d_Tf_component_2 rfl lk_Tf_81 cw_Tf_find (by rfl) in_Tf_find se_Tf_find (by first | assumption | (simp only [List.mem_append, List.mem_singleton]; simp [*])) (by first | assumption | exact va_up_self _ _ _ | (refine tf_u (by first | assumption | (apply Ne.symm; assumption) | (intro hh; subst hh; contradiction) | exact tf_n1 (by assumption) (by assumption) | exact tf_n2 (by assumption) (by assumption)) ?_; first | assumption | exact va_up_self _ _ _ | (refine tf_u (by first | assumption | (apply Ne.symm; assumption) | (intro hh; subst hh; contradiction) | exact tf_n1 (by assumption) (by assumption) | exact tf_n2 (by assumption) (by assumption)) ?_; first | assumption | exact va_up_self _ _ _ | (refine tf_u (by first | assumption | (apply Ne.symm; assumption) | (intro hh; subst hh; contradiction) | exact tf_n1 (by assumption) (by assumption) | exact tf_n2 (by assumption) (by assumption)) ?_; first | assumption | exact va_up_self _ _ _ | (refine tf_u (by first | assumption | (apply Ne.symm; assumption) | (intro hh; subst hh; contradiction) | exact tf_n1 (by assumption) (by assumption) | exact tf_n2 (by assumption) (by assumption)) ?_; first | assumption | exact va_up_self _ _ _ | (refine tf_u (by first | assumption | (apply Ne.symm; assumption) | (intro hh; subst hh; contradiction) | exact tf_n1 (by assumption) (by assumption) | exact tf_n2 (by assumption) (by assumption)) ?_; first | assumption | exact va_up_self _ _ _)))))) (by rfl) (by rfl) (by omega) (by exact Nat.le_of_ble_eq_true rfl) rfl ?_
  rintro v2 L2 f2 ⟨rfl, rfl, rfl⟩
  refine tf_blk _ b_Tf_component_5 rfl ?_
  refine tf_cV (tf_gok _ _) (c_find_r l D q (d - 1) _ _ (by omega) h hn hj) 12 d_Tf_component_9 rfl lk_Tf_81 cw_Tf_find (by rfl) in_Tf_find se_Tf_find (by first | assumption | (simp only [List.mem_append, List.mem_singleton]; simp [*])) (by first | assumption | exact va_up_self _ _ _ | (refine tf_u (by first | assumption | (apply Ne.symm; assumption) | (intro hh; subst hh; contradiction) | exact tf_n1 (by assumption) (by assumption) | exact tf_n2 (by assumption) (by assumption)) ?_; first | assumption | exact va_up_self _ _ _ | (refine tf_u (by first | assumption | (apply Ne.symm; assumption) | (intro hh; subst hh; contradiction) | exact tf_n1 (by assumption) (by assumption) | exact tf_n2 (by assumption) (by assumption)) ?_; first | assumption | exact va_up_self _ _ _ | (refine tf_u (by first | assumption | (apply Ne.symm; assumption) | (intro hh; subst hh; contradiction) | exact tf_n1 (by assumption) (by assumption) | exact tf_n2 (by assumption) (by assumption)) ?_; first | assumption | exact va_up_self _ _ _ | (refine tf_u (by first | assumption | (apply Ne.symm; assumption) | (intro hh; subst hh; contradiction) | exact tf_n1 (by assumption) (by assumption) | exact tf_n2 (by assumption) (by assumption)) ?_; first | assumption | exact va_up_self _ _ _ | (refine tf_u (by first | assumption | (apply Ne.symm; assumption) | (intro hh; subst hh; contradiction) | exact tf_n1 (by assumption) (by assumption) | exact tf_n2 (by assumption) (by assumption)) ?_; first | assumption | exact va_up_self _ _ _)))))) (by rfl) (by rfl) (by omega) (by exact Nat.le_of_ble_eq_true rfl) rfl ?_
  rintro v9 L9 f9 ⟨rfl, rfl, rfl⟩
  refine tf_blk _ b_Tf_component_12 rfl ?_
  refine tf_ifnull_r 19 d_Tf_component_16 rfl ?_
  refine tf_blk _ b_Tf_component_19 rfl ?_
  refine tf_ifnull_r 24 d_Tf_component_21 rfl ?_
  refine tf_blk _ b_Tf_component_24 rfl ?_
  refine tf_ic_eq 49 29 d_Tf_component_26 rfl rfl (fun h26 => absurd h26 (hne)) (fun h26 => ?_)
  refine tf_blk _ b_Tf_component_29 rfl ?_
  refine tf_cS (tf_gok _ _) (c_Tf_isShift l D q (d - 1) _ _ (by omega) _ _) 35 d_Tf_component_32 rfl lk_Tf_130 cw_Tf_isShift (by rfl) sa_Tf_isShift (by omega) (by exact Nat.le_of_ble_eq_true rfl) rfl ?_
  rintro v32 L32 f32 ⟨rfl, rfl, rfl⟩
  refine tf_if_eq 49 38 d_Tf_component_35 rfl rfl (fun h35 => absurd h35 ((by rw [hs]; decide))) (fun h35 => ?_)
  refine tf_blk _ b_Tf_component_38 rfl ?_
  refine tf_cS (tf_gok _ _) (c_Tf_within l D q (d - 1) _ _ _ _ _) 46 d_Tf_component_43 rfl lk_Tf_111 cw_Tf_within (by rfl) sa_Tf_within (by omega) (by exact Nat.le_of_ble_eq_true rfl) rfl ?_
  rintro v43 L43 f43 ⟨rfl, rfl, rfl⟩
  refine tf_if_ne 59 49 d_Tf_component_46 rfl rfl (fun h46 => absurd h46 ((not_not_intro (by rw [ht]; rfl)))) (fun h46 => ?_)
  refine tf_less (kc2 := 0 + 1) (ks2 := 0 + 6) (by omega) (by omega) ?_
  exact tx_throw (tx := "no such glyphs, shift or turn") hl d_Tf_component_49 (tf_dec1 b_Tf_component_52) d_Tf_component_53 d_Tf_component_55 d_Tf_component_58 xa_93 w_521 w_15 w_522 w_578 (by decide) (by decide) (by omega) (by exact Nat.le_of_ble_eq_true rfl) (⟨rfl, rfl, rfl⟩)
end
def tc_roomB (G H : tc_G) : Bool := decide (bI G.lk = 0) && (decide (nI G.pc < kI 4) && (decide (nI H.dp < kI 4) && decide (nI G.pp + (nI H.cp + nI H.pp) ≤ kI 120)))
section
variable (l : Launch) (D : va_G) (q : Nat → ClassId) (d : Nat) (L : List Nat) (f : tf_F)
set_option maxHeartbeats 4000000 in
set_option maxRecDepth 100000 in
theorem c_Tf_component_r (hl : l.stackTraces = false) (hd : 7 ≤ d) {ad : Nat → Nat} {S : tc_S} {B : Nat → Prop} (h : tc_at q ad S B L f) (hn : S.n ≤ 40) {i : Nat} (hi : i < S.n) {j : Nat} (hj : j < S.n) (hij : i ≠ j) (x y t : Int32) (hs : tw_isShift x y = true) (ht : tw_in t (kI 0) (kI 7) = true) (hr : tc_roomB (S.T i) (S.T j) = false) : tx_C l (tf_H D q) d i_Tf_component [.ref (ad 0), .int (nI i), .int (nI j), .int x, .int y, .int t] L f 1 6 (fun _ _ _ => False) (fun E2 L2 f2 => E2 = "java/lang/IllegalStateException" ∧ L2 = L ∧ f2 = f) := by
  obtain ⟨hx, fx⟩ := tc_c0 h
  have hne : ¬ nI i = nI j := fun z => hij (by have := congrArg Int32.toNatClampNeg z; rw [nI_clamp (by omega), nI_clamp (by omega)] at this; exact this)
  obtain ⟨hg, fg⟩ := tc_g0 h hi
  obtain ⟨hg2, fg2⟩ := tc_g0 h hj
  refine tx_C.of (by decide) (Nat.le_of_ble_eq_true rfl) ?_
  refine tf_blk _ b_Tf_component_0 rfl ?_
  refine tf_cV (tf_gok _ _) (c_find_r l D q (d - 1) _ _ (by omega) h hn hi) 5 d_Tf_component_2 rfl lk_Tf_81 cw_Tf_find (by rfl) in_Tf_find se_Tf_find (by first | assumption | (simp only [List.mem_append, List.mem_singleton]; simp [*])) (by first | assumption | exact va_up_self _ _ _ | (refine tf_u (by first | assumption | (apply Ne.symm; assumption) | (intro hh; subst hh; contradiction) | exact tf_n1 (by assumption) (by assumption) | exact tf_n2 (by assumption) (by assumption)) ?_; first | assumption | exact va_up_self _ _ _ | (refine tf_u (by first | assumption | (apply Ne.symm; assumption) | (intro hh; subst hh; contradiction) | exact tf_n1 (by assumption) (by assumption) | exact tf_n2 (by assumption) (by assumption)) ?_; first | assumption | exact va_up_self _ _ _ | (refine tf_u (by first | assumption | (apply Ne.symm; assumption) | (intro hh; subst hh; contradiction) | exact tf_n1 (by assumption) (by assumption) | exact tf_n2 (by assumption) (by assumption)) ?_; first | assumption | exact va_up_self _ _ _ | (refine tf_u (by first | assumption | (apply Ne.symm; assumption) | (intro hh; subst hh; contradiction) | exact tf_n1 (by assumption) (by assumption) | exact tf_n2 (by assumption) (by assumption)) ?_; first | assumption | exact va_up_self _ _ _ | (refine tf_u (by first | assumption | (apply Ne.symm; assumption) | (intro hh; subst hh; contradiction) | exact tf_n1 (by assumption) (by assumption) | exact tf_n2 (by assumption) (by assumption)) ?_; first | assumption | exact va_up_self _ _ _)))))) (by rfl) (by rfl) (by omega) (by exact Nat.le_of_ble_eq_true rfl) rfl ?_
  rintro v2 L2 f2 ⟨rfl, rfl, rfl⟩
  refine tf_blk _ b_Tf_component_5 rfl ?_
  refine tf_cV (tf_gok _ _) (c_find_r l D q (d - 1) _ _ (by omega) h hn hj) 12 d_Tf_component_9 rfl lk_Tf_81 cw_Tf_find (by rfl) in_Tf_find se_Tf_find (by first | assumption | (simp only [List.mem_append, List.mem_singleton]; simp [*])) (by first | assumption | exact va_up_self _ _ _ | (refine tf_u (by first | assumption | (apply Ne.symm; assumption) | (intro hh; subst hh; contradiction) | exact tf_n1 (by assumption) (by assumption) | exact tf_n2 (by assumption) (by assumption)) ?_; first | assumption | exact va_up_self _ _ _ | (refine tf_u (by first | assumption | (apply Ne.symm; assumption) | (intro hh; subst hh; contradiction) | exact tf_n1 (by assumption) (by assumption) | exact tf_n2 (by assumption) (by assumption)) ?_; first | assumption | exact va_up_self _ _ _ | (refine tf_u (by first | assumption | (apply Ne.symm; assumption) | (intro hh; subst hh; contradiction) | exact tf_n1 (by assumption) (by assumption) | exact tf_n2 (by assumption) (by assumption)) ?_; first | assumption | exact va_up_self _ _ _ | (refine tf_u (by first | assumption | (apply Ne.symm; assumption) | (intro hh; subst hh; contradiction) | exact tf_n1 (by assumption) (by assumption) | exact tf_n2 (by assumption) (by assumption)) ?_; first | assumption | exact va_up_self _ _ _ | (refine tf_u (by first | assumption | (apply Ne.symm; assumption) | (intro hh; subst hh; contradiction) | exact tf_n1 (by assumption) (by assumption) | exact tf_n2 (by assumption) (by assumption)) ?_; first | assumption | exact va_up_self _ _ _)))))) (by rfl) (by rfl) (by omega) (by exact Nat.le_of_ble_eq_true rfl) rfl ?_
  rintro v9 L9 f9 ⟨rfl, rfl, rfl⟩
  refine tf_blk _ b_Tf_component_12 rfl ?_
  refine tf_ifnull_r 19 d_Tf_component_16 rfl ?_
  refine tf_blk _ b_Tf_component_19 rfl ?_
  refine tf_ifnull_r 24 d_Tf_component_21 rfl ?_
  refine tf_blk _ b_Tf_component_24 rfl ?_
  refine tf_ic_eq 49 29 d_Tf_component_26 rfl rfl (fun h26 => absurd h26 (hne)) (fun h26 => ?_)
  refine tf_blk _ b_Tf_component_29 rfl ?_
  refine tf_cS (tf_gok _ _) (c_Tf_isShift l D q (d - 1) _ _ (by omega) _ _) 35 d_Tf_component_32 rfl lk_Tf_130 cw_Tf_isShift (by rfl) sa_Tf_isShift (by omega) (by exact Nat.le_of_ble_eq_true rfl) rfl ?_
  rintro v32 L32 f32 ⟨rfl, rfl, rfl⟩
  refine tf_if_eq 49 38 d_Tf_component_35 rfl rfl (fun h35 => absurd h35 ((by rw [hs]; decide))) (fun h35 => ?_)
  refine tf_blk _ b_Tf_component_38 rfl ?_
  refine tf_cS (tf_gok _ _) (c_Tf_within l D q (d - 1) _ _ _ _ _) 46 d_Tf_component_43 rfl lk_Tf_111 cw_Tf_within (by rfl) sa_Tf_within (by omega) (by exact Nat.le_of_ble_eq_true rfl) rfl ?_
  rintro v43 L43 f43 ⟨rfl, rfl, rfl⟩
  refine tf_if_ne 59 49 d_Tf_component_46 rfl rfl (fun h46 => ?_) (fun h46 => absurd h46 ((by rw [ht]; decide)))
  refine tf_blk _ b_Tf_component_59 rfl ?_
  refine tf_cV (tf_gok _ _) (c_Glyph_hasRoomFor l D q (d - 1) _ _ (by omega) hg fg hg2 fg2) 66 d_Tf_component_63 rfl lk_Tf_135 cw_Glyph_hasRoomFor (by rfl) in_Glyph_hasRoomFor se_Glyph_hasRoomFor (by first | assumption | (simp only [List.mem_append, List.mem_singleton]; simp [*])) (by first | assumption | exact va_up_self _ _ _ | (refine tf_u (by first | assumption | (apply Ne.symm; assumption) | (intro hh; subst hh; contradiction) | exact tf_n1 (by assumption) (by assumption) | exact tf_n2 (by assumption) (by assumption)) ?_; first | assumption | exact va_up_self _ _ _ | (refine tf_u (by first | assumption | (apply Ne.symm; assumption) | (intro hh; subst hh; contradiction) | exact tf_n1 (by assumption) (by assumption) | exact tf_n2 (by assumption) (by assumption)) ?_; first | assumption | exact va_up_self _ _ _ | (refine tf_u (by first | assumption | (apply Ne.symm; assumption) | (intro hh; subst hh; contradiction) | exact tf_n1 (by assumption) (by assumption) | exact tf_n2 (by assumption) (by assumption)) ?_; first | assumption | exact va_up_self _ _ _ | (refine tf_u (by first | assumption | (apply Ne.symm; assumption) | (intro hh; subst hh; contradiction) | exact tf_n1 (by assumption) (by assumption) | exact tf_n2 (by assumption) (by assumption)) ?_; first | assumption | exact va_up_self _ _ _ | (refine tf_u (by first | assumption | (apply Ne.symm; assumption) | (intro hh; subst hh; contradiction) | exact tf_n1 (by assumption) (by assumption) | exact tf_n2 (by assumption) (by assumption)) ?_; first | assumption | exact va_up_self _ _ _)))))) (by rfl) (by rfl) (by omega) (by exact Nat.le_of_ble_eq_true rfl) rfl ?_
  rintro v63 L63 f63 ⟨rfl, rfl, rfl⟩
  refine tf_if_ne 79 69 d_Tf_component_66 rfl rfl (fun h66 => absurd h66 (show ¬ ¬ bI (tc_roomB (S.T i) (S.T j)) = 0 from not_not_intro (by rw [hr]; rfl))) (fun h66 => ?_)
  refine tf_less (kc2 := 0 + 1) (ks2 := 0 + 6) (by omega) (by omega) ?_
  exact tx_throw (tx := "the glyph is locked, full or too deep") hl d_Tf_component_69 (tf_dec1 b_Tf_component_72) d_Tf_component_73 d_Tf_component_75 d_Tf_component_78 xa_74 w_378 w_13 w_379 w_578 (by decide) (by decide) (by omega) (by exact Nat.le_of_ble_eq_true rfl) (⟨rfl, rfl, rfl⟩)
end
/-- rule's rows are made of the glyphs that are there -/
def tc_made (be ip af : Int64) (ou : Int32) (S : tc_S) : Bool := decide (0 < nI (tw_len ip 4 0)) && (tw_isOf (nI S.n) be (tw_len be 2 0) 0 && (tw_isOf (nI S.n) ip (tw_len ip 4 0) 0 && (tw_isOf (nI S.n) af (tw_len af 2 0) 0 && tw_in ou (kI 0) (nI S.n - kI 1))))
section
variable (l : Launch) (D : va_G) (q : Nat → ClassId) (d : Nat) (L : List Nat) (f : tf_F)
set_option maxHeartbeats 4000000 in
set_option maxRecDepth 100000 in
theorem c_Tf_rule_l (hl : l.stackTraces = false) (hd : 7 ≤ d) {ad : Nat → Nat} {S : tc_S} {B : Nat → Prop} (h : tc_at q ad S B L f) (lo ou : Int32) (be ip af : Int64) (hlo : tw_in lo (kI 0) (kI 7) = false) : tx_C l (tf_H D q) d i_Tf_rule [.ref (ad 0), .int lo, .long be, .long ip, .long af, .int ou] L f 2 14 (fun _ _ _ => False) (fun E2 L2 f2 => E2 = "java/lang/IllegalArgumentException" ∧ (∀ z ∈ L, z ∈ L2) ∧ ∀ z ∈ L, f2 z = f z) := by
  obtain ⟨hx, fx⟩ := tc_c0 h
  
  refine tx_C.of (by decide) (Nat.le_of_ble_eq_true rfl) ?_
  refine tf_new (N := 8) 3 d_Tf_rule_0 rfl nl_Tf_221 (fun a ha => ?_)
  refine tf_blk _ b_Tf_rule_3 rfl ?_
  refine tf_cI (tf_gok _ _) (c_Rule_init l D q (d - 1) _ _ (by omega) lo ou be ip af (List.mem_append_right _ (List.mem_singleton.mpr rfl)) (va_up_self _ _ _)) 15 d_Tf_rule_12 rfl lk_Tf_223 cw_Rule_init (by rfl) in_Rule_init rfl (by omega) (by exact Nat.le_of_ble_eq_true rfl) rfl ?_
  rintro v12 L12 f12 ⟨rfl, rfl, rfl⟩
  have ma : a ∈ L ++ [a] := List.mem_append_right _ (List.mem_singleton.mpr rfl)
  have mx : ad 0 ∈ L ++ [a] := List.mem_append_left _ hx
  have hxa : ad 0 ≠ a := fun e9 => ha (e9 ▸ hx)
  have fx2 := (va_up_ne (va_up f a (to 9 [.int 0, .int 0, .int 0, .long 0, .long 0, .long 0, .int 0, .int 0])) (to 9 [.int lo, .int (nI (tw_len ip 4 0)), .int ou, .long be, .long ip, .long af, .int (nI (tw_len be 2 0)), .int (nI (tw_len af 2 0))]) hxa).trans ((va_up_ne f _ hxa).trans fx)
  have fa2 := va_up_self (va_up f a (to 9 [.int 0, .int 0, .int 0, .long 0, .long 0, .long 0, .int 0, .int 0])) a (to 9 [.int lo, .int (nI (tw_len ip 4 0)), .int ou, .long be, .long ip, .long af, .int (nI (tw_len be 2 0)), .int (nI (tw_len af 2 0))])
  refine tf_blk _ b_Tf_rule_15 rfl ?_
  refine tf_cS (tf_gok _ _) (c_Tf_within l D q (d - 1) _ _ _ _ _) 24 d_Tf_rule_21 rfl lk_Tf_111 cw_Tf_within (by rfl) sa_Tf_within (by omega) (by exact Nat.le_of_ble_eq_true rfl) rfl ?_
  rintro v21 L21 f21 ⟨rfl, rfl, rfl⟩
  refine tf_if_eq 39 27 d_Tf_rule_24 rfl rfl (fun h24 => ?_) (fun h24 => absurd (by rw [hlo]; rfl) h24)
  refine tf_less (kc2 := 0 + 1) (ks2 := 0 + 6) (by omega) (by omega) ?_
  exact tx_throw (tx := "no such lookup or glyphs") hl d_Tf_rule_39 (tf_dec1 b_Tf_rule_42) d_Tf_rule_43 d_Tf_rule_45 d_Tf_rule_48 xa_93 w_521 w_15 w_522 w_1049 (by decide) (by decide) (by omega) (by exact Nat.le_of_ble_eq_true rfl) (⟨rfl, fun z hz => List.mem_append_left _ hz, fun z hz => (va_up_ne _ _ (fun e9 => ha (by rw [← e9]; exact hz))).trans (va_up_ne _ _ (fun e9 => ha (by rw [← e9]; exact hz)))⟩)
set_option maxHeartbeats 4000000 in
set_option maxRecDepth 100000 in
theorem c_Tf_rule_m (hl : l.stackTraces = false) (hd : 7 ≤ d) {ad : Nat → Nat} {S : tc_S} {B : Nat → Prop} (h : tc_at q ad S B L f) (lo ou : Int32) (be ip af : Int64) (hlo : tw_in lo (kI 0) (kI 7) = true) (hm : tc_made be ip af ou S = false) : tx_C l (tf_H D q) d i_Tf_rule [.ref (ad 0), .int lo, .long be, .long ip, .long af, .int ou] L f 2 14 (fun _ _ _ => False) (fun E2 L2 f2 => E2 = "java/lang/IllegalArgumentException" ∧ (∀ z ∈ L, z ∈ L2) ∧ ∀ z ∈ L, f2 z = f z) := by
  obtain ⟨hx, fx⟩ := tc_c0 h
  
  refine tx_C.of (by decide) (Nat.le_of_ble_eq_true rfl) ?_
  refine tf_new (N := 8) 3 d_Tf_rule_0 rfl nl_Tf_221 (fun a ha => ?_)
  refine tf_blk _ b_Tf_rule_3 rfl ?_
  refine tf_cI (tf_gok _ _) (c_Rule_init l D q (d - 1) _ _ (by omega) lo ou be ip af (List.mem_append_right _ (List.mem_singleton.mpr rfl)) (va_up_self _ _ _)) 15 d_Tf_rule_12 rfl lk_Tf_223 cw_Rule_init (by rfl) in_Rule_init rfl (by omega) (by exact Nat.le_of_ble_eq_true rfl) rfl ?_
  rintro v12 L12 f12 ⟨rfl, rfl, rfl⟩
  have ma : a ∈ L ++ [a] := List.mem_append_right _ (List.mem_singleton.mpr rfl)
  have mx : ad 0 ∈ L ++ [a] := List.mem_append_left _ hx
  have hxa : ad 0 ≠ a := fun e9 => ha (e9 ▸ hx)
  have fx2 := (va_up_ne (va_up f a (to 9 [.int 0, .int 0, .int 0, .long 0, .long 0, .long 0, .int 0, .int 0])) (to 9 [.int lo, .int (nI (tw_len ip 4 0)), .int ou, .long be, .long ip, .long af, .int (nI (tw_len be 2 0)), .int (nI (tw_len af 2 0))]) hxa).trans ((va_up_ne f _ hxa).trans fx)
  have fa2 := va_up_self (va_up f a (to 9 [.int 0, .int 0, .int 0, .long 0, .long 0, .long 0, .int 0, .int 0])) a (to 9 [.int lo, .int (nI (tw_len ip 4 0)), .int ou, .long be, .long ip, .long af, .int (nI (tw_len be 2 0)), .int (nI (tw_len af 2 0))])
  refine tf_blk _ b_Tf_rule_15 rfl ?_
  refine tf_cS (tf_gok _ _) (c_Tf_within l D q (d - 1) _ _ _ _ _) 24 d_Tf_rule_21 rfl lk_Tf_111 cw_Tf_within (by rfl) sa_Tf_within (by omega) (by exact Nat.le_of_ble_eq_true rfl) rfl ?_
  rintro v21 L21 f21 ⟨rfl, rfl, rfl⟩
  refine tf_if_eq 39 27 d_Tf_rule_24 rfl rfl (fun h24 => absurd h24 ((by rw [hlo]; decide))) (fun h24 => ?_)
  refine tf_blk _ b_Tf_rule_27 rfl ?_
  refine tf_get (fs := ?fs_30_35) (v := ?v_30_35) 33 d_Tf_rule_30 rfl fl_Tf_66 ?ha_30_35 ?hf_30_35 ?hv_30_35 ?kk_30_35
  case ha_30_35 => exact mx
  case hf_30_35 => exact fx2
  case hv_30_35 => rfl
  refine tf_cV (tf_gok _ _) (c_Rule_isMadeOf l D q (d - 1) _ _ (by omega) ma fa2 (nI S.n) (Nat.le_trans (tw_len_le be 2 0).2 (by decide)) (Nat.le_trans (tw_len_le ip 4 0).2 (by decide)) (Nat.le_trans (tw_len_le af 2 0).2 (by decide))) 36 d_Tf_rule_33 rfl lk_Tf_226 cw_Rule_isMadeOf (by rfl) in_Rule_isMadeOf se_Rule_isMadeOf (by exact ma) (by exact fa2) (by rfl) (by rfl) (by omega) (by exact Nat.le_of_ble_eq_true rfl) rfl ?_
  rintro v33 L33 f33 ⟨rfl, rfl, rfl⟩
  refine tf_if_ne 49 39 d_Tf_rule_36 rfl rfl (fun h36 => absurd h36 (show ¬ ¬ bI (tc_made be ip af ou S) = 0 from not_not_intro (by rw [hm]; rfl))) (fun h36 => ?_)
  refine tf_less (kc2 := 0 + 1) (ks2 := 0 + 6) (by omega) (by omega) ?_
  exact tx_throw (tx := "no such lookup or glyphs") hl d_Tf_rule_39 (tf_dec1 b_Tf_rule_42) d_Tf_rule_43 d_Tf_rule_45 d_Tf_rule_48 xa_93 w_521 w_15 w_522 w_1049 (by decide) (by decide) (by omega) (by exact Nat.le_of_ble_eq_true rfl) (⟨rfl, fun z hz => List.mem_append_left _ hz, fun z hz => (va_up_ne _ _ (fun e9 => ha (by rw [← e9]; exact hz))).trans (va_up_ne _ _ (fun e9 => ha (by rw [← e9]; exact hz)))⟩)
set_option maxHeartbeats 4000000 in
set_option maxRecDepth 100000 in
theorem c_Tf_outline_n (hl : l.stackTraces = false) (hd : 7 ≤ d) {ad : Nat → Nat} {S : tc_S} {B : Nat → Prop} (h : tc_at q ad S B L f) (hn : S.n ≤ 40) {k : Int32} (hk : ∀ i, i < S.n → k ≠ nI i) (p w : Int32) : tx_C l (tf_H D q) d i_Tf_outline [.ref (ad 0), .int k, .int p, .int w] L f 1 6 (fun _ _ _ => False) (fun E2 L2 f2 => E2 = "java/lang/IndexOutOfBoundsException" ∧ L2 = L ∧ f2 = f) := by
  obtain ⟨hx, fx⟩ := tc_c0 h
  
  refine tx_C.of (by decide) (Nat.le_of_ble_eq_true rfl) ?_
  refine tf_blk _ b_Tf_outline_0 rfl ?_
  refine tf_cV (tf_gok _ _) (c_find_n l D q (d - 1) _ _ (by omega) h hn hk) 5 d_Tf_outline_2 rfl lk_Tf_81 cw_Tf_find (by rfl) in_Tf_find se_Tf_find (by first | assumption | (simp only [List.mem_append, List.mem_singleton]; simp [*])) (by first | assumption | exact va_up_self _ _ _ | (refine tf_u (by first | assumption | (apply Ne.symm; assumption) | (intro hh; subst hh; contradiction) | exact tf_n1 (by assumption) (by assumption) | exact tf_n2 (by assumption) (by assumption)) ?_; first | assumption | exact va_up_self _ _ _ | (refine tf_u (by first | assumption | (apply Ne.symm; assumption) | (intro hh; subst hh; contradiction) | exact tf_n1 (by assumption) (by assumption) | exact tf_n2 (by assumption) (by assumption)) ?_; first | assumption | exact va_up_self _ _ _ | (refine tf_u (by first | assumption | (apply Ne.symm; assumption) | (intro hh; subst hh; contradiction) | exact tf_n1 (by assumption) (by assumption) | exact tf_n2 (by assumption) (by assumption)) ?_; first | assumption | exact va_up_self _ _ _ | (refine tf_u (by first | assumption | (apply Ne.symm; assumption) | (intro hh; subst hh; contradiction) | exact tf_n1 (by assumption) (by assumption) | exact tf_n2 (by assumption) (by assumption)) ?_; first | assumption | exact va_up_self _ _ _ | (refine tf_u (by first | assumption | (apply Ne.symm; assumption) | (intro hh; subst hh; contradiction) | exact tf_n1 (by assumption) (by assumption) | exact tf_n2 (by assumption) (by assumption)) ?_; first | assumption | exact va_up_self _ _ _)))))) (by rfl) (by rfl) (by omega) (by exact Nat.le_of_ble_eq_true rfl) rfl ?_
  rintro v2 L2 f2 ⟨rfl, rfl, rfl⟩
  refine tf_blk _ b_Tf_outline_5 rfl ?_
  refine tf_ifnull_n 36 d_Tf_outline_9 rfl ?_
  refine tf_less (kc2 := 0 + 1) (ks2 := 0 + 6) (by omega) (by omega) ?_
  exact tx_throw (tx := "no such glyph, point or what") hl d_Tf_outline_36 (tf_dec1 b_Tf_outline_39) d_Tf_outline_40 d_Tf_outline_42 d_Tf_outline_45 xa_123 w_554 w_16 w_555 w_631 (by decide) (by decide) (by omega) (by exact Nat.le_of_ble_eq_true rfl) (⟨rfl, rfl, rfl⟩)
set_option maxHeartbeats 4000000 in
set_option maxRecDepth 100000 in
theorem c_Tf_draw_n (hl : l.stackTraces = false) (hd : 7 ≤ d) {ad : Nat → Nat} {S : tc_S} {B : Nat → Prop} (h : tc_at q ad S B L f) (hn : S.n ≤ 40) {k : Int32} (hk : ∀ i, i < S.n → k ≠ nI i) (s b : Int32) : tx_C l (tf_H D q) d i_Tf_draw [.ref (ad 0), .int k, .int s, .int b] L f 1 6 (fun _ _ _ => False) (fun E2 L2 f2 => E2 = "java/lang/IllegalArgumentException" ∧ L2 = L ∧ f2 = f) := by
  obtain ⟨hx, fx⟩ := tc_c0 h
  
  refine tx_C.of (by decide) (Nat.le_of_ble_eq_true rfl) ?_
  refine tf_blk _ b_Tf_draw_0 rfl ?_
  refine tf_cV (tf_gok _ _) (c_find_n l D q (d - 1) _ _ (by omega) h hn hk) 5 d_Tf_draw_2 rfl lk_Tf_81 cw_Tf_find (by rfl) in_Tf_find se_Tf_find (by first | assumption | (simp only [List.mem_append, List.mem_singleton]; simp [*])) (by first | assumption | exact va_up_self _ _ _ | (refine tf_u (by first | assumption | (apply Ne.symm; assumption) | (intro hh; subst hh; contradiction) | exact tf_n1 (by assumption) (by assumption) | exact tf_n2 (by assumption) (by assumption)) ?_; first | assumption | exact va_up_self _ _ _ | (refine tf_u (by first | assumption | (apply Ne.symm; assumption) | (intro hh; subst hh; contradiction) | exact tf_n1 (by assumption) (by assumption) | exact tf_n2 (by assumption) (by assumption)) ?_; first | assumption | exact va_up_self _ _ _ | (refine tf_u (by first | assumption | (apply Ne.symm; assumption) | (intro hh; subst hh; contradiction) | exact tf_n1 (by assumption) (by assumption) | exact tf_n2 (by assumption) (by assumption)) ?_; first | assumption | exact va_up_self _ _ _ | (refine tf_u (by first | assumption | (apply Ne.symm; assumption) | (intro hh; subst hh; contradiction) | exact tf_n1 (by assumption) (by assumption) | exact tf_n2 (by assumption) (by assumption)) ?_; first | assumption | exact va_up_self _ _ _ | (refine tf_u (by first | assumption | (apply Ne.symm; assumption) | (intro hh; subst hh; contradiction) | exact tf_n1 (by assumption) (by assumption) | exact tf_n2 (by assumption) (by assumption)) ?_; first | assumption | exact va_up_self _ _ _)))))) (by rfl) (by rfl) (by omega) (by exact Nat.le_of_ble_eq_true rfl) rfl ?_
  rintro v2 L2 f2 ⟨rfl, rfl, rfl⟩
  refine tf_blk _ b_Tf_draw_5 rfl ?_
  refine tf_ifnull_n 19 d_Tf_draw_9 rfl ?_
  refine tf_less (kc2 := 0 + 1) (ks2 := 0 + 6) (by omega) (by omega) ?_
  exact tx_throw (tx := "no such glyph or side") hl d_Tf_draw_19 (tf_dec1 b_Tf_draw_22) d_Tf_draw_23 d_Tf_draw_25 d_Tf_draw_28 xa_93 w_521 w_15 w_522 w_694 (by decide) (by decide) (by omega) (by exact Nat.le_of_ble_eq_true rfl) (⟨rfl, rfl, rfl⟩)
set_option maxHeartbeats 4000000 in
set_option maxRecDepth 100000 in
theorem c_Tf_draw_s (hl : l.stackTraces = false) (hd : 7 ≤ d) {ad : Nat → Nat} {S : tc_S} {B : Nat → Prop} (h : tc_at q ad S B L f) (hn : S.n ≤ 40) {i : Nat} (hi : i < S.n) (s b : Int32) (hs : tw_isSide s = false) : tx_C l (tf_H D q) d i_Tf_draw [.ref (ad 0), .int (nI i), .int s, .int b] L f 1 6 (fun _ _ _ => False) (fun E2 L2 f2 => E2 = "java/lang/IllegalArgumentException" ∧ L2 = L ∧ f2 = f) := by
  obtain ⟨hx, fx⟩ := tc_c0 h
  
  refine tx_C.of (by decide) (Nat.le_of_ble_eq_true rfl) ?_
  refine tf_blk _ b_Tf_draw_0 rfl ?_
  refine tf_cV (tf_gok _ _) (c_find_r l D q (d - 1) _ _ (by omega) h hn hi) 5 d_Tf_draw_2 rfl lk_Tf_81 cw_Tf_find (by rfl) in_Tf_find se_Tf_find (by first | assumption | (simp only [List.mem_append, List.mem_singleton]; simp [*])) (by first | assumption | exact va_up_self _ _ _ | (refine tf_u (by first | assumption | (apply Ne.symm; assumption) | (intro hh; subst hh; contradiction) | exact tf_n1 (by assumption) (by assumption) | exact tf_n2 (by assumption) (by assumption)) ?_; first | assumption | exact va_up_self _ _ _ | (refine tf_u (by first | assumption | (apply Ne.symm; assumption) | (intro hh; subst hh; contradiction) | exact tf_n1 (by assumption) (by assumption) | exact tf_n2 (by assumption) (by assumption)) ?_; first | assumption | exact va_up_self _ _ _ | (refine tf_u (by first | assumption | (apply Ne.symm; assumption) | (intro hh; subst hh; contradiction) | exact tf_n1 (by assumption) (by assumption) | exact tf_n2 (by assumption) (by assumption)) ?_; first | assumption | exact va_up_self _ _ _ | (refine tf_u (by first | assumption | (apply Ne.symm; assumption) | (intro hh; subst hh; contradiction) | exact tf_n1 (by assumption) (by assumption) | exact tf_n2 (by assumption) (by assumption)) ?_; first | assumption | exact va_up_self _ _ _ | (refine tf_u (by first | assumption | (apply Ne.symm; assumption) | (intro hh; subst hh; contradiction) | exact tf_n1 (by assumption) (by assumption) | exact tf_n2 (by assumption) (by assumption)) ?_; first | assumption | exact va_up_self _ _ _)))))) (by rfl) (by rfl) (by omega) (by exact Nat.le_of_ble_eq_true rfl) rfl ?_
  rintro v2 L2 f2 ⟨rfl, rfl, rfl⟩
  refine tf_blk _ b_Tf_draw_5 rfl ?_
  refine tf_ifnull_r 12 d_Tf_draw_9 rfl ?_
  refine tf_blk _ b_Tf_draw_12 rfl ?_
  refine tf_cS (tf_gok _ _) (c_Tf_isSide l D q (d - 1) _ _ _) 16 d_Tf_draw_13 rfl lk_Tf_179 cw_Tf_isSide (by rfl) sa_Tf_isSide (by omega) (by exact Nat.le_of_ble_eq_true rfl) rfl ?_
  rintro v13 L13 f13 ⟨rfl, rfl, rfl⟩
  refine tf_if_ne 29 19 d_Tf_draw_16 rfl rfl (fun h16 => absurd h16 ((not_not_intro (by rw [hs]; rfl)))) (fun h16 => ?_)
  refine tf_less (kc2 := 0 + 1) (ks2 := 0 + 6) (by omega) (by omega) ?_
  exact tx_throw (tx := "no such glyph or side") hl d_Tf_draw_19 (tf_dec1 b_Tf_draw_22) d_Tf_draw_23 d_Tf_draw_25 d_Tf_draw_28 xa_93 w_521 w_15 w_522 w_694 (by decide) (by decide) (by omega) (by exact Nat.le_of_ble_eq_true rfl) (⟨rfl, rfl, rfl⟩)
set_option maxHeartbeats 4000000 in
set_option maxRecDepth 100000 in
theorem c_Tf_shaped_0 (hl : l.stackTraces = false) (hd : 7 ≤ d) {ad : Nat → Nat} {S : tc_S} {B : Nat → Prop} (h : tc_at q ad S B L f) (i w : Int32) (hw0 : w = 0) (hi : tw_in i (kI 0) (nI S.rs - kI 1) = false) : tx_C l (tf_H D q) d i_Tf_shaped [.ref (ad 0), .int i, .int w] L f 1 6 (fun _ _ _ => False) (fun E2 L2 f2 => E2 = "java/lang/IndexOutOfBoundsException" ∧ L2 = L ∧ f2 = f) := by
  obtain ⟨hx, fx⟩ := tc_c0 h
  obtain ⟨hs, fs⟩ := tc_c23 h
  obtain ⟨hr, fr⟩ := tc_c24 h
  refine tx_C.of (by decide) (Nat.le_of_ble_eq_true rfl) ?_
  refine tf_blk _ b_Tf_shaped_0 rfl ?_
  refine tf_if_ne 31 4 d_Tf_shaped_1 rfl rfl (fun h1 => absurd h1 (not_not_intro hw0)) (fun h1 => ?_)
  refine tf_blk _ b_Tf_shaped_4 rfl ?_
  refine tf_get (fs := ?fs_7_45) (v := ?v_7_45) 10 d_Tf_shaped_7 rfl fl_Tf_62 ?ha_7_45 ?hf_7_45 ?hv_7_45 ?kk_7_45
  case ha_7_45 => first | assumption | (simp only [List.mem_append, List.mem_singleton]; simp [*])
  case hf_7_45 => first | assumption | exact va_up_self _ _ _ | (refine tf_u (by first | assumption | (apply Ne.symm; assumption) | (intro hh; subst hh; contradiction) | exact tf_n1 (by assumption) (by assumption) | exact tf_n2 (by assumption) (by assumption)) ?_; first | assumption | exact va_up_self _ _ _ | (refine tf_u (by first | assumption | (apply Ne.symm; assumption) | (intro hh; subst hh; contradiction) | exact tf_n1 (by assumption) (by assumption) | exact tf_n2 (by assumption) (by assumption)) ?_; first | assumption | exact va_up_self _ _ _ | (refine tf_u (by first | assumption | (apply Ne.symm; assumption) | (intro hh; subst hh; contradiction) | exact tf_n1 (by assumption) (by assumption) | exact tf_n2 (by assumption) (by assumption)) ?_; first | assumption | exact va_up_self _ _ _ | (refine tf_u (by first | assumption | (apply Ne.symm; assumption) | (intro hh; subst hh; contradiction) | exact tf_n1 (by assumption) (by assumption) | exact tf_n2 (by assumption) (by assumption)) ?_; first | assumption | exact va_up_self _ _ _ | (refine tf_u (by first | assumption | (apply Ne.symm; assumption) | (intro hh; subst hh; contradiction) | exact tf_n1 (by assumption) (by assumption) | exact tf_n2 (by assumption) (by assumption)) ?_; first | assumption | exact va_up_self _ _ _)))))
  case hv_7_45 => rfl
  refine tf_get (fs := ?fs_10_46) (v := ?v_10_46) 13 d_Tf_shaped_10 rfl fl_Tf_246 ?ha_10_46 ?hf_10_46 ?hv_10_46 ?kk_10_46
  case ha_10_46 => first | assumption | (simp only [List.mem_append, List.mem_singleton]; simp [*])
  case hf_10_46 => first | assumption | exact va_up_self _ _ _ | (refine tf_u (by first | assumption | (apply Ne.symm; assumption) | (intro hh; subst hh; contradiction) | exact tf_n1 (by assumption) (by assumption) | exact tf_n2 (by assumption) (by assumption)) ?_; first | assumption | exact va_up_self _ _ _ | (refine tf_u (by first | assumption | (apply Ne.symm; assumption) | (intro hh; subst hh; contradiction) | exact tf_n1 (by assumption) (by assumption) | exact tf_n2 (by assumption) (by assumption)) ?_; first | assumption | exact va_up_self _ _ _ | (refine tf_u (by first | assumption | (apply Ne.symm; assumption) | (intro hh; subst hh; contradiction) | exact tf_n1 (by assumption) (by assumption) | exact tf_n2 (by assumption) (by assumption)) ?_; first | assumption | exact va_up_self _ _ _ | (refine tf_u (by first | assumption | (apply Ne.symm; assumption) | (intro hh; subst hh; contradiction) | exact tf_n1 (by assumption) (by assumption) | exact tf_n2 (by assumption) (by assumption)) ?_; first | assumption | exact va_up_self _ _ _ | (refine tf_u (by first | assumption | (apply Ne.symm; assumption) | (intro hh; subst hh; contradiction) | exact tf_n1 (by assumption) (by assumption) | exact tf_n2 (by assumption) (by assumption)) ?_; first | assumption | exact va_up_self _ _ _)))))
  case hv_10_46 => rfl
  refine tf_blk _ b_Tf_shaped_13 rfl ?_
  refine tf_cS (tf_gok _ _) (c_Tf_within l D q (d - 1) _ _ _ _ _) 18 d_Tf_shaped_15 rfl lk_Tf_111 cw_Tf_within (by rfl) sa_Tf_within (by omega) (by exact Nat.le_of_ble_eq_true rfl) rfl ?_
  rintro v15 L15 f15 ⟨rfl, rfl, rfl⟩
  refine tf_if_eq 31 21 d_Tf_shaped_18 rfl rfl (fun h18 => ?_) (fun h18 => absurd (by rw [hi]; rfl) h18)
  refine tf_blk _ b_Tf_shaped_31 rfl ?_
  refine tf_ic_ne 57 36 d_Tf_shaped_33 rfl rfl (fun h33 => ?_) (fun h33 => absurd h33 (by rw [hw0]; decide))
  refine tf_less (kc2 := 0 + 1) (ks2 := 0 + 6) (by omega) (by omega) ?_
  exact tx_throwW (tx := "no such glyph of the row or what") hl d_Tf_shaped_57 (tf_dec1 b_Tf_shaped_60) d_Tf_shaped_61 d_Tf_shaped_64 d_Tf_shaped_67 xa_123 w_554 w_16 w_555 w_1107 (by decide) (by decide) (by omega) (by exact Nat.le_of_ble_eq_true rfl) (⟨rfl, rfl, rfl⟩)
set_option maxHeartbeats 4000000 in
set_option maxRecDepth 100000 in
theorem c_Tf_shaped_1 (hl : l.stackTraces = false) (hd : 7 ≤ d) {ad : Nat → Nat} {S : tc_S} {B : Nat → Prop} (h : tc_at q ad S B L f) (i w : Int32) (hw1 : w = kI 1) (hi : tw_in i (kI 0) (nI S.rs) = false) : tx_C l (tf_H D q) d i_Tf_shaped [.ref (ad 0), .int i, .int w] L f 1 6 (fun _ _ _ => False) (fun E2 L2 f2 => E2 = "java/lang/IndexOutOfBoundsException" ∧ L2 = L ∧ f2 = f) := by
  obtain ⟨hx, fx⟩ := tc_c0 h
  obtain ⟨hs, fs⟩ := tc_c23 h
  obtain ⟨hr, fr⟩ := tc_c24 h
  refine tx_C.of (by decide) (Nat.le_of_ble_eq_true rfl) ?_
  refine tf_blk _ b_Tf_shaped_0 rfl ?_
  refine tf_if_ne 31 4 d_Tf_shaped_1 rfl rfl (fun h1 => ?_) (fun h1 => absurd h1 (by rw [hw1]; decide))
  refine tf_blk _ b_Tf_shaped_31 rfl ?_
  refine tf_ic_ne 57 36 d_Tf_shaped_33 rfl rfl (fun h33 => absurd h33 (not_not_intro hw1)) (fun h33 => ?_)
  refine tf_blk _ b_Tf_shaped_36 rfl ?_
  refine tf_get (fs := ?fs_39_49) (v := ?v_39_49) 42 d_Tf_shaped_39 rfl fl_Tf_62 ?ha_39_49 ?hf_39_49 ?hv_39_49 ?kk_39_49
  case ha_39_49 => first | assumption | (simp only [List.mem_append, List.mem_singleton]; simp [*])
  case hf_39_49 => first | assumption | exact va_up_self _ _ _ | (refine tf_u (by first | assumption | (apply Ne.symm; assumption) | (intro hh; subst hh; contradiction) | exact tf_n1 (by assumption) (by assumption) | exact tf_n2 (by assumption) (by assumption)) ?_; first | assumption | exact va_up_self _ _ _ | (refine tf_u (by first | assumption | (apply Ne.symm; assumption) | (intro hh; subst hh; contradiction) | exact tf_n1 (by assumption) (by assumption) | exact tf_n2 (by assumption) (by assumption)) ?_; first | assumption | exact va_up_self _ _ _ | (refine tf_u (by first | assumption | (apply Ne.symm; assumption) | (intro hh; subst hh; contradiction) | exact tf_n1 (by assumption) (by assumption) | exact tf_n2 (by assumption) (by assumption)) ?_; first | assumption | exact va_up_self _ _ _ | (refine tf_u (by first | assumption | (apply Ne.symm; assumption) | (intro hh; subst hh; contradiction) | exact tf_n1 (by assumption) (by assumption) | exact tf_n2 (by assumption) (by assumption)) ?_; first | assumption | exact va_up_self _ _ _ | (refine tf_u (by first | assumption | (apply Ne.symm; assumption) | (intro hh; subst hh; contradiction) | exact tf_n1 (by assumption) (by assumption) | exact tf_n2 (by assumption) (by assumption)) ?_; first | assumption | exact va_up_self _ _ _)))))
  case hv_39_49 => rfl
  refine tf_get (fs := ?fs_42_50) (v := ?v_42_50) 45 d_Tf_shaped_42 rfl fl_Tf_246 ?ha_42_50 ?hf_42_50 ?hv_42_50 ?kk_42_50
  case ha_42_50 => first | assumption | (simp only [List.mem_append, List.mem_singleton]; simp [*])
  case hf_42_50 => first | assumption | exact va_up_self _ _ _ | (refine tf_u (by first | assumption | (apply Ne.symm; assumption) | (intro hh; subst hh; contradiction) | exact tf_n1 (by assumption) (by assumption) | exact tf_n2 (by assumption) (by assumption)) ?_; first | assumption | exact va_up_self _ _ _ | (refine tf_u (by first | assumption | (apply Ne.symm; assumption) | (intro hh; subst hh; contradiction) | exact tf_n1 (by assumption) (by assumption) | exact tf_n2 (by assumption) (by assumption)) ?_; first | assumption | exact va_up_self _ _ _ | (refine tf_u (by first | assumption | (apply Ne.symm; assumption) | (intro hh; subst hh; contradiction) | exact tf_n1 (by assumption) (by assumption) | exact tf_n2 (by assumption) (by assumption)) ?_; first | assumption | exact va_up_self _ _ _ | (refine tf_u (by first | assumption | (apply Ne.symm; assumption) | (intro hh; subst hh; contradiction) | exact tf_n1 (by assumption) (by assumption) | exact tf_n2 (by assumption) (by assumption)) ?_; first | assumption | exact va_up_self _ _ _ | (refine tf_u (by first | assumption | (apply Ne.symm; assumption) | (intro hh; subst hh; contradiction) | exact tf_n1 (by assumption) (by assumption) | exact tf_n2 (by assumption) (by assumption)) ?_; first | assumption | exact va_up_self _ _ _)))))
  case hv_42_50 => rfl
  refine tf_cS (tf_gok _ _) (c_Tf_within l D q (d - 1) _ _ _ _ _) 48 d_Tf_shaped_45 rfl lk_Tf_111 cw_Tf_within (by rfl) sa_Tf_within (by omega) (by exact Nat.le_of_ble_eq_true rfl) rfl ?_
  rintro v45 L45 f45 ⟨rfl, rfl, rfl⟩
  refine tf_if_eq 57 51 d_Tf_shaped_48 rfl rfl (fun h48 => ?_) (fun h48 => absurd (by rw [hi]; rfl) h48)
  refine tf_less (kc2 := 0 + 1) (ks2 := 0 + 6) (by omega) (by omega) ?_
  exact tx_throwW (tx := "no such glyph of the row or what") hl d_Tf_shaped_57 (tf_dec1 b_Tf_shaped_60) d_Tf_shaped_61 d_Tf_shaped_64 d_Tf_shaped_67 xa_123 w_554 w_16 w_555 w_1107 (by decide) (by decide) (by omega) (by exact Nat.le_of_ble_eq_true rfl) (⟨rfl, rfl, rfl⟩)
set_option maxHeartbeats 4000000 in
set_option maxRecDepth 100000 in
theorem c_Tf_shaped_w (hl : l.stackTraces = false) (hd : 7 ≤ d) {ad : Nat → Nat} {S : tc_S} {B : Nat → Prop} (h : tc_at q ad S B L f) (i w : Int32) (hw0 : ¬ w = 0) (hw1 : ¬ w = kI 1) : tx_C l (tf_H D q) d i_Tf_shaped [.ref (ad 0), .int i, .int w] L f 1 6 (fun _ _ _ => False) (fun E2 L2 f2 => E2 = "java/lang/IndexOutOfBoundsException" ∧ L2 = L ∧ f2 = f) := by
  obtain ⟨hx, fx⟩ := tc_c0 h
  obtain ⟨hs, fs⟩ := tc_c23 h
  obtain ⟨hr, fr⟩ := tc_c24 h
  refine tx_C.of (by decide) (Nat.le_of_ble_eq_true rfl) ?_
  refine tf_blk _ b_Tf_shaped_0 rfl ?_
  refine tf_if_ne 31 4 d_Tf_shaped_1 rfl rfl (fun h1 => ?_) (fun h1 => absurd h1 (hw0))
  refine tf_blk _ b_Tf_shaped_31 rfl ?_
  refine tf_ic_ne 57 36 d_Tf_shaped_33 rfl rfl (fun h33 => ?_) (fun h33 => absurd h33 (hw1))
  refine tf_less (kc2 := 0 + 1) (ks2 := 0 + 6) (by omega) (by omega) ?_
  exact tx_throwW (tx := "no such glyph of the row or what") hl d_Tf_shaped_57 (tf_dec1 b_Tf_shaped_60) d_Tf_shaped_61 d_Tf_shaped_64 d_Tf_shaped_67 xa_123 w_554 w_16 w_555 w_1107 (by decide) (by decide) (by omega) (by exact Nat.le_of_ble_eq_true rfl) (⟨rfl, rfl, rfl⟩)
set_option maxHeartbeats 4000000 in
set_option maxRecDepth 100000 in
theorem c_Tf_shaped_t0 (hl : l.stackTraces = false) (hd : 7 ≤ d) {ad : Nat → Nat} {S : tc_S} {B : Nat → Prop} (h : tc_at q ad S B L f) (i w : Int32) (hw0 : w = 0) (hi : tw_in i (kI 0) (nI S.rs - kI 1) = true) (h60 : S.rs ≤ 60) : tx_C l (tf_H D q) d i_Tf_shaped [.ref (ad 0), .int i, .int w] L f 1 6 (tc_po q ad B L f (S.row i.toNatClampNeg) S) (fun _ _ _ => False) := by
  obtain ⟨hx, fx⟩ := tc_c0 h
  obtain ⟨hs, fs⟩ := tc_c23 h
  obtain ⟨hr, fr⟩ := tc_c24 h
  have hv : vp_in i 60 := by
    obtain ⟨r, hr9, e⟩ := tw_inN (by omega) hi
    rw [e]
    exact vp_in_nI (by omega) (by omega)
  refine tx_C.of (by decide) (Nat.le_of_ble_eq_true rfl) ?_
  refine tf_blk _ b_Tf_shaped_0 rfl ?_
  refine tf_if_ne 31 4 d_Tf_shaped_1 rfl rfl (fun h1 => absurd h1 (not_not_intro hw0)) (fun h1 => ?_)
  refine tf_blk _ b_Tf_shaped_4 rfl ?_
  refine tf_get (fs := ?fs_7_54) (v := ?v_7_54) 10 d_Tf_shaped_7 rfl fl_Tf_62 ?ha_7_54 ?hf_7_54 ?hv_7_54 ?kk_7_54
  case ha_7_54 => first | assumption | (simp only [List.mem_append, List.mem_singleton]; simp [*])
  case hf_7_54 => first | assumption | exact va_up_self _ _ _ | (refine tf_u (by first | assumption | (apply Ne.symm; assumption) | (intro hh; subst hh; contradiction) | exact tf_n1 (by assumption) (by assumption) | exact tf_n2 (by assumption) (by assumption)) ?_; first | assumption | exact va_up_self _ _ _ | (refine tf_u (by first | assumption | (apply Ne.symm; assumption) | (intro hh; subst hh; contradiction) | exact tf_n1 (by assumption) (by assumption) | exact tf_n2 (by assumption) (by assumption)) ?_; first | assumption | exact va_up_self _ _ _ | (refine tf_u (by first | assumption | (apply Ne.symm; assumption) | (intro hh; subst hh; contradiction) | exact tf_n1 (by assumption) (by assumption) | exact tf_n2 (by assumption) (by assumption)) ?_; first | assumption | exact va_up_self _ _ _ | (refine tf_u (by first | assumption | (apply Ne.symm; assumption) | (intro hh; subst hh; contradiction) | exact tf_n1 (by assumption) (by assumption) | exact tf_n2 (by assumption) (by assumption)) ?_; first | assumption | exact va_up_self _ _ _ | (refine tf_u (by first | assumption | (apply Ne.symm; assumption) | (intro hh; subst hh; contradiction) | exact tf_n1 (by assumption) (by assumption) | exact tf_n2 (by assumption) (by assumption)) ?_; first | assumption | exact va_up_self _ _ _)))))
  case hv_7_54 => rfl
  refine tf_get (fs := ?fs_10_55) (v := ?v_10_55) 13 d_Tf_shaped_10 rfl fl_Tf_246 ?ha_10_55 ?hf_10_55 ?hv_10_55 ?kk_10_55
  case ha_10_55 => first | assumption | (simp only [List.mem_append, List.mem_singleton]; simp [*])
  case hf_10_55 => first | assumption | exact va_up_self _ _ _ | (refine tf_u (by first | assumption | (apply Ne.symm; assumption) | (intro hh; subst hh; contradiction) | exact tf_n1 (by assumption) (by assumption) | exact tf_n2 (by assumption) (by assumption)) ?_; first | assumption | exact va_up_self _ _ _ | (refine tf_u (by first | assumption | (apply Ne.symm; assumption) | (intro hh; subst hh; contradiction) | exact tf_n1 (by assumption) (by assumption) | exact tf_n2 (by assumption) (by assumption)) ?_; first | assumption | exact va_up_self _ _ _ | (refine tf_u (by first | assumption | (apply Ne.symm; assumption) | (intro hh; subst hh; contradiction) | exact tf_n1 (by assumption) (by assumption) | exact tf_n2 (by assumption) (by assumption)) ?_; first | assumption | exact va_up_self _ _ _ | (refine tf_u (by first | assumption | (apply Ne.symm; assumption) | (intro hh; subst hh; contradiction) | exact tf_n1 (by assumption) (by assumption) | exact tf_n2 (by assumption) (by assumption)) ?_; first | assumption | exact va_up_self _ _ _ | (refine tf_u (by first | assumption | (apply Ne.symm; assumption) | (intro hh; subst hh; contradiction) | exact tf_n1 (by assumption) (by assumption) | exact tf_n2 (by assumption) (by assumption)) ?_; first | assumption | exact va_up_self _ _ _)))))
  case hv_10_55 => rfl
  refine tf_blk _ b_Tf_shaped_13 rfl ?_
  refine tf_cS (tf_gok _ _) (c_Tf_within l D q (d - 1) _ _ _ _ _) 18 d_Tf_shaped_15 rfl lk_Tf_111 cw_Tf_within (by rfl) sa_Tf_within (by omega) (by exact Nat.le_of_ble_eq_true rfl) rfl ?_
  rintro v15 L15 f15 ⟨rfl, rfl, rfl⟩
  refine tf_if_eq 31 21 d_Tf_shaped_18 rfl rfl (fun h18 => absurd h18 ((by rw [hi]; decide))) (fun h18 => ?_)
  refine tf_blk _ b_Tf_shaped_21 rfl ?_
  refine tf_get (fs := ?fs_22_57) (v := ?v_22_57) 25 d_Tf_shaped_22 rfl fl_Tf_62 ?ha_22_57 ?hf_22_57 ?hv_22_57 ?kk_22_57
  case ha_22_57 => first | assumption | (simp only [List.mem_append, List.mem_singleton]; simp [*])
  case hf_22_57 => first | assumption | exact va_up_self _ _ _ | (refine tf_u (by first | assumption | (apply Ne.symm; assumption) | (intro hh; subst hh; contradiction) | exact tf_n1 (by assumption) (by assumption) | exact tf_n2 (by assumption) (by assumption)) ?_; first | assumption | exact va_up_self _ _ _ | (refine tf_u (by first | assumption | (apply Ne.symm; assumption) | (intro hh; subst hh; contradiction) | exact tf_n1 (by assumption) (by assumption) | exact tf_n2 (by assumption) (by assumption)) ?_; first | assumption | exact va_up_self _ _ _ | (refine tf_u (by first | assumption | (apply Ne.symm; assumption) | (intro hh; subst hh; contradiction) | exact tf_n1 (by assumption) (by assumption) | exact tf_n2 (by assumption) (by assumption)) ?_; first | assumption | exact va_up_self _ _ _ | (refine tf_u (by first | assumption | (apply Ne.symm; assumption) | (intro hh; subst hh; contradiction) | exact tf_n1 (by assumption) (by assumption) | exact tf_n2 (by assumption) (by assumption)) ?_; first | assumption | exact va_up_self _ _ _ | (refine tf_u (by first | assumption | (apply Ne.symm; assumption) | (intro hh; subst hh; contradiction) | exact tf_n1 (by assumption) (by assumption) | exact tf_n2 (by assumption) (by assumption)) ?_; first | assumption | exact va_up_self _ _ _)))))
  case hv_22_57 => rfl
  refine tf_get (fs := ?fs_25_58) (v := ?v_25_58) 28 d_Tf_shaped_25 rfl fl_Tf_249 ?ha_25_58 ?hf_25_58 ?hv_25_58 ?kk_25_58
  case ha_25_58 => first | assumption | (simp only [List.mem_append, List.mem_singleton]; simp [*])
  case hf_25_58 => first | assumption | exact va_up_self _ _ _ | (refine tf_u (by first | assumption | (apply Ne.symm; assumption) | (intro hh; subst hh; contradiction) | exact tf_n1 (by assumption) (by assumption) | exact tf_n2 (by assumption) (by assumption)) ?_; first | assumption | exact va_up_self _ _ _ | (refine tf_u (by first | assumption | (apply Ne.symm; assumption) | (intro hh; subst hh; contradiction) | exact tf_n1 (by assumption) (by assumption) | exact tf_n2 (by assumption) (by assumption)) ?_; first | assumption | exact va_up_self _ _ _ | (refine tf_u (by first | assumption | (apply Ne.symm; assumption) | (intro hh; subst hh; contradiction) | exact tf_n1 (by assumption) (by assumption) | exact tf_n2 (by assumption) (by assumption)) ?_; first | assumption | exact va_up_self _ _ _ | (refine tf_u (by first | assumption | (apply Ne.symm; assumption) | (intro hh; subst hh; contradiction) | exact tf_n1 (by assumption) (by assumption) | exact tf_n2 (by assumption) (by assumption)) ?_; first | assumption | exact va_up_self _ _ _ | (refine tf_u (by first | assumption | (apply Ne.symm; assumption) | (intro hh; subst hh; contradiction) | exact tf_n1 (by assumption) (by assumption) | exact tf_n2 (by assumption) (by assumption)) ?_; first | assumption | exact va_up_self _ _ _)))))
  case hv_25_58 => rfl
  refine tf_blk _ b_Tf_shaped_28 rfl ?_
  refine tf_iald (n := ?n_29_59) (g := ?g_29_59) 30 0 d_Tf_shaped_29 rfl rfl ?ha_29_59 ?hf_29_59 ?hi_29_59 ?kk_29_59
  case ha_29_59 => first | assumption | (simp only [List.mem_append, List.mem_singleton]; simp [*])
  case hf_29_59 => first | assumption | exact va_up_self _ _ _ | (refine tf_u (by first | assumption | (apply Ne.symm; assumption) | (intro hh; subst hh; contradiction) | exact tf_n1 (by assumption) (by assumption) | exact tf_n2 (by assumption) (by assumption)) ?_; first | assumption | exact va_up_self _ _ _ | (refine tf_u (by first | assumption | (apply Ne.symm; assumption) | (intro hh; subst hh; contradiction) | exact tf_n1 (by assumption) (by assumption) | exact tf_n2 (by assumption) (by assumption)) ?_; first | assumption | exact va_up_self _ _ _ | (refine tf_u (by first | assumption | (apply Ne.symm; assumption) | (intro hh; subst hh; contradiction) | exact tf_n1 (by assumption) (by assumption) | exact tf_n2 (by assumption) (by assumption)) ?_; first | assumption | exact va_up_self _ _ _ | (refine tf_u (by first | assumption | (apply Ne.symm; assumption) | (intro hh; subst hh; contradiction) | exact tf_n1 (by assumption) (by assumption) | exact tf_n2 (by assumption) (by assumption)) ?_; first | assumption | exact va_up_self _ _ _ | (refine tf_u (by first | assumption | (apply Ne.symm; assumption) | (intro hh; subst hh; contradiction) | exact tf_n1 (by assumption) (by assumption) | exact tf_n2 (by assumption) (by assumption)) ?_; first | assumption | exact va_up_self _ _ _)))))
  case hi_29_59 => exact hv
  refine tx_ret ?_
  refine tf_iret d_Tf_shaped_30 rfl ?_
  exact ⟨rfl, rfl, h, fun _ _ => rfl⟩
end
