/-! public methods: type, pair, close, advance -/
section
variable (l : Launch) (D : va_G) (q : Nat → ClassId) (d : Nat) (L : List Nat) (f : tf_F)
theorem c_Setter_addToText_t {a tx n : Nat} {ro rs rc pu ru : Value} {g : Nat → Int32} (y : Int32) (hn : n < 60) (ha : a ∈ L) (fa : f a = to 10 [ro, rs, .int (nI n), rc, pu, .ref tx, ru]) (htx : tx ∈ L) (ftx : f tx = ti q 60 g) : tf_C l (tf_H D q) d i_Setter_addToText [.ref a, .int y] L f 0 0 (fun v L2 f2 => v = some (.int (kI 1)) ∧ L2 = L ∧ f2 = va_up (va_up f tx (ti q 60 (upd g n y))) a (to 10 [ro, rs, .int (nI n + kI 1), rc, pu, .ref tx, ru])) := by
  refine (c_Setter_addToText l D q d L f y (by omega) ha fa htx ftx).mono (fun v L2 f2 z => ?_)
  rcases z with ⟨z1, ⟨-, z2, z3⟩ | ⟨z4, -⟩⟩
  · exact ⟨z2, z1, z3⟩
  · omega
theorem c_Setter_addToText_f {a tx : Nat} {ro rs rc pu ru : Value} {g : Nat → Int32} (y : Int32) (ha : a ∈ L) (fa : f a = to 10 [ro, rs, .int (nI 60), rc, pu, .ref tx, ru]) (htx : tx ∈ L) (ftx : f tx = ti q 60 g) : tf_C l (tf_H D q) d i_Setter_addToText [.ref a, .int y] L f 0 0 (fun v L2 f2 => v = some (.int (kI 0)) ∧ L2 = L ∧ f2 = f) := by
  refine (c_Setter_addToText l D q d L f y (by omega) ha fa htx ftx).mono (fun v L2 f2 z => ?_)
  rcases z with ⟨z1, ⟨z4, -⟩ | ⟨-, z2, z3⟩⟩
  · omega
  · exact ⟨z2, z1, z3⟩
set_option maxHeartbeats 4000000 in
set_option maxRecDepth 100000 in
theorem c_Tf_type_n (hd : 2 ≤ d) {ad : Nat → Nat} {S : tc_S} {B : Nat → Prop} (h : tc_at q ad S B L f) (hn : S.n ≤ 40) {k : Int32} (hk : ∀ i, i < S.n → k ≠ nI i) : tf_C l (tf_H D q) d i_Tf_type [.ref (ad 0), .int k] L f 0 0 (tf_rd (.int (kI 0)) L f) := by
  obtain ⟨hx, fx⟩ := tc_c0 h
  
  refine tf_C.of (tf_gok _ _) (by decide) w_320 (Nat.le_of_ble_eq_true rfl) ?_
  refine tf_blk _ b_Tf_type_0 rfl ?_
  refine tf_cV (tf_gok _ _) (c_find_n l D q (d - 1) _ _ (by omega) h hn hk) 5 d_Tf_type_2 rfl lk_Tf_81 cw_Tf_find (by rfl) in_Tf_find se_Tf_find (by first | assumption | (simp only [List.mem_append, List.mem_singleton]; simp [*])) (by first | assumption | exact va_up_self _ _ _ | (refine tf_u (by first | assumption | (apply Ne.symm; assumption) | (intro hh; subst hh; contradiction) | exact tf_n1 (by assumption) (by assumption) | exact tf_n2 (by assumption) (by assumption)) ?_; first | assumption | exact va_up_self _ _ _ | (refine tf_u (by first | assumption | (apply Ne.symm; assumption) | (intro hh; subst hh; contradiction) | exact tf_n1 (by assumption) (by assumption) | exact tf_n2 (by assumption) (by assumption)) ?_; first | assumption | exact va_up_self _ _ _ | (refine tf_u (by first | assumption | (apply Ne.symm; assumption) | (intro hh; subst hh; contradiction) | exact tf_n1 (by assumption) (by assumption) | exact tf_n2 (by assumption) (by assumption)) ?_; first | assumption | exact va_up_self _ _ _ | (refine tf_u (by first | assumption | (apply Ne.symm; assumption) | (intro hh; subst hh; contradiction) | exact tf_n1 (by assumption) (by assumption) | exact tf_n2 (by assumption) (by assumption)) ?_; first | assumption | exact va_up_self _ _ _ | (refine tf_u (by first | assumption | (apply Ne.symm; assumption) | (intro hh; subst hh; contradiction) | exact tf_n1 (by assumption) (by assumption) | exact tf_n2 (by assumption) (by assumption)) ?_; first | assumption | exact va_up_self _ _ _)))))) (by rfl) (by rfl) (by omega) (by exact Nat.le_of_ble_eq_true rfl) rfl ?_
  rintro v2 L2 f2 ⟨rfl, rfl, rfl⟩
  refine tf_ifnull_n 23 d_Tf_type_5 rfl ?_
  refine tf_blk _ b_Tf_type_23 rfl ?_
  refine tf_zret d_Tf_type_24 rfl (rfl) ?_
  exact ⟨rfl, rfl, rfl⟩
set_option maxHeartbeats 4000000 in
set_option maxRecDepth 100000 in
theorem c_Tf_type_t (hd : 2 ≤ d) {ad : Nat → Nat} {S : tc_S} {B : Nat → Prop} (h : tc_at q ad S B L f) (hn : S.n ≤ 40) {i : Nat} (hi : i < S.n) (h60 : S.ts < 60) : tf_C l (tf_H D q) d i_Tf_type [.ref (ad 0), .int (nI i)] L f 0 0 (tc_po q ad B L f (tc_type i S).1 (tc_type i S).2) := by
  obtain ⟨hx, fx⟩ := tc_c0 h
  obtain ⟨hs, fs⟩ := tc_c23 h
  obtain ⟨ht, ft⟩ := tc_c25 h
  refine tf_C.of (tf_gok _ _) (by decide) w_320 (Nat.le_of_ble_eq_true rfl) ?_
  refine tf_blk _ b_Tf_type_0 rfl ?_
  refine tf_cV (tf_gok _ _) (c_find_r l D q (d - 1) _ _ (by omega) h hn hi) 5 d_Tf_type_2 rfl lk_Tf_81 cw_Tf_find (by rfl) in_Tf_find se_Tf_find (by first | assumption | (simp only [List.mem_append, List.mem_singleton]; simp [*])) (by first | assumption | exact va_up_self _ _ _ | (refine tf_u (by first | assumption | (apply Ne.symm; assumption) | (intro hh; subst hh; contradiction) | exact tf_n1 (by assumption) (by assumption) | exact tf_n2 (by assumption) (by assumption)) ?_; first | assumption | exact va_up_self _ _ _ | (refine tf_u (by first | assumption | (apply Ne.symm; assumption) | (intro hh; subst hh; contradiction) | exact tf_n1 (by assumption) (by assumption) | exact tf_n2 (by assumption) (by assumption)) ?_; first | assumption | exact va_up_self _ _ _ | (refine tf_u (by first | assumption | (apply Ne.symm; assumption) | (intro hh; subst hh; contradiction) | exact tf_n1 (by assumption) (by assumption) | exact tf_n2 (by assumption) (by assumption)) ?_; first | assumption | exact va_up_self _ _ _ | (refine tf_u (by first | assumption | (apply Ne.symm; assumption) | (intro hh; subst hh; contradiction) | exact tf_n1 (by assumption) (by assumption) | exact tf_n2 (by assumption) (by assumption)) ?_; first | assumption | exact va_up_self _ _ _ | (refine tf_u (by first | assumption | (apply Ne.symm; assumption) | (intro hh; subst hh; contradiction) | exact tf_n1 (by assumption) (by assumption) | exact tf_n2 (by assumption) (by assumption)) ?_; first | assumption | exact va_up_self _ _ _)))))) (by rfl) (by rfl) (by omega) (by exact Nat.le_of_ble_eq_true rfl) rfl ?_
  rintro v2 L2 f2 ⟨rfl, rfl, rfl⟩
  refine tf_ifnull_r 8 d_Tf_type_5 rfl ?_
  refine tf_blk _ b_Tf_type_8 rfl ?_
  refine tf_get (fs := ?fs_9_4) (v := ?v_9_4) 12 d_Tf_type_9 rfl fl_Tf_62 ?ha_9_4 ?hf_9_4 ?hv_9_4 ?kk_9_4
  case ha_9_4 => first | assumption | (simp only [List.mem_append, List.mem_singleton]; simp [*])
  case hf_9_4 => first | assumption | exact va_up_self _ _ _ | (refine tf_u (by first | assumption | (apply Ne.symm; assumption) | (intro hh; subst hh; contradiction) | exact tf_n1 (by assumption) (by assumption) | exact tf_n2 (by assumption) (by assumption)) ?_; first | assumption | exact va_up_self _ _ _ | (refine tf_u (by first | assumption | (apply Ne.symm; assumption) | (intro hh; subst hh; contradiction) | exact tf_n1 (by assumption) (by assumption) | exact tf_n2 (by assumption) (by assumption)) ?_; first | assumption | exact va_up_self _ _ _ | (refine tf_u (by first | assumption | (apply Ne.symm; assumption) | (intro hh; subst hh; contradiction) | exact tf_n1 (by assumption) (by assumption) | exact tf_n2 (by assumption) (by assumption)) ?_; first | assumption | exact va_up_self _ _ _ | (refine tf_u (by first | assumption | (apply Ne.symm; assumption) | (intro hh; subst hh; contradiction) | exact tf_n1 (by assumption) (by assumption) | exact tf_n2 (by assumption) (by assumption)) ?_; first | assumption | exact va_up_self _ _ _ | (refine tf_u (by first | assumption | (apply Ne.symm; assumption) | (intro hh; subst hh; contradiction) | exact tf_n1 (by assumption) (by assumption) | exact tf_n2 (by assumption) (by assumption)) ?_; first | assumption | exact va_up_self _ _ _)))))
  case hv_9_4 => rfl
  refine tf_blk _ b_Tf_type_12 rfl ?_
  refine tf_cV (tf_gok _ _) (c_Setter_addToText_t l D q (d - 1) _ _ (nI i) h60 hs fs ht ft) 16 d_Tf_type_13 rfl lk_Tf_240 cw_Setter_addToText (by rfl) in_Setter_addToText se_Setter_addToText (by first | assumption | (simp only [List.mem_append, List.mem_singleton]; simp [*])) (by first | assumption | exact va_up_self _ _ _ | (refine tf_u (by first | assumption | (apply Ne.symm; assumption) | (intro hh; subst hh; contradiction) | exact tf_n1 (by assumption) (by assumption) | exact tf_n2 (by assumption) (by assumption)) ?_; first | assumption | exact va_up_self _ _ _ | (refine tf_u (by first | assumption | (apply Ne.symm; assumption) | (intro hh; subst hh; contradiction) | exact tf_n1 (by assumption) (by assumption) | exact tf_n2 (by assumption) (by assumption)) ?_; first | assumption | exact va_up_self _ _ _ | (refine tf_u (by first | assumption | (apply Ne.symm; assumption) | (intro hh; subst hh; contradiction) | exact tf_n1 (by assumption) (by assumption) | exact tf_n2 (by assumption) (by assumption)) ?_; first | assumption | exact va_up_self _ _ _ | (refine tf_u (by first | assumption | (apply Ne.symm; assumption) | (intro hh; subst hh; contradiction) | exact tf_n1 (by assumption) (by assumption) | exact tf_n2 (by assumption) (by assumption)) ?_; first | assumption | exact va_up_self _ _ _ | (refine tf_u (by first | assumption | (apply Ne.symm; assumption) | (intro hh; subst hh; contradiction) | exact tf_n1 (by assumption) (by assumption) | exact tf_n2 (by assumption) (by assumption)) ?_; first | assumption | exact va_up_self _ _ _)))))) (by rfl) (by rfl) (by omega) (by exact Nat.le_of_ble_eq_true rfl) rfl ?_
  rintro v13 L13 f13 ⟨rfl, rfl, rfl⟩
  refine tf_if_eq 23 19 d_Tf_type_16 rfl rfl (fun h16 => absurd h16 (show ¬ kI 1 = 0 by decide)) (fun h16 => ?_)
  refine tf_blk _ b_Tf_type_19 rfl ?_
  refine tf_goto 24 d_Tf_type_20 rfl ?_
  refine tf_zret d_Tf_type_24 rfl (rfl) ?_
  rw [show tc_type i S = (kI 1, _) from if_pos h60]
  rw [show nI S.ts + kI 1 = nI (S.ts + 1) from nI_1 S.ts]
  exact ⟨rfl, rfl, tc_goF (S2 := (tc_S_mk S.mm S.u S.w S.n S.T S.oc S.op S.oA S.pz S.px S.py S.hn S.hy S.cs S.ca S.ce S.kp S.kl S.kr S.kc S.kL S.kR S.kO S.row S.rs (S.ts + 1) S.rn S.pu (upd S.tx S.ts (nI i)) S.R)) h [(25, ti q 60 (upd S.tx S.ts (nI i))), (23, to 10 [.ref (ad 24), .int (nI S.rs), .int (nI (S.ts + 1)), .int (nI S.rn), .int S.pu, .ref (ad 25), .ref (ad 26)])] (by simp) rfl rfl rfl rfl rfl rfl⟩
set_option maxHeartbeats 4000000 in
set_option maxRecDepth 100000 in
theorem c_Tf_type_f (hd : 2 ≤ d) {ad : Nat → Nat} {S : tc_S} {B : Nat → Prop} (h : tc_at q ad S B L f) (hn : S.n ≤ 40) {i : Nat} (hi : i < S.n) (h60 : S.ts = 60) : tf_C l (tf_H D q) d i_Tf_type [.ref (ad 0), .int (nI i)] L f 0 0 (tc_po q ad B L f (tc_type i S).1 (tc_type i S).2) := by
  obtain ⟨hx, fx⟩ := tc_c0 h
  obtain ⟨hs, fs⟩ := tc_c23 h
  obtain ⟨ht, ft⟩ := tc_c25 h
  rw [h60] at fs
  refine tf_C.of (tf_gok _ _) (by decide) w_320 (Nat.le_of_ble_eq_true rfl) ?_
  refine tf_blk _ b_Tf_type_0 rfl ?_
  refine tf_cV (tf_gok _ _) (c_find_r l D q (d - 1) _ _ (by omega) h hn hi) 5 d_Tf_type_2 rfl lk_Tf_81 cw_Tf_find (by rfl) in_Tf_find se_Tf_find (by first | assumption | (simp only [List.mem_append, List.mem_singleton]; simp [*])) (by first | assumption | exact va_up_self _ _ _ | (refine tf_u (by first | assumption | (apply Ne.symm; assumption) | (intro hh; subst hh; contradiction) | exact tf_n1 (by assumption) (by assumption) | exact tf_n2 (by assumption) (by assumption)) ?_; first | assumption | exact va_up_self _ _ _ | (refine tf_u (by first | assumption | (apply Ne.symm; assumption) | (intro hh; subst hh; contradiction) | exact tf_n1 (by assumption) (by assumption) | exact tf_n2 (by assumption) (by assumption)) ?_; first | assumption | exact va_up_self _ _ _ | (refine tf_u (by first | assumption | (apply Ne.symm; assumption) | (intro hh; subst hh; contradiction) | exact tf_n1 (by assumption) (by assumption) | exact tf_n2 (by assumption) (by assumption)) ?_; first | assumption | exact va_up_self _ _ _ | (refine tf_u (by first | assumption | (apply Ne.symm; assumption) | (intro hh; subst hh; contradiction) | exact tf_n1 (by assumption) (by assumption) | exact tf_n2 (by assumption) (by assumption)) ?_; first | assumption | exact va_up_self _ _ _ | (refine tf_u (by first | assumption | (apply Ne.symm; assumption) | (intro hh; subst hh; contradiction) | exact tf_n1 (by assumption) (by assumption) | exact tf_n2 (by assumption) (by assumption)) ?_; first | assumption | exact va_up_self _ _ _)))))) (by rfl) (by rfl) (by omega) (by exact Nat.le_of_ble_eq_true rfl) rfl ?_
  rintro v2 L2 f2 ⟨rfl, rfl, rfl⟩
  refine tf_ifnull_r 8 d_Tf_type_5 rfl ?_
  refine tf_blk _ b_Tf_type_8 rfl ?_
  refine tf_get (fs := ?fs_9_8) (v := ?v_9_8) 12 d_Tf_type_9 rfl fl_Tf_62 ?ha_9_8 ?hf_9_8 ?hv_9_8 ?kk_9_8
  case ha_9_8 => first | assumption | (simp only [List.mem_append, List.mem_singleton]; simp [*])
  case hf_9_8 => first | assumption | exact va_up_self _ _ _ | (refine tf_u (by first | assumption | (apply Ne.symm; assumption) | (intro hh; subst hh; contradiction) | exact tf_n1 (by assumption) (by assumption) | exact tf_n2 (by assumption) (by assumption)) ?_; first | assumption | exact va_up_self _ _ _ | (refine tf_u (by first | assumption | (apply Ne.symm; assumption) | (intro hh; subst hh; contradiction) | exact tf_n1 (by assumption) (by assumption) | exact tf_n2 (by assumption) (by assumption)) ?_; first | assumption | exact va_up_self _ _ _ | (refine tf_u (by first | assumption | (apply Ne.symm; assumption) | (intro hh; subst hh; contradiction) | exact tf_n1 (by assumption) (by assumption) | exact tf_n2 (by assumption) (by assumption)) ?_; first | assumption | exact va_up_self _ _ _ | (refine tf_u (by first | assumption | (apply Ne.symm; assumption) | (intro hh; subst hh; contradiction) | exact tf_n1 (by assumption) (by assumption) | exact tf_n2 (by assumption) (by assumption)) ?_; first | assumption | exact va_up_self _ _ _ | (refine tf_u (by first | assumption | (apply Ne.symm; assumption) | (intro hh; subst hh; contradiction) | exact tf_n1 (by assumption) (by assumption) | exact tf_n2 (by assumption) (by assumption)) ?_; first | assumption | exact va_up_self _ _ _)))))
  case hv_9_8 => rfl
  refine tf_blk _ b_Tf_type_12 rfl ?_
  refine tf_cV (tf_gok _ _) (c_Setter_addToText_f l D q (d - 1) _ _ (nI i) hs fs ht ft) 16 d_Tf_type_13 rfl lk_Tf_240 cw_Setter_addToText (by rfl) in_Setter_addToText se_Setter_addToText (by first | assumption | (simp only [List.mem_append, List.mem_singleton]; simp [*])) (by first | assumption | exact va_up_self _ _ _ | (refine tf_u (by first | assumption | (apply Ne.symm; assumption) | (intro hh; subst hh; contradiction) | exact tf_n1 (by assumption) (by assumption) | exact tf_n2 (by assumption) (by assumption)) ?_; first | assumption | exact va_up_self _ _ _ | (refine tf_u (by first | assumption | (apply Ne.symm; assumption) | (intro hh; subst hh; contradiction) | exact tf_n1 (by assumption) (by assumption) | exact tf_n2 (by assumption) (by assumption)) ?_; first | assumption | exact va_up_self _ _ _ | (refine tf_u (by first | assumption | (apply Ne.symm; assumption) | (intro hh; subst hh; contradiction) | exact tf_n1 (by assumption) (by assumption) | exact tf_n2 (by assumption) (by assumption)) ?_; first | assumption | exact va_up_self _ _ _ | (refine tf_u (by first | assumption | (apply Ne.symm; assumption) | (intro hh; subst hh; contradiction) | exact tf_n1 (by assumption) (by assumption) | exact tf_n2 (by assumption) (by assumption)) ?_; first | assumption | exact va_up_self _ _ _ | (refine tf_u (by first | assumption | (apply Ne.symm; assumption) | (intro hh; subst hh; contradiction) | exact tf_n1 (by assumption) (by assumption) | exact tf_n2 (by assumption) (by assumption)) ?_; first | assumption | exact va_up_self _ _ _)))))) (by rfl) (by rfl) (by omega) (by exact Nat.le_of_ble_eq_true rfl) rfl ?_
  rintro v13 L13 f13 ⟨rfl, rfl, rfl⟩
  refine tf_if_eq 23 19 d_Tf_type_16 rfl rfl (fun h16 => ?_) (fun h16 => absurd (show kI 0 = 0 by decide) h16)
  refine tf_blk _ b_Tf_type_23 rfl ?_
  refine tf_zret d_Tf_type_24 rfl (rfl) ?_
  rw [show tc_type i S = (kI 0, S) from if_neg (by omega)]
  exact ⟨rfl, rfl, h, fun _ _ => rfl⟩
theorem c_Tf_type (hd : 2 ≤ d) {ad : Nat → Nat} {S : tc_S} {B : Nat → Prop} (h : tc_at q ad S B L f) (hn : S.n ≤ 40) {i : Nat} (hi : i < S.n) (h60 : S.ts ≤ 60) : tf_C l (tf_H D q) d i_Tf_type [.ref (ad 0), .int (nI i)] L f 0 0 (tc_po q ad B L f (tc_type i S).1 (tc_type i S).2) := by
  by_cases h9 : S.ts < 60
  · exact c_Tf_type_t l D q d L f hd h hn hi h9
  · exact c_Tf_type_f l D q d L f hd h hn hi (by omega)
theorem c_Kerning_tellPair_t (hd : 1 ≤ d) {a lc rc oc ls rs op n : Nat} {gl gr go : Nat → Int32} (x y b : Int32) (hn : n ≤ 40) (ha : a ∈ L) (fa : f a = to 5 [.int (nI n), .ref lc, .ref rc, .ref oc, .ref ls, .ref rs, .ref op]) (hls : ls ∈ L) (fls : f ls = ti q 40 gl) (hrs : rs ∈ L) (frs : f rs = ti q 40 gr) (hop : op ∈ L) (fop : f op = ti q 40 go) (n1 : rs ≠ ls) (n2 : op ≠ ls) (n3 : op ≠ rs) (h40 : tw_pf gl gr x y n 0 < 40) : tf_C l (tf_H D q) d i_Kerning_tellPair [.ref a, .int x, .int y, .int b] L f 0 0 (fun v L2 f2 => v = some (.int (kI 1)) ∧ L2 = L ∧ f2 = va_up (va_up (va_up (va_up f ls (ti q 40 (upd gl (tw_pf gl gr x y n 0) x))) rs (ti q 40 (upd gr (tw_pf gl gr x y n 0) y))) op (ti q 40 (upd go (tw_pf gl gr x y n 0) b))) a (to 5 [.int (nI (max n (tw_pf gl gr x y n 0 + 1))), .ref lc, .ref rc, .ref oc, .ref ls, .ref rs, .ref op])) := by
  refine (c_Kerning_tellPair l D q d L f hd x y b hn ha fa hls fls hrs frs hop fop n1 n2 n3).mono (fun v L2 f2 z => ?_)
  rcases z with ⟨z1, ⟨-, z2, z3⟩ | ⟨z4, -⟩⟩
  · rw [tw_max (by omega) (by omega)] at z3
    exact ⟨z2, z1, z3⟩
  · omega
theorem c_Kerning_tellPair_f (hd : 1 ≤ d) {a lc rc oc ls rs op n : Nat} {gl gr go : Nat → Int32} (x y b : Int32) (hn : n ≤ 40) (ha : a ∈ L) (fa : f a = to 5 [.int (nI n), .ref lc, .ref rc, .ref oc, .ref ls, .ref rs, .ref op]) (hls : ls ∈ L) (fls : f ls = ti q 40 gl) (hrs : rs ∈ L) (frs : f rs = ti q 40 gr) (hop : op ∈ L) (fop : f op = ti q 40 go) (n1 : rs ≠ ls) (n2 : op ≠ ls) (n3 : op ≠ rs) (h40 : ¬ tw_pf gl gr x y n 0 < 40) : tf_C l (tf_H D q) d i_Kerning_tellPair [.ref a, .int x, .int y, .int b] L f 0 0 (fun v L2 f2 => v = some (.int (kI 0)) ∧ L2 = L ∧ f2 = f) := by
  refine (c_Kerning_tellPair l D q d L f hd x y b hn ha fa hls fls hrs frs hop fop n1 n2 n3).mono (fun v L2 f2 z => ?_)
  rcases z with ⟨z1, ⟨z4, -⟩ | ⟨-, z2, z3⟩⟩
  · exact absurd z4 h40
  · exact ⟨z2, z1, z3⟩
set_option maxHeartbeats 4000000 in
set_option maxRecDepth 100000 in
theorem c_Tf_pair_n1 (hd : 2 ≤ d) {ad : Nat → Nat} {S : tc_S} {B : Nat → Prop} (h : tc_at q ad S B L f) (hn : S.n ≤ 40) {k : Int32} (hk : ∀ i, i < S.n → k ≠ nI i) (y b : Int32) : tf_C l (tf_H D q) d i_Tf_pair [.ref (ad 0), .int k, .int y, .int b] L f 0 0 (tf_rd (.int (kI 0)) L f) := by
  obtain ⟨hx, fx⟩ := tc_c0 h
  
  refine tf_C.of (tf_gok _ _) (by decide) w_305 (Nat.le_of_ble_eq_true rfl) ?_
  refine tf_blk _ b_Tf_pair_0 rfl ?_
  refine tf_cV (tf_gok _ _) (c_find_n l D q (d - 1) _ _ (by omega) h hn hk) 5 d_Tf_pair_2 rfl lk_Tf_81 cw_Tf_find (by rfl) in_Tf_find se_Tf_find (by first | assumption | (simp only [List.mem_append, List.mem_singleton]; simp [*])) (by first | assumption | exact va_up_self _ _ _ | (refine tf_u (by first | assumption | (apply Ne.symm; assumption) | (intro hh; subst hh; contradiction) | exact tf_n1 (by assumption) (by assumption) | exact tf_n2 (by assumption) (by assumption)) ?_; first | assumption | exact va_up_self _ _ _ | (refine tf_u (by first | assumption | (apply Ne.symm; assumption) | (intro hh; subst hh; contradiction) | exact tf_n1 (by assumption) (by assumption) | exact tf_n2 (by assumption) (by assumption)) ?_; first | assumption | exact va_up_self _ _ _ | (refine tf_u (by first | assumption | (apply Ne.symm; assumption) | (intro hh; subst hh; contradiction) | exact tf_n1 (by assumption) (by assumption) | exact tf_n2 (by assumption) (by assumption)) ?_; first | assumption | exact va_up_self _ _ _ | (refine tf_u (by first | assumption | (apply Ne.symm; assumption) | (intro hh; subst hh; contradiction) | exact tf_n1 (by assumption) (by assumption) | exact tf_n2 (by assumption) (by assumption)) ?_; first | assumption | exact va_up_self _ _ _ | (refine tf_u (by first | assumption | (apply Ne.symm; assumption) | (intro hh; subst hh; contradiction) | exact tf_n1 (by assumption) (by assumption) | exact tf_n2 (by assumption) (by assumption)) ?_; first | assumption | exact va_up_self _ _ _)))))) (by rfl) (by rfl) (by omega) (by exact Nat.le_of_ble_eq_true rfl) rfl ?_
  rintro v2 L2 f2 ⟨rfl, rfl, rfl⟩
  refine tf_ifnull_n 40 d_Tf_pair_5 rfl ?_
  refine tf_blk _ b_Tf_pair_40 rfl ?_
  refine tf_zret d_Tf_pair_41 rfl (rfl) ?_
  exact ⟨rfl, rfl, rfl⟩
set_option maxHeartbeats 4000000 in
set_option maxRecDepth 100000 in
theorem c_Tf_pair_n2 (hd : 2 ≤ d) {ad : Nat → Nat} {S : tc_S} {B : Nat → Prop} (h : tc_at q ad S B L f) (hn : S.n ≤ 40) {i : Nat} (hi : i < S.n) {k : Int32} (hk : ∀ i, i < S.n → k ≠ nI i) (b : Int32) : tf_C l (tf_H D q) d i_Tf_pair [.ref (ad 0), .int (nI i), .int k, .int b] L f 0 0 (tf_rd (.int (kI 0)) L f) := by
  obtain ⟨hx, fx⟩ := tc_c0 h
  
  refine tf_C.of (tf_gok _ _) (by decide) w_305 (Nat.le_of_ble_eq_true rfl) ?_
  refine tf_blk _ b_Tf_pair_0 rfl ?_
  refine tf_cV (tf_gok _ _) (c_find_r l D q (d - 1) _ _ (by omega) h hn hi) 5 d_Tf_pair_2 rfl lk_Tf_81 cw_Tf_find (by rfl) in_Tf_find se_Tf_find (by first | assumption | (simp only [List.mem_append, List.mem_singleton]; simp [*])) (by first | assumption | exact va_up_self _ _ _ | (refine tf_u (by first | assumption | (apply Ne.symm; assumption) | (intro hh; subst hh; contradiction) | exact tf_n1 (by assumption) (by assumption) | exact tf_n2 (by assumption) (by assumption)) ?_; first | assumption | exact va_up_self _ _ _ | (refine tf_u (by first | assumption | (apply Ne.symm; assumption) | (intro hh; subst hh; contradiction) | exact tf_n1 (by assumption) (by assumption) | exact tf_n2 (by assumption) (by assumption)) ?_; first | assumption | exact va_up_self _ _ _ | (refine tf_u (by first | assumption | (apply Ne.symm; assumption) | (intro hh; subst hh; contradiction) | exact tf_n1 (by assumption) (by assumption) | exact tf_n2 (by assumption) (by assumption)) ?_; first | assumption | exact va_up_self _ _ _ | (refine tf_u (by first | assumption | (apply Ne.symm; assumption) | (intro hh; subst hh; contradiction) | exact tf_n1 (by assumption) (by assumption) | exact tf_n2 (by assumption) (by assumption)) ?_; first | assumption | exact va_up_self _ _ _ | (refine tf_u (by first | assumption | (apply Ne.symm; assumption) | (intro hh; subst hh; contradiction) | exact tf_n1 (by assumption) (by assumption) | exact tf_n2 (by assumption) (by assumption)) ?_; first | assumption | exact va_up_self _ _ _)))))) (by rfl) (by rfl) (by omega) (by exact Nat.le_of_ble_eq_true rfl) rfl ?_
  rintro v2 L2 f2 ⟨rfl, rfl, rfl⟩
  refine tf_ifnull_r 8 d_Tf_pair_5 rfl ?_
  refine tf_blk _ b_Tf_pair_8 rfl ?_
  refine tf_cV (tf_gok _ _) (c_find_n l D q (d - 1) _ _ (by omega) h hn hk) 13 d_Tf_pair_10 rfl lk_Tf_81 cw_Tf_find (by rfl) in_Tf_find se_Tf_find (by first | assumption | (simp only [List.mem_append, List.mem_singleton]; simp [*])) (by first | assumption | exact va_up_self _ _ _ | (refine tf_u (by first | assumption | (apply Ne.symm; assumption) | (intro hh; subst hh; contradiction) | exact tf_n1 (by assumption) (by assumption) | exact tf_n2 (by assumption) (by assumption)) ?_; first | assumption | exact va_up_self _ _ _ | (refine tf_u (by first | assumption | (apply Ne.symm; assumption) | (intro hh; subst hh; contradiction) | exact tf_n1 (by assumption) (by assumption) | exact tf_n2 (by assumption) (by assumption)) ?_; first | assumption | exact va_up_self _ _ _ | (refine tf_u (by first | assumption | (apply Ne.symm; assumption) | (intro hh; subst hh; contradiction) | exact tf_n1 (by assumption) (by assumption) | exact tf_n2 (by assumption) (by assumption)) ?_; first | assumption | exact va_up_self _ _ _ | (refine tf_u (by first | assumption | (apply Ne.symm; assumption) | (intro hh; subst hh; contradiction) | exact tf_n1 (by assumption) (by assumption) | exact tf_n2 (by assumption) (by assumption)) ?_; first | assumption | exact va_up_self _ _ _ | (refine tf_u (by first | assumption | (apply Ne.symm; assumption) | (intro hh; subst hh; contradiction) | exact tf_n1 (by assumption) (by assumption) | exact tf_n2 (by assumption) (by assumption)) ?_; first | assumption | exact va_up_self _ _ _)))))) (by rfl) (by rfl) (by omega) (by exact Nat.le_of_ble_eq_true rfl) rfl ?_
  rintro v10 L10 f10 ⟨rfl, rfl, rfl⟩
  refine tf_ifnull_n 40 d_Tf_pair_13 rfl ?_
  refine tf_blk _ b_Tf_pair_40 rfl ?_
  refine tf_zret d_Tf_pair_41 rfl (rfl) ?_
  exact ⟨rfl, rfl, rfl⟩
set_option maxHeartbeats 4000000 in
set_option maxRecDepth 100000 in
theorem c_Tf_pair_t (hd : 3 ≤ d) {ad : Nat → Nat} {S : tc_S} {B : Nat → Prop} (h : tc_at q ad S B L f) (hn : S.n ≤ 40) (hp : S.kp ≤ 40) {i j : Nat} (hi : i < S.n) (hj : j < S.n) (b : Int32) (h40 : tc_pairAt i j S < 40) : tf_C l (tf_H D q) d i_Tf_pair [.ref (ad 0), .int (nI i), .int (nI j), .int b] L f 0 0 (tc_po q ad B L f (tc_pair i j b S).1 (tc_pair i j b S).2) := by
  obtain ⟨hx, fx⟩ := tc_c0 h
  obtain ⟨hk, fk⟩ := tc_c16 h
  obtain ⟨hl0, fl0⟩ := tc_c20 h
  obtain ⟨hr0, fr0⟩ := tc_c21 h
  obtain ⟨ho0, fo0⟩ := tc_c22 h
  refine tf_C.of (tf_gok _ _) (by decide) w_305 (Nat.le_of_ble_eq_true rfl) ?_
  refine tf_blk _ b_Tf_pair_0 rfl ?_
  refine tf_cV (tf_gok _ _) (c_find_r l D q (d - 1) _ _ (by omega) h hn hi) 5 d_Tf_pair_2 rfl lk_Tf_81 cw_Tf_find (by rfl) in_Tf_find se_Tf_find (by first | assumption | (simp only [List.mem_append, List.mem_singleton]; simp [*])) (by first | assumption | exact va_up_self _ _ _ | (refine tf_u (by first | assumption | (apply Ne.symm; assumption) | (intro hh; subst hh; contradiction) | exact tf_n1 (by assumption) (by assumption) | exact tf_n2 (by assumption) (by assumption)) ?_; first | assumption | exact va_up_self _ _ _ | (refine tf_u (by first | assumption | (apply Ne.symm; assumption) | (intro hh; subst hh; contradiction) | exact tf_n1 (by assumption) (by assumption) | exact tf_n2 (by assumption) (by assumption)) ?_; first | assumption | exact va_up_self _ _ _ | (refine tf_u (by first | assumption | (apply Ne.symm; assumption) | (intro hh; subst hh; contradiction) | exact tf_n1 (by assumption) (by assumption) | exact tf_n2 (by assumption) (by assumption)) ?_; first | assumption | exact va_up_self _ _ _ | (refine tf_u (by first | assumption | (apply Ne.symm; assumption) | (intro hh; subst hh; contradiction) | exact tf_n1 (by assumption) (by assumption) | exact tf_n2 (by assumption) (by assumption)) ?_; first | assumption | exact va_up_self _ _ _ | (refine tf_u (by first | assumption | (apply Ne.symm; assumption) | (intro hh; subst hh; contradiction) | exact tf_n1 (by assumption) (by assumption) | exact tf_n2 (by assumption) (by assumption)) ?_; first | assumption | exact va_up_self _ _ _)))))) (by rfl) (by rfl) (by omega) (by exact Nat.le_of_ble_eq_true rfl) rfl ?_
  rintro v2 L2 f2 ⟨rfl, rfl, rfl⟩
  refine tf_ifnull_r 8 d_Tf_pair_5 rfl ?_
  refine tf_blk _ b_Tf_pair_8 rfl ?_
  refine tf_cV (tf_gok _ _) (c_find_r l D q (d - 1) _ _ (by omega) h hn hj) 13 d_Tf_pair_10 rfl lk_Tf_81 cw_Tf_find (by rfl) in_Tf_find se_Tf_find (by first | assumption | (simp only [List.mem_append, List.mem_singleton]; simp [*])) (by first | assumption | exact va_up_self _ _ _ | (refine tf_u (by first | assumption | (apply Ne.symm; assumption) | (intro hh; subst hh; contradiction) | exact tf_n1 (by assumption) (by assumption) | exact tf_n2 (by assumption) (by assumption)) ?_; first | assumption | exact va_up_self _ _ _ | (refine tf_u (by first | assumption | (apply Ne.symm; assumption) | (intro hh; subst hh; contradiction) | exact tf_n1 (by assumption) (by assumption) | exact tf_n2 (by assumption) (by assumption)) ?_; first | assumption | exact va_up_self _ _ _ | (refine tf_u (by first | assumption | (apply Ne.symm; assumption) | (intro hh; subst hh; contradiction) | exact tf_n1 (by assumption) (by assumption) | exact tf_n2 (by assumption) (by assumption)) ?_; first | assumption | exact va_up_self _ _ _ | (refine tf_u (by first | assumption | (apply Ne.symm; assumption) | (intro hh; subst hh; contradiction) | exact tf_n1 (by assumption) (by assumption) | exact tf_n2 (by assumption) (by assumption)) ?_; first | assumption | exact va_up_self _ _ _ | (refine tf_u (by first | assumption | (apply Ne.symm; assumption) | (intro hh; subst hh; contradiction) | exact tf_n1 (by assumption) (by assumption) | exact tf_n2 (by assumption) (by assumption)) ?_; first | assumption | exact va_up_self _ _ _)))))) (by rfl) (by rfl) (by omega) (by exact Nat.le_of_ble_eq_true rfl) rfl ?_
  rintro v10 L10 f10 ⟨rfl, rfl, rfl⟩
  refine tf_ifnull_r 16 d_Tf_pair_13 rfl ?_
  refine tf_blk _ b_Tf_pair_16 rfl ?_
  refine tf_cS (tf_gok _ _) (c_Tf_isKerning l D q (d - 1) _ _ (by omega) _) 20 d_Tf_pair_17 rfl lk_Tf_212 cw_Tf_isKerning (by rfl) sa_Tf_isKerning (by omega) (by exact Nat.le_of_ble_eq_true rfl) rfl ?_
  rintro v17 L17 f17 ⟨rfl, rfl, rfl⟩
  refine tf_if_eq 40 23 d_Tf_pair_20 rfl rfl (fun h20 => ?_) (fun h20 => ?_)
  · refine tf_blk _ b_Tf_pair_40 rfl ?_
    refine tf_zret d_Tf_pair_41 rfl (rfl) ?_
    rw [show tc_pair i j b S = (kI 0, S) from if_neg (fun z => absurd z.1 (by rw [bI_f h20]; decide))]
    exact ⟨rfl, rfl, h, fun _ _ => rfl⟩
  · refine tf_blk _ b_Tf_pair_23 rfl ?_
    refine tf_get (fs := ?fs_24_20) (v := ?v_24_20) 27 d_Tf_pair_24 rfl fl_Tf_55 ?ha_24_20 ?hf_24_20 ?hv_24_20 ?kk_24_20
    case ha_24_20 => first | assumption | (simp only [List.mem_append, List.mem_singleton]; simp [*])
    case hf_24_20 => first | assumption | exact va_up_self _ _ _ | (refine tf_u (by first | assumption | (apply Ne.symm; assumption) | (intro hh; subst hh; contradiction) | exact tf_n1 (by assumption) (by assumption) | exact tf_n2 (by assumption) (by assumption)) ?_; first | assumption | exact va_up_self _ _ _ | (refine tf_u (by first | assumption | (apply Ne.symm; assumption) | (intro hh; subst hh; contradiction) | exact tf_n1 (by assumption) (by assumption) | exact tf_n2 (by assumption) (by assumption)) ?_; first | assumption | exact va_up_self _ _ _ | (refine tf_u (by first | assumption | (apply Ne.symm; assumption) | (intro hh; subst hh; contradiction) | exact tf_n1 (by assumption) (by assumption) | exact tf_n2 (by assumption) (by assumption)) ?_; first | assumption | exact va_up_self _ _ _ | (refine tf_u (by first | assumption | (apply Ne.symm; assumption) | (intro hh; subst hh; contradiction) | exact tf_n1 (by assumption) (by assumption) | exact tf_n2 (by assumption) (by assumption)) ?_; first | assumption | exact va_up_self _ _ _ | (refine tf_u (by first | assumption | (apply Ne.symm; assumption) | (intro hh; subst hh; contradiction) | exact tf_n1 (by assumption) (by assumption) | exact tf_n2 (by assumption) (by assumption)) ?_; first | assumption | exact va_up_self _ _ _)))))
    case hv_24_20 => rfl
    refine tf_blk _ b_Tf_pair_27 rfl ?_
    refine tf_cV (tf_gok _ _) (c_Kerning_tellPair_t l D q (d - 1) _ _ (by omega) (nI i) (nI j) b hp hk fk hl0 fl0 hr0 fr0 ho0 fo0 (tc_neF h (by decide) (by decide) (by decide)) (tc_neF h (by decide) (by decide) (by decide)) (tc_neF h (by decide) (by decide) (by decide)) h40) 33 d_Tf_pair_30 rfl lk_Tf_218 cw_Kerning_tellPair (by rfl) in_Kerning_tellPair se_Kerning_tellPair (by first | assumption | (simp only [List.mem_append, List.mem_singleton]; simp [*])) (by first | assumption | exact va_up_self _ _ _ | (refine tf_u (by first | assumption | (apply Ne.symm; assumption) | (intro hh; subst hh; contradiction) | exact tf_n1 (by assumption) (by assumption) | exact tf_n2 (by assumption) (by assumption)) ?_; first | assumption | exact va_up_self _ _ _ | (refine tf_u (by first | assumption | (apply Ne.symm; assumption) | (intro hh; subst hh; contradiction) | exact tf_n1 (by assumption) (by assumption) | exact tf_n2 (by assumption) (by assumption)) ?_; first | assumption | exact va_up_self _ _ _ | (refine tf_u (by first | assumption | (apply Ne.symm; assumption) | (intro hh; subst hh; contradiction) | exact tf_n1 (by assumption) (by assumption) | exact tf_n2 (by assumption) (by assumption)) ?_; first | assumption | exact va_up_self _ _ _ | (refine tf_u (by first | assumption | (apply Ne.symm; assumption) | (intro hh; subst hh; contradiction) | exact tf_n1 (by assumption) (by assumption) | exact tf_n2 (by assumption) (by assumption)) ?_; first | assumption | exact va_up_self _ _ _ | (refine tf_u (by first | assumption | (apply Ne.symm; assumption) | (intro hh; subst hh; contradiction) | exact tf_n1 (by assumption) (by assumption) | exact tf_n2 (by assumption) (by assumption)) ?_; first | assumption | exact va_up_self _ _ _)))))) (by rfl) (by rfl) (by omega) (by exact Nat.le_of_ble_eq_true rfl) rfl ?_
    rintro v30 L30 f30 ⟨rfl, rfl, rfl⟩
    refine tf_if_eq 40 36 d_Tf_pair_33 rfl rfl (fun h33 => absurd h33 (show ¬ kI 1 = 0 by decide)) (fun h33 => ?_)
    refine tf_blk _ b_Tf_pair_36 rfl ?_
    refine tf_goto 41 d_Tf_pair_37 rfl ?_
    refine tf_zret d_Tf_pair_41 rfl (rfl) ?_
    rw [show tc_pair i j b S = (kI 1, _) from if_pos ⟨bI_t h20, h40⟩]
    exact ⟨rfl, rfl, tc_goF (S2 := (tc_S_mk S.mm S.u S.w S.n S.T S.oc S.op S.oA S.pz S.px S.py S.hn S.hy S.cs S.ca S.ce (max S.kp (tc_pairAt i j S + 1)) S.kl S.kr S.kc (upd S.kL (tc_pairAt i j S) (nI i)) (upd S.kR (tc_pairAt i j S) (nI j)) (upd S.kO (tc_pairAt i j S) b) S.row S.rs S.ts S.rn S.pu S.tx S.R)) h [(20, ti q 40 (upd S.kL (tc_pairAt i j S) (nI i))), (21, ti q 40 (upd S.kR (tc_pairAt i j S) (nI j))), (22, ti q 40 (upd S.kO (tc_pairAt i j S) b)), (16, to 5 [.int (nI (max S.kp (tc_pairAt i j S + 1))), .ref (ad 17), .ref (ad 18), .ref (ad 19), .ref (ad 20), .ref (ad 21), .ref (ad 22)])] (by simp) rfl rfl rfl rfl rfl rfl⟩
set_option maxHeartbeats 4000000 in
set_option maxRecDepth 100000 in
theorem c_Tf_pair_f (hd : 3 ≤ d) {ad : Nat → Nat} {S : tc_S} {B : Nat → Prop} (h : tc_at q ad S B L f) (hn : S.n ≤ 40) (hp : S.kp ≤ 40) {i j : Nat} (hi : i < S.n) (hj : j < S.n) (b : Int32) (h40 : ¬ tc_pairAt i j S < 40) : tf_C l (tf_H D q) d i_Tf_pair [.ref (ad 0), .int (nI i), .int (nI j), .int b] L f 0 0 (tc_po q ad B L f (tc_pair i j b S).1 (tc_pair i j b S).2) := by
  obtain ⟨hx, fx⟩ := tc_c0 h
  obtain ⟨hk, fk⟩ := tc_c16 h
  obtain ⟨hl0, fl0⟩ := tc_c20 h
  obtain ⟨hr0, fr0⟩ := tc_c21 h
  obtain ⟨ho0, fo0⟩ := tc_c22 h
  refine tf_C.of (tf_gok _ _) (by decide) w_305 (Nat.le_of_ble_eq_true rfl) ?_
  refine tf_blk _ b_Tf_pair_0 rfl ?_
  refine tf_cV (tf_gok _ _) (c_find_r l D q (d - 1) _ _ (by omega) h hn hi) 5 d_Tf_pair_2 rfl lk_Tf_81 cw_Tf_find (by rfl) in_Tf_find se_Tf_find (by first | assumption | (simp only [List.mem_append, List.mem_singleton]; simp [*])) (by first | assumption | exact va_up_self _ _ _ | (refine tf_u (by first | assumption | (apply Ne.symm; assumption) | (intro hh; subst hh; contradiction) | exact tf_n1 (by assumption) (by assumption) | exact tf_n2 (by assumption) (by assumption)) ?_; first | assumption | exact va_up_self _ _ _ | (refine tf_u (by first | assumption | (apply Ne.symm; assumption) | (intro hh; subst hh; contradiction) | exact tf_n1 (by assumption) (by assumption) | exact tf_n2 (by assumption) (by assumption)) ?_; first | assumption | exact va_up_self _ _ _ | (refine tf_u (by first | assumption | (apply Ne.symm; assumption) | (intro hh; subst hh; contradiction) | exact tf_n1 (by assumption) (by assumption) | exact tf_n2 (by assumption) (by assumption)) ?_; first | assumption | exact va_up_self _ _ _ | (refine tf_u (by first | assumption | (apply Ne.symm; assumption) | (intro hh; subst hh; contradiction) | exact tf_n1 (by assumption) (by assumption) | exact tf_n2 (by assumption) (by assumption)) ?_; first | assumption | exact va_up_self _ _ _ | (refine tf_u (by first | assumption | (apply Ne.symm; assumption) | (intro hh; subst hh; contradiction) | exact tf_n1 (by assumption) (by assumption) | exact tf_n2 (by assumption) (by assumption)) ?_; first | assumption | exact va_up_self _ _ _)))))) (by rfl) (by rfl) (by omega) (by exact Nat.le_of_ble_eq_true rfl) rfl ?_
  rintro v2 L2 f2 ⟨rfl, rfl, rfl⟩
  refine tf_ifnull_r 8 d_Tf_pair_5 rfl ?_
  refine tf_blk _ b_Tf_pair_8 rfl ?_
  refine tf_cV (tf_gok _ _) (c_find_r l D q (d - 1) _ _ (by omega) h hn hj) 13 d_Tf_pair_10 rfl lk_Tf_81 cw_Tf_find (by rfl) in_Tf_find se_Tf_find (by first | assumption | (simp only [List.mem_append, List.mem_singleton]; simp [*])) (by first | assumption | exact va_up_self _ _ _ | (refine tf_u (by first | assumption | (apply Ne.symm; assumption) | (intro hh; subst hh; contradiction) | exact tf_n1 (by assumption) (by assumption) | exact tf_n2 (by assumption) (by assumption)) ?_; first | assumption | exact va_up_self _ _ _ | (refine tf_u (by first | assumption | (apply Ne.symm; assumption) | (intro hh; subst hh; contradiction) | exact tf_n1 (by assumption) (by assumption) | exact tf_n2 (by assumption) (by assumption)) ?_; first | assumption | exact va_up_self _ _ _ | (refine tf_u (by first | assumption | (apply Ne.symm; assumption) | (intro hh; subst hh; contradiction) | exact tf_n1 (by assumption) (by assumption) | exact tf_n2 (by assumption) (by assumption)) ?_; first | assumption | exact va_up_self _ _ _ | (refine tf_u (by first | assumption | (apply Ne.symm; assumption) | (intro hh; subst hh; contradiction) | exact tf_n1 (by assumption) (by assumption) | exact tf_n2 (by assumption) (by assumption)) ?_; first | assumption | exact va_up_self _ _ _ | (refine tf_u (by first | assumption | (apply Ne.symm; assumption) | (intro hh; subst hh; contradiction) | exact tf_n1 (by assumption) (by assumption) | exact tf_n2 (by assumption) (by assumption)) ?_; first | assumption | exact va_up_self _ _ _)))))) (by rfl) (by rfl) (by omega) (by exact Nat.le_of_ble_eq_true rfl) rfl ?_
  rintro v10 L10 f10 ⟨rfl, rfl, rfl⟩
  refine tf_ifnull_r 16 d_Tf_pair_13 rfl ?_
  refine tf_blk _ b_Tf_pair_16 rfl ?_
  refine tf_cS (tf_gok _ _) (c_Tf_isKerning l D q (d - 1) _ _ (by omega) _) 20 d_Tf_pair_17 rfl lk_Tf_212 cw_Tf_isKerning (by rfl) sa_Tf_isKerning (by omega) (by exact Nat.le_of_ble_eq_true rfl) rfl ?_
  rintro v17 L17 f17 ⟨rfl, rfl, rfl⟩
  refine tf_if_eq 40 23 d_Tf_pair_20 rfl rfl (fun h20 => ?_) (fun h20 => ?_)
  · refine tf_blk _ b_Tf_pair_40 rfl ?_
    refine tf_zret d_Tf_pair_41 rfl (rfl) ?_
    rw [show tc_pair i j b S = (kI 0, S) from if_neg (fun z => h40 z.2)]
    exact ⟨rfl, rfl, h, fun _ _ => rfl⟩
  · refine tf_blk _ b_Tf_pair_23 rfl ?_
    refine tf_get (fs := ?fs_24_27) (v := ?v_24_27) 27 d_Tf_pair_24 rfl fl_Tf_55 ?ha_24_27 ?hf_24_27 ?hv_24_27 ?kk_24_27
    case ha_24_27 => first | assumption | (simp only [List.mem_append, List.mem_singleton]; simp [*])
    case hf_24_27 => first | assumption | exact va_up_self _ _ _ | (refine tf_u (by first | assumption | (apply Ne.symm; assumption) | (intro hh; subst hh; contradiction) | exact tf_n1 (by assumption) (by assumption) | exact tf_n2 (by assumption) (by assumption)) ?_; first | assumption | exact va_up_self _ _ _ | (refine tf_u (by first | assumption | (apply Ne.symm; assumption) | (intro hh; subst hh; contradiction) | exact tf_n1 (by assumption) (by assumption) | exact tf_n2 (by assumption) (by assumption)) ?_; first | assumption | exact va_up_self _ _ _ | (refine tf_u (by first | assumption | (apply Ne.symm; assumption) | (intro hh; subst hh; contradiction) | exact tf_n1 (by assumption) (by assumption) | exact tf_n2 (by assumption) (by assumption)) ?_; first | assumption | exact va_up_self _ _ _ | (refine tf_u (by first | assumption | (apply Ne.symm; assumption) | (intro hh; subst hh; contradiction) | exact tf_n1 (by assumption) (by assumption) | exact tf_n2 (by assumption) (by assumption)) ?_; first | assumption | exact va_up_self _ _ _ | (refine tf_u (by first | assumption | (apply Ne.symm; assumption) | (intro hh; subst hh; contradiction) | exact tf_n1 (by assumption) (by assumption) | exact tf_n2 (by assumption) (by assumption)) ?_; first | assumption | exact va_up_self _ _ _)))))
    case hv_24_27 => rfl
    refine tf_blk _ b_Tf_pair_27 rfl ?_
    refine tf_cV (tf_gok _ _) (c_Kerning_tellPair_f l D q (d - 1) _ _ (by omega) (nI i) (nI j) b hp hk fk hl0 fl0 hr0 fr0 ho0 fo0 (tc_neF h (by decide) (by decide) (by decide)) (tc_neF h (by decide) (by decide) (by decide)) (tc_neF h (by decide) (by decide) (by decide)) h40) 33 d_Tf_pair_30 rfl lk_Tf_218 cw_Kerning_tellPair (by rfl) in_Kerning_tellPair se_Kerning_tellPair (by first | assumption | (simp only [List.mem_append, List.mem_singleton]; simp [*])) (by first | assumption | exact va_up_self _ _ _ | (refine tf_u (by first | assumption | (apply Ne.symm; assumption) | (intro hh; subst hh; contradiction) | exact tf_n1 (by assumption) (by assumption) | exact tf_n2 (by assumption) (by assumption)) ?_; first | assumption | exact va_up_self _ _ _ | (refine tf_u (by first | assumption | (apply Ne.symm; assumption) | (intro hh; subst hh; contradiction) | exact tf_n1 (by assumption) (by assumption) | exact tf_n2 (by assumption) (by assumption)) ?_; first | assumption | exact va_up_self _ _ _ | (refine tf_u (by first | assumption | (apply Ne.symm; assumption) | (intro hh; subst hh; contradiction) | exact tf_n1 (by assumption) (by assumption) | exact tf_n2 (by assumption) (by assumption)) ?_; first | assumption | exact va_up_self _ _ _ | (refine tf_u (by first | assumption | (apply Ne.symm; assumption) | (intro hh; subst hh; contradiction) | exact tf_n1 (by assumption) (by assumption) | exact tf_n2 (by assumption) (by assumption)) ?_; first | assumption | exact va_up_self _ _ _ | (refine tf_u (by first | assumption | (apply Ne.symm; assumption) | (intro hh; subst hh; contradiction) | exact tf_n1 (by assumption) (by assumption) | exact tf_n2 (by assumption) (by assumption)) ?_; first | assumption | exact va_up_self _ _ _)))))) (by rfl) (by rfl) (by omega) (by exact Nat.le_of_ble_eq_true rfl) rfl ?_
    rintro v30 L30 f30 ⟨rfl, rfl, rfl⟩
    refine tf_if_eq 40 36 d_Tf_pair_33 rfl rfl (fun h33 => ?_) (fun h33 => absurd (show kI 0 = 0 by decide) h33)
    refine tf_blk _ b_Tf_pair_40 rfl ?_
    refine tf_zret d_Tf_pair_41 rfl (rfl) ?_
    rw [show tc_pair i j b S = (kI 0, S) from if_neg (fun z => h40 z.2)]
    exact ⟨rfl, rfl, h, fun _ _ => rfl⟩
theorem c_Tf_pair (hd : 3 ≤ d) {ad : Nat → Nat} {S : tc_S} {B : Nat → Prop} (h : tc_at q ad S B L f) (hn : S.n ≤ 40) (hp : S.kp ≤ 40) {i j : Nat} (hi : i < S.n) (hj : j < S.n) (b : Int32) : tf_C l (tf_H D q) d i_Tf_pair [.ref (ad 0), .int (nI i), .int (nI j), .int b] L f 0 0 (tc_po q ad B L f (tc_pair i j b S).1 (tc_pair i j b S).2) := by
  by_cases h9 : tc_pairAt i j S < 40
  · exact c_Tf_pair_t l D q d L f hd h hn hp hi hj b h9
  · exact c_Tf_pair_f l D q d L f hd h hn hp hi hj b h9
theorem c_Glyph_endContour_t {a xs ys en : Nat} {v2 v3 v5 : Value} {pt ct cp : Nat} {dp lk ms pc pp ps : Int32} (ha : a ∈ L) (fa : f a = to 3 [.ref xs, .ref ys, v2, v3, .ref en, v5, .int (nI pt), .int (nI ct), .int dp, .int lk, .int ms, .int (nI cp), .int pc, .int pp, .int ps]) {ge : Nat → Int32} (hen : en ∈ L) (fen : f en = ti q 13 ge) (h1 : cp ≤ pt) (h2 : pt ≤ 40) (h3 : 3 * ct ≤ cp) (hl : lk = 0) (h4 : cp + 3 ≤ pt) : tf_C l (tf_H D q) d i_Glyph_endContour [.ref a] L f 0 0 (fun v L2 f2 => v = some (.int (kI 1)) ∧ L2 = L ∧ f2 = va_up (va_up f en (ti q 13 (upd ge ct (nI pt)))) a (to 3 [.ref xs, .ref ys, v2, v3, .ref en, v5, .int (nI pt), .int (nI (ct + 1)), .int dp, .int lk, .int ms, .int (nI pt), .int pc, .int pp, .int ps])) := by
  refine (c_Glyph_endContour l D q d L f ha fa hen fen (fun _ z => vp_in_nI (by rw [nI_subI h1, show kI 3 = nI 3 from rfl] at z; have := (nI_leI (by omega) (by omega)).mp z; omega) (by omega))).mono (fun v L2 f2 z => ?_)
  rcases z with ⟨z1, ⟨-, -, z2, z3⟩ | ⟨z4, -⟩⟩
  · rw [nI_clamp (show ct < 2 ^ 31 by omega), show nI ct + kI 1 = nI (ct + 1) from nI_1 ct] at z3
    exact ⟨z2, z1, z3⟩
  · refine absurd ⟨hl, ?_⟩ z4
    rw [nI_subI h1]
    exact nI_le (a := 3) (by omega) (by omega)
theorem c_Glyph_endContour_f {a xs ys en : Nat} {v2 v3 v5 : Value} {pt ct cp : Nat} {dp lk ms pc pp ps : Int32} (ha : a ∈ L) (fa : f a = to 3 [.ref xs, .ref ys, v2, v3, .ref en, v5, .int (nI pt), .int (nI ct), .int dp, .int lk, .int ms, .int (nI cp), .int pc, .int pp, .int ps]) {ge : Nat → Int32} (hen : en ∈ L) (fen : f en = ti q 13 ge) (h1 : cp ≤ pt) (h2 : pt ≤ 40) (h3 : 3 * ct ≤ cp) (hl : ¬ (lk = 0 ∧ cp + 3 ≤ pt)) : tf_C l (tf_H D q) d i_Glyph_endContour [.ref a] L f 0 0 (fun v L2 f2 => v = some (.int (kI 0)) ∧ L2 = L ∧ f2 = f) := by
  refine (c_Glyph_endContour l D q d L f ha fa hen fen (fun _ z => vp_in_nI (by rw [nI_subI h1, show kI 3 = nI 3 from rfl] at z; have := (nI_leI (by omega) (by omega)).mp z; omega) (by omega))).mono (fun v L2 f2 z => ?_)
  rcases z with ⟨z1, ⟨z4, z5, -⟩ | ⟨-, z2, z3⟩⟩
  · rw [nI_subI h1, show kI 3 = nI 3 from rfl] at z5
    have := (nI_leI (by omega) (by omega)).mp z5
    exact absurd ⟨z4, by omega⟩ hl
  · exact ⟨z2, z1, z3⟩
set_option maxHeartbeats 4000000 in
set_option maxRecDepth 100000 in
theorem c_Tf_close_n (hd : 2 ≤ d) {ad : Nat → Nat} {S : tc_S} {B : Nat → Prop} (h : tc_at q ad S B L f) (hn : S.n ≤ 40) {k : Int32} (hk : ∀ i, i < S.n → k ≠ nI i) : tf_C l (tf_H D q) d i_Tf_close [.ref (ad 0), .int k] L f 0 0 (tf_rd (.int (kI 0)) L f) := by
  obtain ⟨hx, fx⟩ := tc_c0 h
  
  refine tf_C.of (tf_gok _ _) (by decide) w_237 (Nat.le_of_ble_eq_true rfl) ?_
  refine tf_blk _ b_Tf_close_0 rfl ?_
  refine tf_cV (tf_gok _ _) (c_find_n l D q (d - 1) _ _ (by omega) h hn hk) 5 d_Tf_close_2 rfl lk_Tf_81 cw_Tf_find (by rfl) in_Tf_find se_Tf_find (by first | assumption | (simp only [List.mem_append, List.mem_singleton]; simp [*])) (by first | assumption | exact va_up_self _ _ _ | (refine tf_u (by first | assumption | (apply Ne.symm; assumption) | (intro hh; subst hh; contradiction) | exact tf_n1 (by assumption) (by assumption) | exact tf_n2 (by assumption) (by assumption)) ?_; first | assumption | exact va_up_self _ _ _ | (refine tf_u (by first | assumption | (apply Ne.symm; assumption) | (intro hh; subst hh; contradiction) | exact tf_n1 (by assumption) (by assumption) | exact tf_n2 (by assumption) (by assumption)) ?_; first | assumption | exact va_up_self _ _ _ | (refine tf_u (by first | assumption | (apply Ne.symm; assumption) | (intro hh; subst hh; contradiction) | exact tf_n1 (by assumption) (by assumption) | exact tf_n2 (by assumption) (by assumption)) ?_; first | assumption | exact va_up_self _ _ _ | (refine tf_u (by first | assumption | (apply Ne.symm; assumption) | (intro hh; subst hh; contradiction) | exact tf_n1 (by assumption) (by assumption) | exact tf_n2 (by assumption) (by assumption)) ?_; first | assumption | exact va_up_self _ _ _ | (refine tf_u (by first | assumption | (apply Ne.symm; assumption) | (intro hh; subst hh; contradiction) | exact tf_n1 (by assumption) (by assumption) | exact tf_n2 (by assumption) (by assumption)) ?_; first | assumption | exact va_up_self _ _ _)))))) (by rfl) (by rfl) (by omega) (by exact Nat.le_of_ble_eq_true rfl) rfl ?_
  rintro v2 L2 f2 ⟨rfl, rfl, rfl⟩
  refine tf_blk _ b_Tf_close_5 rfl ?_
  refine tf_ifnull_n 21 d_Tf_close_7 rfl ?_
  refine tf_blk _ b_Tf_close_21 rfl ?_
  refine tf_zret d_Tf_close_22 rfl (rfl) ?_
  exact ⟨rfl, rfl, rfl⟩
set_option maxHeartbeats 4000000 in
set_option maxRecDepth 100000 in
theorem c_Tf_close_t (hd : 2 ≤ d) {ad : Nat → Nat} {S : tc_S} {B : Nat → Prop} (h : tc_at q ad S B L f) (hn : S.n ≤ 40) {i : Nat} (hi : i < S.n) (h1 : (S.T i).cp ≤ (S.T i).pt) (h2 : (S.T i).pt ≤ 40) (h3 : 3 * (S.T i).ct ≤ (S.T i).cp) (hl : (S.T i).lk = false ∧ (S.T i).cp + 3 ≤ (S.T i).pt) : tf_C l (tf_H D q) d i_Tf_close [.ref (ad 0), .int (nI i)] L f 0 0 (tc_po q ad B L f (tc_close i S).1 (tc_close i S).2) := by
  obtain ⟨hx, fx⟩ := tc_c0 h
  obtain ⟨hg, fg⟩ := tc_g0 h hi
  obtain ⟨he, fe⟩ := tc_g5 h hi
  refine tf_C.of (tf_gok _ _) (by decide) w_237 (Nat.le_of_ble_eq_true rfl) ?_
  refine tf_blk _ b_Tf_close_0 rfl ?_
  refine tf_cV (tf_gok _ _) (c_find_r l D q (d - 1) _ _ (by omega) h hn hi) 5 d_Tf_close_2 rfl lk_Tf_81 cw_Tf_find (by rfl) in_Tf_find se_Tf_find (by first | assumption | (simp only [List.mem_append, List.mem_singleton]; simp [*])) (by first | assumption | exact va_up_self _ _ _ | (refine tf_u (by first | assumption | (apply Ne.symm; assumption) | (intro hh; subst hh; contradiction) | exact tf_n1 (by assumption) (by assumption) | exact tf_n2 (by assumption) (by assumption)) ?_; first | assumption | exact va_up_self _ _ _ | (refine tf_u (by first | assumption | (apply Ne.symm; assumption) | (intro hh; subst hh; contradiction) | exact tf_n1 (by assumption) (by assumption) | exact tf_n2 (by assumption) (by assumption)) ?_; first | assumption | exact va_up_self _ _ _ | (refine tf_u (by first | assumption | (apply Ne.symm; assumption) | (intro hh; subst hh; contradiction) | exact tf_n1 (by assumption) (by assumption) | exact tf_n2 (by assumption) (by assumption)) ?_; first | assumption | exact va_up_self _ _ _ | (refine tf_u (by first | assumption | (apply Ne.symm; assumption) | (intro hh; subst hh; contradiction) | exact tf_n1 (by assumption) (by assumption) | exact tf_n2 (by assumption) (by assumption)) ?_; first | assumption | exact va_up_self _ _ _ | (refine tf_u (by first | assumption | (apply Ne.symm; assumption) | (intro hh; subst hh; contradiction) | exact tf_n1 (by assumption) (by assumption) | exact tf_n2 (by assumption) (by assumption)) ?_; first | assumption | exact va_up_self _ _ _)))))) (by rfl) (by rfl) (by omega) (by exact Nat.le_of_ble_eq_true rfl) rfl ?_
  rintro v2 L2 f2 ⟨rfl, rfl, rfl⟩
  refine tf_blk _ b_Tf_close_5 rfl ?_
  refine tf_ifnull_r 10 d_Tf_close_7 rfl ?_
  refine tf_blk _ b_Tf_close_10 rfl ?_
  refine tf_cV (tf_gok _ _) (c_Glyph_endContour_t l D q (d - 1) _ _ hg fg he fe h1 h2 h3 (by rw [hl.1]; rfl) hl.2) 14 d_Tf_close_11 rfl lk_Tf_107 cw_Glyph_endContour (by rfl) in_Glyph_endContour se_Glyph_endContour (by first | assumption | (simp only [List.mem_append, List.mem_singleton]; simp [*])) (by first | assumption | exact va_up_self _ _ _ | (refine tf_u (by first | assumption | (apply Ne.symm; assumption) | (intro hh; subst hh; contradiction) | exact tf_n1 (by assumption) (by assumption) | exact tf_n2 (by assumption) (by assumption)) ?_; first | assumption | exact va_up_self _ _ _ | (refine tf_u (by first | assumption | (apply Ne.symm; assumption) | (intro hh; subst hh; contradiction) | exact tf_n1 (by assumption) (by assumption) | exact tf_n2 (by assumption) (by assumption)) ?_; first | assumption | exact va_up_self _ _ _ | (refine tf_u (by first | assumption | (apply Ne.symm; assumption) | (intro hh; subst hh; contradiction) | exact tf_n1 (by assumption) (by assumption) | exact tf_n2 (by assumption) (by assumption)) ?_; first | assumption | exact va_up_self _ _ _ | (refine tf_u (by first | assumption | (apply Ne.symm; assumption) | (intro hh; subst hh; contradiction) | exact tf_n1 (by assumption) (by assumption) | exact tf_n2 (by assumption) (by assumption)) ?_; first | assumption | exact va_up_self _ _ _ | (refine tf_u (by first | assumption | (apply Ne.symm; assumption) | (intro hh; subst hh; contradiction) | exact tf_n1 (by assumption) (by assumption) | exact tf_n2 (by assumption) (by assumption)) ?_; first | assumption | exact va_up_self _ _ _)))))) (by rfl) (by rfl) (by omega) (by exact Nat.le_of_ble_eq_true rfl) rfl ?_
  rintro v11 L11 f11 ⟨rfl, rfl, rfl⟩
  refine tf_if_eq 21 17 d_Tf_close_14 rfl rfl (fun h14 => absurd h14 (show ¬ kI 1 = 0 by decide)) (fun h14 => ?_)
  refine tf_blk _ b_Tf_close_17 rfl ?_
  refine tf_goto 22 d_Tf_close_18 rfl ?_
  refine tf_zret d_Tf_close_22 rfl (rfl) ?_
  rw [show tc_close i S = (kI 1, _) from if_pos hl]
  exact ⟨rfl, rfl, tc_goG h hi (tc_G_mk (S.T i).X (S.T i).Y (S.T i).W (S.T i).O (upd (S.T i).E (S.T i).ct (nI (S.T i).pt)) (S.T i).pt ((S.T i).ct + 1) (S.T i).dp (S.T i).lk ((S.T i).pt) (S.T i).pc (S.T i).pp (S.T i).ps (S.T i).src (S.T i).dx (S.T i).dy (S.T i).tu) [(5, ti q 13 (upd (S.T i).E (S.T i).ct (nI (S.T i).pt))), (0, to 3 [.ref (ad (tc_k i 1)), .ref (ad (tc_k i 2)), .ref (ad (tc_k i 3)), .ref (ad (tc_k i 4)), .ref (ad (tc_k i 5)), .ref (ad (tc_k i 6)), .int (nI (S.T i).pt), .int (nI ((S.T i).ct + 1)), .int (nI (S.T i).dp), .int (bI (S.T i).lk), .int (nI S.mm), .int (nI (S.T i).pt), .int (nI (S.T i).pc), .int (nI (S.T i).pp), .int (nI (S.T i).ps)])] (by simp) rfl rfl rfl rfl rfl rfl⟩
set_option maxHeartbeats 4000000 in
set_option maxRecDepth 100000 in
theorem c_Tf_close_f (hd : 2 ≤ d) {ad : Nat → Nat} {S : tc_S} {B : Nat → Prop} (h : tc_at q ad S B L f) (hn : S.n ≤ 40) {i : Nat} (hi : i < S.n) (h1 : (S.T i).cp ≤ (S.T i).pt) (h2 : (S.T i).pt ≤ 40) (h3 : 3 * (S.T i).ct ≤ (S.T i).cp) (hl : ¬ ((S.T i).lk = false ∧ (S.T i).cp + 3 ≤ (S.T i).pt)) : tf_C l (tf_H D q) d i_Tf_close [.ref (ad 0), .int (nI i)] L f 0 0 (tc_po q ad B L f (tc_close i S).1 (tc_close i S).2) := by
  obtain ⟨hx, fx⟩ := tc_c0 h
  obtain ⟨hg, fg⟩ := tc_g0 h hi
  obtain ⟨he, fe⟩ := tc_g5 h hi
  refine tf_C.of (tf_gok _ _) (by decide) w_237 (Nat.le_of_ble_eq_true rfl) ?_
  refine tf_blk _ b_Tf_close_0 rfl ?_
  refine tf_cV (tf_gok _ _) (c_find_r l D q (d - 1) _ _ (by omega) h hn hi) 5 d_Tf_close_2 rfl lk_Tf_81 cw_Tf_find (by rfl) in_Tf_find se_Tf_find (by first | assumption | (simp only [List.mem_append, List.mem_singleton]; simp [*])) (by first | assumption | exact va_up_self _ _ _ | (refine tf_u (by first | assumption | (apply Ne.symm; assumption) | (intro hh; subst hh; contradiction) | exact tf_n1 (by assumption) (by assumption) | exact tf_n2 (by assumption) (by assumption)) ?_; first | assumption | exact va_up_self _ _ _ | (refine tf_u (by first | assumption | (apply Ne.symm; assumption) | (intro hh; subst hh; contradiction) | exact tf_n1 (by assumption) (by assumption) | exact tf_n2 (by assumption) (by assumption)) ?_; first | assumption | exact va_up_self _ _ _ | (refine tf_u (by first | assumption | (apply Ne.symm; assumption) | (intro hh; subst hh; contradiction) | exact tf_n1 (by assumption) (by assumption) | exact tf_n2 (by assumption) (by assumption)) ?_; first | assumption | exact va_up_self _ _ _ | (refine tf_u (by first | assumption | (apply Ne.symm; assumption) | (intro hh; subst hh; contradiction) | exact tf_n1 (by assumption) (by assumption) | exact tf_n2 (by assumption) (by assumption)) ?_; first | assumption | exact va_up_self _ _ _ | (refine tf_u (by first | assumption | (apply Ne.symm; assumption) | (intro hh; subst hh; contradiction) | exact tf_n1 (by assumption) (by assumption) | exact tf_n2 (by assumption) (by assumption)) ?_; first | assumption | exact va_up_self _ _ _)))))) (by rfl) (by rfl) (by omega) (by exact Nat.le_of_ble_eq_true rfl) rfl ?_
  rintro v2 L2 f2 ⟨rfl, rfl, rfl⟩
  refine tf_blk _ b_Tf_close_5 rfl ?_
  refine tf_ifnull_r 10 d_Tf_close_7 rfl ?_
  refine tf_blk _ b_Tf_close_10 rfl ?_
  refine tf_cV (tf_gok _ _) (c_Glyph_endContour_f l D q (d - 1) _ _ hg fg he fe h1 h2 h3 (fun z => hl ⟨bI_f z.1, z.2⟩)) 14 d_Tf_close_11 rfl lk_Tf_107 cw_Glyph_endContour (by rfl) in_Glyph_endContour se_Glyph_endContour (by first | assumption | (simp only [List.mem_append, List.mem_singleton]; simp [*])) (by first | assumption | exact va_up_self _ _ _ | (refine tf_u (by first | assumption | (apply Ne.symm; assumption) | (intro hh; subst hh; contradiction) | exact tf_n1 (by assumption) (by assumption) | exact tf_n2 (by assumption) (by assumption)) ?_; first | assumption | exact va_up_self _ _ _ | (refine tf_u (by first | assumption | (apply Ne.symm; assumption) | (intro hh; subst hh; contradiction) | exact tf_n1 (by assumption) (by assumption) | exact tf_n2 (by assumption) (by assumption)) ?_; first | assumption | exact va_up_self _ _ _ | (refine tf_u (by first | assumption | (apply Ne.symm; assumption) | (intro hh; subst hh; contradiction) | exact tf_n1 (by assumption) (by assumption) | exact tf_n2 (by assumption) (by assumption)) ?_; first | assumption | exact va_up_self _ _ _ | (refine tf_u (by first | assumption | (apply Ne.symm; assumption) | (intro hh; subst hh; contradiction) | exact tf_n1 (by assumption) (by assumption) | exact tf_n2 (by assumption) (by assumption)) ?_; first | assumption | exact va_up_self _ _ _ | (refine tf_u (by first | assumption | (apply Ne.symm; assumption) | (intro hh; subst hh; contradiction) | exact tf_n1 (by assumption) (by assumption) | exact tf_n2 (by assumption) (by assumption)) ?_; first | assumption | exact va_up_self _ _ _)))))) (by rfl) (by rfl) (by omega) (by exact Nat.le_of_ble_eq_true rfl) rfl ?_
  rintro v11 L11 f11 ⟨rfl, rfl, rfl⟩
  refine tf_if_eq 21 17 d_Tf_close_14 rfl rfl (fun h14 => ?_) (fun h14 => absurd (show kI 0 = 0 by decide) h14)
  refine tf_blk _ b_Tf_close_21 rfl ?_
  refine tf_zret d_Tf_close_22 rfl (rfl) ?_
  rw [show tc_close i S = (kI 0, S) from if_neg hl]
  exact ⟨rfl, rfl, h, fun _ _ => rfl⟩
theorem c_Tf_close (hd : 2 ≤ d) {ad : Nat → Nat} {S : tc_S} {B : Nat → Prop} (h : tc_at q ad S B L f) (hn : S.n ≤ 40) {i : Nat} (hi : i < S.n) (h1 : (S.T i).cp ≤ (S.T i).pt) (h2 : (S.T i).pt ≤ 40) (h3 : 3 * (S.T i).ct ≤ (S.T i).cp) : tf_C l (tf_H D q) d i_Tf_close [.ref (ad 0), .int (nI i)] L f 0 0 (tc_po q ad B L f (tc_close i S).1 (tc_close i S).2) := by
  by_cases hl : (S.T i).lk = false ∧ (S.T i).cp + 3 ≤ (S.T i).pt
  · exact c_Tf_close_t l D q d L f hd h hn hi h1 h2 h3 hl
  · exact c_Tf_close_f l D q d L f hd h hn hi h1 h2 h3 hl
set_option maxHeartbeats 4000000 in
set_option maxRecDepth 100000 in
theorem c_Tf_advance_n (hd : 2 ≤ d) {ad : Nat → Nat} {S : tc_S} {B : Nat → Prop} (h : tc_at q ad S B L f) (hn : S.n ≤ 40) {k : Int32} (hk : ∀ i, i < S.n → k ≠ nI i) (m w : Int32) : tf_C l (tf_H D q) d i_Tf_advance [.ref (ad 0), .int k, .int m, .int w] L f 0 0 (tf_rd (.int (kI 0)) L f) := by
  obtain ⟨hx, fx⟩ := tc_c0 h
  
  refine tf_C.of (tf_gok _ _) (by decide) w_252 (Nat.le_of_ble_eq_true rfl) ?_
  refine tf_blk _ b_Tf_advance_0 rfl ?_
  refine tf_cV (tf_gok _ _) (c_find_n l D q (d - 1) _ _ (by omega) h hn hk) 5 d_Tf_advance_2 rfl lk_Tf_81 cw_Tf_find (by rfl) in_Tf_find se_Tf_find (by first | assumption | (simp only [List.mem_append, List.mem_singleton]; simp [*])) (by first | assumption | exact va_up_self _ _ _ | (refine tf_u (by first | assumption | (apply Ne.symm; assumption) | (intro hh; subst hh; contradiction) | exact tf_n1 (by assumption) (by assumption) | exact tf_n2 (by assumption) (by assumption)) ?_; first | assumption | exact va_up_self _ _ _ | (refine tf_u (by first | assumption | (apply Ne.symm; assumption) | (intro hh; subst hh; contradiction) | exact tf_n1 (by assumption) (by assumption) | exact tf_n2 (by assumption) (by assumption)) ?_; first | assumption | exact va_up_self _ _ _ | (refine tf_u (by first | assumption | (apply Ne.symm; assumption) | (intro hh; subst hh; contradiction) | exact tf_n1 (by assumption) (by assumption) | exact tf_n2 (by assumption) (by assumption)) ?_; first | assumption | exact va_up_self _ _ _ | (refine tf_u (by first | assumption | (apply Ne.symm; assumption) | (intro hh; subst hh; contradiction) | exact tf_n1 (by assumption) (by assumption) | exact tf_n2 (by assumption) (by assumption)) ?_; first | assumption | exact va_up_self _ _ _ | (refine tf_u (by first | assumption | (apply Ne.symm; assumption) | (intro hh; subst hh; contradiction) | exact tf_n1 (by assumption) (by assumption) | exact tf_n2 (by assumption) (by assumption)) ?_; first | assumption | exact va_up_self _ _ _)))))) (by rfl) (by rfl) (by omega) (by exact Nat.le_of_ble_eq_true rfl) rfl ?_
  rintro v2 L2 f2 ⟨rfl, rfl, rfl⟩
  refine tf_blk _ b_Tf_advance_5 rfl ?_
  refine tf_ifnull_n 34 d_Tf_advance_9 rfl ?_
  refine tf_blk _ b_Tf_advance_34 rfl ?_
  refine tf_zret d_Tf_advance_35 rfl (rfl) ?_
  exact ⟨rfl, rfl, rfl⟩
set_option maxHeartbeats 4000000 in
set_option maxRecDepth 100000 in
theorem c_Tf_advance (hd : 2 ≤ d) {ad : Nat → Nat} {S : tc_S} {B : Nat → Prop} (h : tc_at q ad S B L f) (hn : S.n ≤ 40) (h4 : S.mm ≤ 4) {i : Nat} (hi : i < S.n) (m w : Int32) : tf_C l (tf_H D q) d i_Tf_advance [.ref (ad 0), .int (nI i), .int m, .int w] L f 0 0 (tc_po q ad B L f (tc_adv i m w S).1 (tc_adv i m w S).2) := by
  obtain ⟨hx, fx⟩ := tc_c0 h
  obtain ⟨hb, fb⟩ := tc_c1 h
  obtain ⟨hg, fg⟩ := tc_g0 h hi
  obtain ⟨hw, fw⟩ := tc_g3 h hi
  have hmv : tw_in m (kI 0) (nI S.mm - kI 1) = true → vp_in m S.mm := fun z => by
    obtain ⟨r, hr, e⟩ := tw_inN (by omega) z
    rw [e]
    exact vp_in_nI hr (by omega)
  refine tf_C.of (tf_gok _ _) (by decide) w_252 (Nat.le_of_ble_eq_true rfl) ?_
  refine tf_blk _ b_Tf_advance_0 rfl ?_
  refine tf_cV (tf_gok _ _) (c_find_r l D q (d - 1) _ _ (by omega) h hn hi) 5 d_Tf_advance_2 rfl lk_Tf_81 cw_Tf_find (by rfl) in_Tf_find se_Tf_find (by first | assumption | (simp only [List.mem_append, List.mem_singleton]; simp [*])) (by first | assumption | exact va_up_self _ _ _ | (refine tf_u (by first | assumption | (apply Ne.symm; assumption) | (intro hh; subst hh; contradiction) | exact tf_n1 (by assumption) (by assumption) | exact tf_n2 (by assumption) (by assumption)) ?_; first | assumption | exact va_up_self _ _ _ | (refine tf_u (by first | assumption | (apply Ne.symm; assumption) | (intro hh; subst hh; contradiction) | exact tf_n1 (by assumption) (by assumption) | exact tf_n2 (by assumption) (by assumption)) ?_; first | assumption | exact va_up_self _ _ _ | (refine tf_u (by first | assumption | (apply Ne.symm; assumption) | (intro hh; subst hh; contradiction) | exact tf_n1 (by assumption) (by assumption) | exact tf_n2 (by assumption) (by assumption)) ?_; first | assumption | exact va_up_self _ _ _ | (refine tf_u (by first | assumption | (apply Ne.symm; assumption) | (intro hh; subst hh; contradiction) | exact tf_n1 (by assumption) (by assumption) | exact tf_n2 (by assumption) (by assumption)) ?_; first | assumption | exact va_up_self _ _ _ | (refine tf_u (by first | assumption | (apply Ne.symm; assumption) | (intro hh; subst hh; contradiction) | exact tf_n1 (by assumption) (by assumption) | exact tf_n2 (by assumption) (by assumption)) ?_; first | assumption | exact va_up_self _ _ _)))))) (by rfl) (by rfl) (by omega) (by exact Nat.le_of_ble_eq_true rfl) rfl ?_
  rintro v2 L2 f2 ⟨rfl, rfl, rfl⟩
  refine tf_blk _ b_Tf_advance_5 rfl ?_
  refine tf_ifnull_r 12 d_Tf_advance_9 rfl ?_
  refine tf_blk _ b_Tf_advance_12 rfl ?_
  refine tf_get (fs := ?fs_13_41) (v := ?v_13_41) 16 d_Tf_advance_13 rfl fl_Tf_14 ?ha_13_41 ?hf_13_41 ?hv_13_41 ?kk_13_41
  case ha_13_41 => first | assumption | (simp only [List.mem_append, List.mem_singleton]; simp [*])
  case hf_13_41 => first | assumption | exact va_up_self _ _ _ | (refine tf_u (by first | assumption | (apply Ne.symm; assumption) | (intro hh; subst hh; contradiction) | exact tf_n1 (by assumption) (by assumption) | exact tf_n2 (by assumption) (by assumption)) ?_; first | assumption | exact va_up_self _ _ _ | (refine tf_u (by first | assumption | (apply Ne.symm; assumption) | (intro hh; subst hh; contradiction) | exact tf_n1 (by assumption) (by assumption) | exact tf_n2 (by assumption) (by assumption)) ?_; first | assumption | exact va_up_self _ _ _ | (refine tf_u (by first | assumption | (apply Ne.symm; assumption) | (intro hh; subst hh; contradiction) | exact tf_n1 (by assumption) (by assumption) | exact tf_n2 (by assumption) (by assumption)) ?_; first | assumption | exact va_up_self _ _ _ | (refine tf_u (by first | assumption | (apply Ne.symm; assumption) | (intro hh; subst hh; contradiction) | exact tf_n1 (by assumption) (by assumption) | exact tf_n2 (by assumption) (by assumption)) ?_; first | assumption | exact va_up_self _ _ _ | (refine tf_u (by first | assumption | (apply Ne.symm; assumption) | (intro hh; subst hh; contradiction) | exact tf_n1 (by assumption) (by assumption) | exact tf_n2 (by assumption) (by assumption)) ?_; first | assumption | exact va_up_self _ _ _)))))
  case hv_13_41 => rfl
  refine tf_blk _ b_Tf_advance_16 rfl ?_
  refine tf_cV (tf_gok _ _) (c_Blend_hasMaster l D q (d - 1) _ _ (by omega) hb fb m) 20 d_Tf_advance_17 rfl lk_Tf_115 cw_Blend_hasMaster (by rfl) in_Blend_hasMaster se_Blend_hasMaster (by first | assumption | (simp only [List.mem_append, List.mem_singleton]; simp [*])) (by first | assumption | exact va_up_self _ _ _ | (refine tf_u (by first | assumption | (apply Ne.symm; assumption) | (intro hh; subst hh; contradiction) | exact tf_n1 (by assumption) (by assumption) | exact tf_n2 (by assumption) (by assumption)) ?_; first | assumption | exact va_up_self _ _ _ | (refine tf_u (by first | assumption | (apply Ne.symm; assumption) | (intro hh; subst hh; contradiction) | exact tf_n1 (by assumption) (by assumption) | exact tf_n2 (by assumption) (by assumption)) ?_; first | assumption | exact va_up_self _ _ _ | (refine tf_u (by first | assumption | (apply Ne.symm; assumption) | (intro hh; subst hh; contradiction) | exact tf_n1 (by assumption) (by assumption) | exact tf_n2 (by assumption) (by assumption)) ?_; first | assumption | exact va_up_self _ _ _ | (refine tf_u (by first | assumption | (apply Ne.symm; assumption) | (intro hh; subst hh; contradiction) | exact tf_n1 (by assumption) (by assumption) | exact tf_n2 (by assumption) (by assumption)) ?_; first | assumption | exact va_up_self _ _ _ | (refine tf_u (by first | assumption | (apply Ne.symm; assumption) | (intro hh; subst hh; contradiction) | exact tf_n1 (by assumption) (by assumption) | exact tf_n2 (by assumption) (by assumption)) ?_; first | assumption | exact va_up_self _ _ _)))))) (by rfl) (by rfl) (by omega) (by exact Nat.le_of_ble_eq_true rfl) rfl ?_
  rintro v17 L17 f17 ⟨rfl, rfl, rfl⟩
  refine tf_if_eq 34 23 d_Tf_advance_20 rfl rfl (fun h20 => ?_) (fun h20 => ?_)
  · refine tf_blk _ b_Tf_advance_34 rfl ?_
    refine tf_zret d_Tf_advance_35 rfl (rfl) ?_
    have e9 : tc_adv i m w S = (kI 0, S) := by
      simp only [bI_eq0, Bool.not_eq_false] at h20
      simp [tc_adv, h20, ]
    rw [e9]
    exact ⟨rfl, rfl, h, fun _ _ => rfl⟩
  · refine tf_blk _ b_Tf_advance_23 rfl ?_
    refine tf_cS (tf_gok _ _) (c_Tf_within l D q (d - 1) _ _ _ _ _) 31 d_Tf_advance_28 rfl lk_Tf_111 cw_Tf_within (by rfl) sa_Tf_within (by omega) (by exact Nat.le_of_ble_eq_true rfl) rfl ?_
    rintro v28 L28 f28 ⟨rfl, rfl, rfl⟩
    refine tf_if_ne 36 34 d_Tf_advance_31 rfl rfl (fun h31 => ?_) (fun h31 => ?_)
    · refine tf_blk _ b_Tf_advance_36 rfl ?_
      refine tf_get (fs := ?fs_38_45) (v := ?v_38_45) 41 d_Tf_advance_38 rfl fl_Tf_150 ?ha_38_45 ?hf_38_45 ?hv_38_45 ?kk_38_45
      case ha_38_45 => first | assumption | (simp only [List.mem_append, List.mem_singleton]; simp [*])
      case hf_38_45 => first | assumption | exact va_up_self _ _ _ | (refine tf_u (by first | assumption | (apply Ne.symm; assumption) | (intro hh; subst hh; contradiction) | exact tf_n1 (by assumption) (by assumption) | exact tf_n2 (by assumption) (by assumption)) ?_; first | assumption | exact va_up_self _ _ _ | (refine tf_u (by first | assumption | (apply Ne.symm; assumption) | (intro hh; subst hh; contradiction) | exact tf_n1 (by assumption) (by assumption) | exact tf_n2 (by assumption) (by assumption)) ?_; first | assumption | exact va_up_self _ _ _ | (refine tf_u (by first | assumption | (apply Ne.symm; assumption) | (intro hh; subst hh; contradiction) | exact tf_n1 (by assumption) (by assumption) | exact tf_n2 (by assumption) (by assumption)) ?_; first | assumption | exact va_up_self _ _ _ | (refine tf_u (by first | assumption | (apply Ne.symm; assumption) | (intro hh; subst hh; contradiction) | exact tf_n1 (by assumption) (by assumption) | exact tf_n2 (by assumption) (by assumption)) ?_; first | assumption | exact va_up_self _ _ _ | (refine tf_u (by first | assumption | (apply Ne.symm; assumption) | (intro hh; subst hh; contradiction) | exact tf_n1 (by assumption) (by assumption) | exact tf_n2 (by assumption) (by assumption)) ?_; first | assumption | exact va_up_self _ _ _)))))
      case hv_38_45 => rfl
      refine tf_blk _ b_Tf_advance_41 rfl ?_
      refine tf_iast (n := ?n_43_46) (g := ?g_43_46) 44 0 d_Tf_advance_43 rfl rfl ?ha_43_46 ?hf_43_46 ?hi_43_46 ?kk_43_46
      case ha_43_46 => first | assumption | (simp only [List.mem_append, List.mem_singleton]; simp [*])
      case hf_43_46 => first | assumption | exact va_up_self _ _ _ | (refine tf_u (by first | assumption | (apply Ne.symm; assumption) | (intro hh; subst hh; contradiction) | exact tf_n1 (by assumption) (by assumption) | exact tf_n2 (by assumption) (by assumption)) ?_; first | assumption | exact va_up_self _ _ _ | (refine tf_u (by first | assumption | (apply Ne.symm; assumption) | (intro hh; subst hh; contradiction) | exact tf_n1 (by assumption) (by assumption) | exact tf_n2 (by assumption) (by assumption)) ?_; first | assumption | exact va_up_self _ _ _ | (refine tf_u (by first | assumption | (apply Ne.symm; assumption) | (intro hh; subst hh; contradiction) | exact tf_n1 (by assumption) (by assumption) | exact tf_n2 (by assumption) (by assumption)) ?_; first | assumption | exact va_up_self _ _ _ | (refine tf_u (by first | assumption | (apply Ne.symm; assumption) | (intro hh; subst hh; contradiction) | exact tf_n1 (by assumption) (by assumption) | exact tf_n2 (by assumption) (by assumption)) ?_; first | assumption | exact va_up_self _ _ _ | (refine tf_u (by first | assumption | (apply Ne.symm; assumption) | (intro hh; subst hh; contradiction) | exact tf_n1 (by assumption) (by assumption) | exact tf_n2 (by assumption) (by assumption)) ?_; first | assumption | exact va_up_self _ _ _)))))
      case hi_43_46 => exact hmv (bI_t h20)
      refine tf_blk _ b_Tf_advance_44 rfl ?_
      refine tf_zret d_Tf_advance_45 rfl (rfl) ?_
      rw [show tc_adv i m w S = (kI 1, _) from if_pos ⟨bI_t h20, bI_t h31⟩]
      exact ⟨rfl, rfl, tc_goG h hi (tc_G_mk (S.T i).X (S.T i).Y (upd (S.T i).W m.toNatClampNeg w) (S.T i).O (S.T i).E (S.T i).pt (S.T i).ct (S.T i).dp (S.T i).lk (S.T i).cp (S.T i).pc (S.T i).pp (S.T i).ps (S.T i).src (S.T i).dx (S.T i).dy (S.T i).tu) [(3, ti q S.mm (upd (S.T i).W m.toNatClampNeg w))] (by simp) rfl rfl rfl rfl rfl rfl⟩
    · refine tf_blk _ b_Tf_advance_34 rfl ?_
      refine tf_zret d_Tf_advance_35 rfl (rfl) ?_
      have e9 : tc_adv i m w S = (kI 0, S) := by
        simp only [bI_eq0, Bool.not_eq_false] at h20 h31
        simp [tc_adv, h20, h31, ]
      rw [e9]
      exact ⟨rfl, rfl, h, fun _ _ => rfl⟩
end
