/-! public methods: component, rule, glyph: the roads that make new cells -/
section
variable (l : Launch) (D : va_G) (q : Nat → ClassId) (d : Nat) (L : List Nat) (f : tf_F)
theorem tx_C.mono {G : tf_G} {i : tf_I} {Φ Φ2 : tf_O} {Ψ : tx_O} {av : List Value} {mc ms : Nat} (h : tx_C l G d i av L f mc ms Φ Ψ) (hq : ∀ v L2 f2, Φ v L2 f2 → Φ2 v L2 f2) : tx_C l G d i av L f mc ms Φ2 Ψ := by
  intro sz
  refine tx_mono (h sz) (fun a s o t z => ?_)
  rcases z with ⟨⟨v, L2, f2, e, hΦ, r⟩, z2⟩ | z
  · exact Or.inl ⟨⟨v, L2, f2, e, hq v L2 f2 hΦ, r⟩, z2⟩
  · exact Or.inr z
theorem tf_up2 (f : tf_F) (a : Nat) (e e2 : va_E) : va_up (va_up f a e) a e2 = va_up f a e2 := by
  funext z
  by_cases h : z = a
  · rw [h, va_up_self, va_up_self]
  · rw [va_up_ne _ _ h, va_up_ne _ _ h, va_up_ne _ _ h]
set_option maxHeartbeats 4000000 in
set_option maxRecDepth 100000 in
theorem c_Tf_component_t (hl : l.stackTraces = false) (hd : 7 ≤ d) {ad : Nat → Nat} {S : tc_S} {B : Nat → Prop} (h : tc_at q ad S B L f) (hn : S.n ≤ 40) {i : Nat} (hi : i < S.n) {j : Nat} (hj : j < S.n) (hij : i ≠ j) (x y : Int32) {t : Nat} (hcl : tc_cl S) (hBL : ∀ z, B z → z ∈ L) (hdi : (S.T i).dp ≤ 4) (hdj : (S.T j).dp ≤ 4) (hpc : (S.T i).pc < 4) (hs : tw_isShift x y = true) (ht : tw_in (nI t) (kI 0) (kI 7) = true) (hr : tc_roomB (S.T i) (S.T j) = true) : tx_C l (tf_H D q) d i_Tf_component [.ref (ad 0), .int (nI i), .int (nI j), .int x, .int y, .int (nI t)] L f 1 6 (fun v L2 f2 => v = none ∧ ∃ a, a ∉ L ∧ L2 = L ++ [a] ∧ tc_at q (va_up ad (tc_k i (8 + (S.T i).pc)) a) (tc_comp i j x y t S) B L2 f2 ∧ ∀ z, B z → f2 z = f z) (fun _ _ _ => False) := by
  obtain ⟨hx, fx⟩ := tc_c0 h
  have hne : ¬ nI i = nI j := fun z => hij (by have := congrArg Int32.toNatClampNeg z; rw [nI_clamp (by omega), nI_clamp (by omega)] at this; exact this)
  obtain ⟨hg, fg⟩ := tc_g0 h hi
  obtain ⟨hg2, fg2⟩ := tc_g0 h hj
  obtain ⟨hg6, fg6⟩ := tc_g6 h hi
  have hgn : ad (tc_k i 0) ≠ ad (tc_k j 0) := tc_ne h (tc_isG hi (by decide)) (tc_isG hj (by decide)) (fun e => hij ((tc_k_inj (by decide) (by decide)).mp e).1)
  refine tx_C.of (by decide) (Nat.le_of_ble_eq_true rfl) ?_
  refine tf_blk _ b_Tf_component_0 rfl ?_
  refine tf_cV (tf_gok _ _) (c_find_r l D q (d - 1) _ _ (by omega) h hn hi) 5 d_Tf_component_2 rfl lk_Tf_81 cw_Tf_find (by rfl) in_Tf_find se_Tf_find (by first | assumption | (simp only [List.mem_append, List.mem_singleton]; simp [*])) (by first | assumption | exact va_up_self _ _ _ | (refine tf_u (by first | assumption | (apply Ne.symm; assumption) | (intro hh; subst hh; contradiction) | exact tf_n1 (by assumption) (by assumption) | exact tf_n2 (by assumption) (by assumption)) ?_; first | assumption | exact va_up_self _ _ _ | (refine tf_u (by first | assumption | (apply Ne.symm; assumption) | (intro hh; subst hh; contradiction) | exact tf_n1 (by assumption) (by assumption) | exact tf_n2 (by assumption) (by assumption)) ?_; first | assumption | exact va_up_self _ _ _ | (refine tf_u (by first | assumption | (apply Ne.symm; assumption) | (intro hh; subst hh; contradiction) | exact tf_n1 (by assumption) (by assumption) | exact tf_n2 (by assumption) (by assumption)) ?_; first | assumption | exact va_up_self _ _ _ | (refine tf_u (by first | assumption | (apply Ne.symm; assumption) | (intro hh; subst hh; contradiction) | exact tf_n1 (by assumption) (by assumption) | exact tf_n2 (by assumption) (by assumption)) ?_; first | assumption | exact va_up_self _ _ _ | (refine tf_u (by first | assumption | (apply Ne.symm; assumption) | (intro hh; subst hh; contradiction) | exact tf_n1 (by assumption) (by assumption) | exact tf_n2 (by assumption) (by assumption)) ?_; first | assumption | exact va_up_self _ _ _)))))) (by rfl) (by rfl) (by omega) (by exact Nat.le_of_ble_eq_true rfl) rfl ?_
  rintro v2 L2 f2 ⟨rfl, rfl, rfl⟩
  refine tf_blk _ b_Tf_component_5 rfl ?_
  refine tf_cV (tf_gok _ _) (c_find_r l D q (d - 1) _ _ (by omega) h hn hj) 12 d_Tf_component_9 rfl lk_Tf_81 cw_Tf_find (by rfl) in_Tf_find se_Tf_find (by first | assumption | (simp only [List.mem_append, List.mem_singleton]; simp [*])) (by first | assumption | exact va_up_self _ _ _ | (refine tf_u (by first | assumption | (apply Ne.symm; assumption) | (intro hh; subst hh; contradiction) | exact tf_n1 (by assumption) (by assumption) | exact tf_n2 (by assumption) (by assumption)) ?_; first | assumption | exact va_up_self _ _ _ | (refine tf_u (by first | assumption | (apply Ne.symm; assumption) | (intro hh; subst hh; contradiction) | exact tf_n1 (by assumption) (by assumption) | exact tf_n2 (by assumption) (by assumption)) ?_; first | assumption | exact va_up_self _ _ _ | (refine tf_u (by first | assumption | (apply Ne.symm; assumption) | (intro hh; subst hh; contradiction) | exact tf_n1 (by assumption) (by assumption) | exact tf_n2 (by assumption) (by assumption)) ?_; first | assumption | exact va_up_self _ _ _ | (refine tf_u (by first | assumption | (apply Ne.symm; assumption) | (intro hh; subst hh; contradiction) | exact tf_n1 (by assumption) (by assumption) | exact tf_n2 (by assumption) (by assumption)) ?_; first | assumption | exact va_up_self _ _ _ | (refine tf_u (by first | assumption | (apply Ne.symm; assumption) | (intro hh; subst hh; contradiction) | exact tf_n1 (by assumption) (by assumption) | exact tf_n2 (by assumption) (by assumption)) ?_; first | assumption | exact va_up_self _ _ _)))))) (by rfl) (by rfl) (by omega) (by exact Nat.le_of_ble_eq_true rfl) rfl ?_
  rintro v9 L9 f9 ⟨rfl, rfl, rfl⟩
  refine tf_blk _ b_Tf_component_12 rfl ?_
  refine tf_ifnull_r 19 d_Tf_component_16 rfl ?_
  refine tf_blk _ b_Tf_component_19 rfl ?_
  refine tf_ifnull_r 24 d_Tf_component_21 rfl ?_
  refine tf_blk _ b_Tf_component_24 rfl ?_
  refine tf_ic_eq 49 29 d_Tf_component_26 rfl rfl (fun h26 => absurd h26 (hne)) (fun h26 => ?_)
  refine tf_blk _ b_Tf_component_29 rfl ?_
  refine tf_cS (tf_gok _ _) (c_Tf_isShift l D q (d - 1) _ _ (by omega) _ _) 35 d_Tf_component_32 rfl lk_Tf_130 cw_Tf_isShift (by rfl) sa_Tf_isShift (by omega) (by exact Nat.le_of_ble_eq_true rfl) rfl ?_
  rintro v32 L32 f32 ⟨rfl, rfl, rfl⟩
  refine tf_if_eq 49 38 d_Tf_component_35 rfl rfl (fun h35 => absurd h35 ((by rw [hs]; decide))) (fun h35 => ?_)
  refine tf_blk _ b_Tf_component_38 rfl ?_
  refine tf_cS (tf_gok _ _) (c_Tf_within l D q (d - 1) _ _ _ _ _) 46 d_Tf_component_43 rfl lk_Tf_111 cw_Tf_within (by rfl) sa_Tf_within (by omega) (by exact Nat.le_of_ble_eq_true rfl) rfl ?_
  rintro v43 L43 f43 ⟨rfl, rfl, rfl⟩
  refine tf_if_ne 59 49 d_Tf_component_46 rfl rfl (fun h46 => ?_) (fun h46 => absurd h46 ((by rw [ht]; decide)))
  refine tf_blk _ b_Tf_component_59 rfl ?_
  refine tf_cV (tf_gok _ _) (c_Glyph_hasRoomFor l D q (d - 1) _ _ (by omega) hg fg hg2 fg2) 66 d_Tf_component_63 rfl lk_Tf_135 cw_Glyph_hasRoomFor (by rfl) in_Glyph_hasRoomFor se_Glyph_hasRoomFor (by first | assumption | (simp only [List.mem_append, List.mem_singleton]; simp [*])) (by first | assumption | exact va_up_self _ _ _ | (refine tf_u (by first | assumption | (apply Ne.symm; assumption) | (intro hh; subst hh; contradiction) | exact tf_n1 (by assumption) (by assumption) | exact tf_n2 (by assumption) (by assumption)) ?_; first | assumption | exact va_up_self _ _ _ | (refine tf_u (by first | assumption | (apply Ne.symm; assumption) | (intro hh; subst hh; contradiction) | exact tf_n1 (by assumption) (by assumption) | exact tf_n2 (by assumption) (by assumption)) ?_; first | assumption | exact va_up_self _ _ _ | (refine tf_u (by first | assumption | (apply Ne.symm; assumption) | (intro hh; subst hh; contradiction) | exact tf_n1 (by assumption) (by assumption) | exact tf_n2 (by assumption) (by assumption)) ?_; first | assumption | exact va_up_self _ _ _ | (refine tf_u (by first | assumption | (apply Ne.symm; assumption) | (intro hh; subst hh; contradiction) | exact tf_n1 (by assumption) (by assumption) | exact tf_n2 (by assumption) (by assumption)) ?_; first | assumption | exact va_up_self _ _ _ | (refine tf_u (by first | assumption | (apply Ne.symm; assumption) | (intro hh; subst hh; contradiction) | exact tf_n1 (by assumption) (by assumption) | exact tf_n2 (by assumption) (by assumption)) ?_; first | assumption | exact va_up_self _ _ _)))))) (by rfl) (by rfl) (by omega) (by exact Nat.le_of_ble_eq_true rfl) rfl ?_
  rintro v63 L63 f63 ⟨rfl, rfl, rfl⟩
  refine tf_if_ne 79 69 d_Tf_component_66 rfl rfl (fun h66 => ?_) (fun h66 => absurd h66 (show ¬ bI (tc_roomB (S.T i) (S.T j)) = 0 from by rw [hr]; decide))
  refine tf_blk _ b_Tf_component_79 rfl ?_
  refine tf_new (N := 4) 84 d_Tf_component_81 rfl nl_Tf_141 (fun a ha => ?_)
  have ma : a ∈ L63 ++ [a] := List.mem_append_right _ (List.mem_singleton.mpr rfl)
  have mL : ∀ z, z ∈ L63 → z ∈ L63 ++ [a] := fun z hz => List.mem_append_left _ hz
  have nL : ∀ z, z ∈ L63 → z ≠ a := fun z hz e9 => ha (e9 ▸ hz)
  refine tf_blk _ b_Tf_component_84 rfl ?_
  refine tf_cI (tf_gok _ _) (c_Part_init l D q (d - 1) _ _ (by omega) _ _ _ ma (va_up_self _ _ _)) 95 d_Tf_component_92 rfl lk_Tf_143 cw_Part_init (by rfl) in_Part_init rfl (by omega) (by exact Nat.le_of_ble_eq_true rfl) rfl ?_
  rintro v92 L92 f92 ⟨rfl, rfl, rfl⟩
  have fz : ∀ z, z ∈ L63 → va_up (va_up f63 a (to 7 [.null, .int 0, .int 0, .int 0])) a (to 7 [.ref (ad (tc_k j 0)), .int x, .int y, .int (nI t)]) z = f63 z := fun z hz => (va_up_ne _ _ (nL z hz)).trans (va_up_ne _ _ (nL z hz))
  refine tf_cV (tf_gok _ _) (c_Glyph_addPart l D q (d - 1) _ _ (by omega) (mL _ hg) ((fz _ hg).trans fg) (mL _ hg2) ((fz _ hg2).trans fg2) hpc ma (va_up_self _ _ _) (mL _ hg6) ((fz _ hg6).trans fg6) hgn) 98 d_Tf_component_95 rfl lk_Tf_146 cw_Glyph_addPart (by rfl) in_Glyph_addPart se_Glyph_addPart (by exact mL _ hg) (by exact (fz _ hg).trans fg) (by rfl) (by rfl) (by omega) (by exact Nat.le_of_ble_eq_true rfl) rfl ?_
  rintro v95 L95 f95 ⟨rfl, rfl, rfl⟩
  refine tx_ret ?_
  refine tf_vret d_Tf_component_98 rfl ?_
  refine ⟨rfl, a, ha, rfl, ?_⟩
  rw [tf_up2]
  have hmax : (if nI (S.T i).dp < nI (S.T j).dp + kI 1 then nI (S.T j).dp + kI 1 else nI (S.T i).dp) = nI (max (S.T i).dp ((S.T j).dp + 1)) := tw_max (by omega) (by omega)
  rw [hmax, nI_add, nI_add, nI_add, nI_add]
  exact tc_addPart h hcl hi hj hij hpc ha hBL _ _ rfl rfl
set_option maxHeartbeats 4000000 in
set_option maxRecDepth 100000 in
theorem c_Tf_rule_40 (hl : l.stackTraces = false) (hd : 7 ≤ d) {ad : Nat → Nat} {S : tc_S} {B : Nat → Prop} (h : tc_at q ad S B L f) (lo ou : Int32) (be ip af : Int64) (hlo : tw_in lo (kI 0) (kI 7) = true) (hm : tc_made be ip af ou S = true) (h40 : S.rn = 40) : tx_C l (tf_H D q) d i_Tf_rule [.ref (ad 0), .int lo, .long be, .long ip, .long af, .int ou] L f 2 14 (fun _ _ _ => False) (fun E2 L2 f2 => E2 = "java/lang/IllegalStateException" ∧ (∀ z ∈ L, z ∈ L2) ∧ ∀ z ∈ L, f2 z = f z) := by
  obtain ⟨hx, fx⟩ := tc_c0 h
  obtain ⟨hz, fzz⟩ := tc_c23 h
  obtain ⟨h26, f26⟩ := tc_c26 h
  have hrn : True := trivial
  refine tx_C.of (by decide) (Nat.le_of_ble_eq_true rfl) ?_
  refine tf_new (N := 8) 3 d_Tf_rule_0 rfl nl_Tf_221 (fun a ha => ?_)
  refine tf_blk _ b_Tf_rule_3 rfl ?_
  refine tf_cI (tf_gok _ _) (c_Rule_init l D q (d - 1) _ _ (by omega) lo ou be ip af (List.mem_append_right _ (List.mem_singleton.mpr rfl)) (va_up_self _ _ _)) 15 d_Tf_rule_12 rfl lk_Tf_223 cw_Rule_init (by rfl) in_Rule_init rfl (by omega) (by exact Nat.le_of_ble_eq_true rfl) rfl ?_
  rintro v12 L12 f12 ⟨rfl, rfl, rfl⟩
  have ma : a ∈ L ++ [a] := List.mem_append_right _ (List.mem_singleton.mpr rfl)
  have mx : ad 0 ∈ L ++ [a] := List.mem_append_left _ hx
  have hxa : ad 0 ≠ a := fun e9 => ha (e9 ▸ hx)
  have fx2 := (va_up_ne (va_up f a (to 9 [.int 0, .int 0, .int 0, .long 0, .long 0, .long 0, .int 0, .int 0])) (to 9 [.int lo, .int (nI (tw_len ip 4 0)), .int ou, .long be, .long ip, .long af, .int (nI (tw_len be 2 0)), .int (nI (tw_len af 2 0))]) hxa).trans ((va_up_ne f _ hxa).trans fx)
  have fa2 := va_up_self (va_up f a (to 9 [.int 0, .int 0, .int 0, .long 0, .long 0, .long 0, .int 0, .int 0])) a (to 9 [.int lo, .int (nI (tw_len ip 4 0)), .int ou, .long be, .long ip, .long af, .int (nI (tw_len be 2 0)), .int (nI (tw_len af 2 0))])
  have mL : ∀ z, z ∈ L → z ∈ L ++ [a] := fun z hz => List.mem_append_left _ hz
  have mz := mL _ hz
  have hza : ad 23 ≠ a := fun e9 => ha (by rw [← e9]; exact hz)
  have h26a : ad 26 ≠ a := fun e9 => ha (by rw [← e9]; exact h26)
  have fz2 := (va_up_ne (va_up f a (to 9 [.int 0, .int 0, .int 0, .long 0, .long 0, .long 0, .int 0, .int 0])) (to 9 [.int lo, .int (nI (tw_len ip 4 0)), .int ou, .long be, .long ip, .long af, .int (nI (tw_len be 2 0)), .int (nI (tw_len af 2 0))]) hza).trans ((va_up_ne f _ hza).trans fzz)
  have m26 : ad 26 ∈ L ++ [a] := List.mem_append_left _ h26
  have f262 := (va_up_ne (va_up f a (to 9 [.int 0, .int 0, .int 0, .long 0, .long 0, .long 0, .int 0, .int 0])) (to 9 [.int lo, .int (nI (tw_len ip 4 0)), .int ou, .long be, .long ip, .long af, .int (nI (tw_len be 2 0)), .int (nI (tw_len af 2 0))]) h26a).trans ((va_up_ne f _ h26a).trans f26)
  refine tf_blk _ b_Tf_rule_15 rfl ?_
  refine tf_cS (tf_gok _ _) (c_Tf_within l D q (d - 1) _ _ _ _ _) 24 d_Tf_rule_21 rfl lk_Tf_111 cw_Tf_within (by rfl) sa_Tf_within (by omega) (by exact Nat.le_of_ble_eq_true rfl) rfl ?_
  rintro v21 L21 f21 ⟨rfl, rfl, rfl⟩
  refine tf_if_eq 39 27 d_Tf_rule_24 rfl rfl (fun h24 => absurd h24 ((by rw [hlo]; decide))) (fun h24 => ?_)
  refine tf_blk _ b_Tf_rule_27 rfl ?_
  refine tf_get (fs := ?fs_30_13) (v := ?v_30_13) 33 d_Tf_rule_30 rfl fl_Tf_66 ?ha_30_13 ?hf_30_13 ?hv_30_13 ?kk_30_13
  case ha_30_13 => exact mx
  case hf_30_13 => exact fx2
  case hv_30_13 => rfl
  refine tf_cV (tf_gok _ _) (c_Rule_isMadeOf l D q (d - 1) _ _ (by omega) ma fa2 (nI S.n) (Nat.le_trans (tw_len_le be 2 0).2 (by decide)) (Nat.le_trans (tw_len_le ip 4 0).2 (by decide)) (Nat.le_trans (tw_len_le af 2 0).2 (by decide))) 36 d_Tf_rule_33 rfl lk_Tf_226 cw_Rule_isMadeOf (by rfl) in_Rule_isMadeOf se_Rule_isMadeOf (by exact ma) (by exact fa2) (by rfl) (by rfl) (by omega) (by exact Nat.le_of_ble_eq_true rfl) rfl ?_
  rintro v33 L33 f33 ⟨rfl, rfl, rfl⟩
  refine tf_if_ne 49 39 d_Tf_rule_36 rfl rfl (fun h36 => ?_) (fun h36 => absurd h36 (show ¬ bI (tc_made be ip af ou S) = 0 from by rw [hm]; decide))
  refine tf_blk _ b_Tf_rule_49 rfl ?_
  refine tf_get (fs := ?fs_50_15) (v := ?v_50_15) 53 d_Tf_rule_50 rfl fl_Tf_62 ?ha_50_15 ?hf_50_15 ?hv_50_15 ?kk_50_15
  case ha_50_15 => exact mx
  case hf_50_15 => exact fx2
  case hv_50_15 => rfl
  refine tf_get (fs := ?fs_53_16) (v := ?v_53_16) 56 d_Tf_rule_53 rfl fl_Tf_231 ?ha_53_16 ?hf_53_16 ?hv_53_16 ?kk_53_16
  case ha_53_16 => exact mz
  case hf_53_16 => exact fz2
  case hv_53_16 => rfl
  refine tf_blk _ b_Tf_rule_56 rfl ?_
  refine tf_ic_lt 71 61 d_Tf_rule_58 rfl rfl (fun h58 => absurd h58 (by rw [h40]; decide)) (fun h58 => ?_)
  refine tf_less (kc2 := 0 + 1) (ks2 := 0 + 6) (by omega) (by omega) ?_
  exact tx_throw (tx := "there are 40 rules") hl d_Tf_rule_61 (tf_dec1 b_Tf_rule_64) d_Tf_rule_65 d_Tf_rule_67 d_Tf_rule_70 xa_74 w_378 w_13 w_379 w_1049 (by decide) (by decide) (by omega) (by exact Nat.le_of_ble_eq_true rfl) (⟨rfl, fun z hz => List.mem_append_left _ hz, fun z hz => (va_up_ne _ _ (fun e9 => ha (by rw [← e9]; exact hz))).trans (va_up_ne _ _ (fun e9 => ha (by rw [← e9]; exact hz)))⟩)
set_option maxHeartbeats 4000000 in
set_option maxRecDepth 100000 in
theorem c_Tf_rule_t (hl : l.stackTraces = false) (hd : 7 ≤ d) {ad : Nat → Nat} {S : tc_S} {B : Nat → Prop} (h : tc_at q ad S B L f) (lo ou : Int32) (be ip af : Int64) (hcl : tc_cl S) (hBL : ∀ z, B z → z ∈ L) (hlo : tw_in lo (kI 0) (kI 7) = true) (hm : tc_made be ip af ou S = true) (hrn : S.rn < 40) : tx_C l (tf_H D q) d i_Tf_rule [.ref (ad 0), .int lo, .long be, .long ip, .long af, .int ou] L f 2 14 (fun v L2 f2 => v = some (.int (nI S.rn)) ∧ ∃ a, a ∉ L ∧ L2 = L ++ [a] ∧ tc_at q (va_up ad (32 + S.rn) a) (tc_ruleS lo be ip af ou S) B L2 f2 ∧ ∀ z, B z → f2 z = f z) (fun _ _ _ => False) := by
  obtain ⟨hx, fx⟩ := tc_c0 h
  obtain ⟨hz, fzz⟩ := tc_c23 h
  obtain ⟨h26, f26⟩ := tc_c26 h
  refine tx_C.of (by decide) (Nat.le_of_ble_eq_true rfl) ?_
  refine tf_new (N := 8) 3 d_Tf_rule_0 rfl nl_Tf_221 (fun a ha => ?_)
  refine tf_blk _ b_Tf_rule_3 rfl ?_
  refine tf_cI (tf_gok _ _) (c_Rule_init l D q (d - 1) _ _ (by omega) lo ou be ip af (List.mem_append_right _ (List.mem_singleton.mpr rfl)) (va_up_self _ _ _)) 15 d_Tf_rule_12 rfl lk_Tf_223 cw_Rule_init (by rfl) in_Rule_init rfl (by omega) (by exact Nat.le_of_ble_eq_true rfl) rfl ?_
  rintro v12 L12 f12 ⟨rfl, rfl, rfl⟩
  have ma : a ∈ L ++ [a] := List.mem_append_right _ (List.mem_singleton.mpr rfl)
  have mx : ad 0 ∈ L ++ [a] := List.mem_append_left _ hx
  have hxa : ad 0 ≠ a := fun e9 => ha (e9 ▸ hx)
  have fx2 := (va_up_ne (va_up f a (to 9 [.int 0, .int 0, .int 0, .long 0, .long 0, .long 0, .int 0, .int 0])) (to 9 [.int lo, .int (nI (tw_len ip 4 0)), .int ou, .long be, .long ip, .long af, .int (nI (tw_len be 2 0)), .int (nI (tw_len af 2 0))]) hxa).trans ((va_up_ne f _ hxa).trans fx)
  have fa2 := va_up_self (va_up f a (to 9 [.int 0, .int 0, .int 0, .long 0, .long 0, .long 0, .int 0, .int 0])) a (to 9 [.int lo, .int (nI (tw_len ip 4 0)), .int ou, .long be, .long ip, .long af, .int (nI (tw_len be 2 0)), .int (nI (tw_len af 2 0))])
  have mL : ∀ z, z ∈ L → z ∈ L ++ [a] := fun z hz => List.mem_append_left _ hz
  have mz := mL _ hz
  have hza : ad 23 ≠ a := fun e9 => ha (by rw [← e9]; exact hz)
  have h26a : ad 26 ≠ a := fun e9 => ha (by rw [← e9]; exact h26)
  have fz2 := (va_up_ne (va_up f a (to 9 [.int 0, .int 0, .int 0, .long 0, .long 0, .long 0, .int 0, .int 0])) (to 9 [.int lo, .int (nI (tw_len ip 4 0)), .int ou, .long be, .long ip, .long af, .int (nI (tw_len be 2 0)), .int (nI (tw_len af 2 0))]) hza).trans ((va_up_ne f _ hza).trans fzz)
  have m26 : ad 26 ∈ L ++ [a] := List.mem_append_left _ h26
  have f262 := (va_up_ne (va_up f a (to 9 [.int 0, .int 0, .int 0, .long 0, .long 0, .long 0, .int 0, .int 0])) (to 9 [.int lo, .int (nI (tw_len ip 4 0)), .int ou, .long be, .long ip, .long af, .int (nI (tw_len be 2 0)), .int (nI (tw_len af 2 0))]) h26a).trans ((va_up_ne f _ h26a).trans f26)
  refine tf_blk _ b_Tf_rule_15 rfl ?_
  refine tf_cS (tf_gok _ _) (c_Tf_within l D q (d - 1) _ _ _ _ _) 24 d_Tf_rule_21 rfl lk_Tf_111 cw_Tf_within (by rfl) sa_Tf_within (by omega) (by exact Nat.le_of_ble_eq_true rfl) rfl ?_
  rintro v21 L21 f21 ⟨rfl, rfl, rfl⟩
  refine tf_if_eq 39 27 d_Tf_rule_24 rfl rfl (fun h24 => absurd h24 ((by rw [hlo]; decide))) (fun h24 => ?_)
  refine tf_blk _ b_Tf_rule_27 rfl ?_
  refine tf_get (fs := ?fs_30_21) (v := ?v_30_21) 33 d_Tf_rule_30 rfl fl_Tf_66 ?ha_30_21 ?hf_30_21 ?hv_30_21 ?kk_30_21
  case ha_30_21 => exact mx
  case hf_30_21 => exact fx2
  case hv_30_21 => rfl
  refine tf_cV (tf_gok _ _) (c_Rule_isMadeOf l D q (d - 1) _ _ (by omega) ma fa2 (nI S.n) (Nat.le_trans (tw_len_le be 2 0).2 (by decide)) (Nat.le_trans (tw_len_le ip 4 0).2 (by decide)) (Nat.le_trans (tw_len_le af 2 0).2 (by decide))) 36 d_Tf_rule_33 rfl lk_Tf_226 cw_Rule_isMadeOf (by rfl) in_Rule_isMadeOf se_Rule_isMadeOf (by exact ma) (by exact fa2) (by rfl) (by rfl) (by omega) (by exact Nat.le_of_ble_eq_true rfl) rfl ?_
  rintro v33 L33 f33 ⟨rfl, rfl, rfl⟩
  refine tf_if_ne 49 39 d_Tf_rule_36 rfl rfl (fun h36 => ?_) (fun h36 => absurd h36 (show ¬ bI (tc_made be ip af ou S) = 0 from by rw [hm]; decide))
  refine tf_blk _ b_Tf_rule_49 rfl ?_
  refine tf_get (fs := ?fs_50_23) (v := ?v_50_23) 53 d_Tf_rule_50 rfl fl_Tf_62 ?ha_50_23 ?hf_50_23 ?hv_50_23 ?kk_50_23
  case ha_50_23 => exact mx
  case hf_50_23 => exact fx2
  case hv_50_23 => rfl
  refine tf_get (fs := ?fs_53_24) (v := ?v_53_24) 56 d_Tf_rule_53 rfl fl_Tf_231 ?ha_53_24 ?hf_53_24 ?hv_53_24 ?kk_53_24
  case ha_53_24 => exact mz
  case hf_53_24 => exact fz2
  case hv_53_24 => rfl
  refine tf_blk _ b_Tf_rule_56 rfl ?_
  refine tf_ic_lt 71 61 d_Tf_rule_58 rfl rfl (fun h58 => ?_) (fun h58 => absurd (nI_lt hrn (by decide)) h58)
  refine tf_blk _ b_Tf_rule_71 rfl ?_
  refine tf_get (fs := ?fs_72_25) (v := ?v_72_25) 75 d_Tf_rule_72 rfl fl_Tf_62 ?ha_72_25 ?hf_72_25 ?hv_72_25 ?kk_72_25
  case ha_72_25 => exact mx
  case hf_72_25 => exact fx2
  case hv_72_25 => rfl
  refine tf_blk _ b_Tf_rule_75 rfl ?_
  refine tf_cV (tf_gok _ _) (c_Setter_addRule l D q (d - 1) _ _ hrn mz fz2 m26 f262 ma fa2) 80 d_Tf_rule_77 rfl lk_Tf_236 cw_Setter_addRule (by rfl) in_Setter_addRule se_Setter_addRule (by exact mz) (by exact fz2) (by rfl) (by rfl) (by omega) (by exact Nat.le_of_ble_eq_true rfl) rfl ?_
  rintro v77 L77 f77 ⟨rfl, rfl, rfl⟩
  refine tx_ret ?_
  refine tf_iret d_Tf_rule_80 rfl ?_
  refine ⟨rfl, a, ha, rfl, ?_⟩
  rw [tf_up2]
  exact tc_addRule h hcl hrn ha hBL
theorem c_Tf_glyph_S (hl : l.stackTraces = false) (hd : 8 ≤ d) {ad : Nat → Nat} {S : tc_S} {B : Nat → Prop} (h : tc_at q ad S B L f) (hn : S.n ≤ 40) (hm : S.mm ≤ 4) (hcl : tc_cl S) (hBL : ∀ z, B z → z ∈ L) : tx_C l (tf_H D q) d i_Tf_glyph [.ref (ad 0)] L f 7 ((0 + tw_gs S.mm) + 15) (fun v L2 f2 => S.n < 40 ∧ v = some (.int (nI S.n)) ∧ ∃ ad2 : Nat → Nat, ad2 0 = ad 0 ∧ tc_at q ad2 (tc_glyph S) B L2 f2 ∧ (∀ z, B z → f2 z = f z) ∧ ∀ z ∈ L, z ∈ L2) (fun E L2 f2 => S.n = 40 ∧ E = "java/lang/IllegalStateException" ∧ L2 = L ∧ f2 = f) := by
  obtain ⟨m0, f0⟩ := tc_c0 h
  obtain ⟨m1, f1⟩ := tc_c1 h
  obtain ⟨m2, f2⟩ := tc_c2 h
  refine tx_C.mono l d L f (c_Tf_glyph l D q d L f hl hd m0 m1 m2 hn hm f0 f1 f2) ?_
  rintro v L2 f3 ⟨e1, e2, a, r, f4, e3, e4, e5⟩
  obtain ⟨g1, g2, g3⟩ := tc_addGlyph h hcl e3 hBL e4
  rw [← e5] at g1 g2
  exact ⟨e1, e2, tc_ad2 ad S.n a r, tc_ad2_o (by omega), g1, g2, g3⟩
end
