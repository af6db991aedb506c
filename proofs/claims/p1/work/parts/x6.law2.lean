/-! the law: one call on a new object -/
section
variable (l : Launch) (D : va_G) (q : Nat → ClassId) (d : Nat) (L : List Nat) (f : tf_F)
set_option maxHeartbeats 4000000 in
set_option maxRecDepth 100000 in
theorem lw_k2 {QB : tf_B} {kc ks K KS : Nat} (hk1 : kc + 20 ≤ K) (hk2 : ks + 1000 ≤ KS) {m ou b N i : Nat} {xs : Nat → Int32} {ad adm : Nat → Nat} {c : Nat} {g : Nat → Int64} (hl : l.stackTraces = false) (hd : 12 ≤ d) (hc : tc_mm c) (hS : tc_at q ad (tc_S0 c) (lw_B adm m ou) L f) (hM : tm_ok q adm m (tm_Jz c) (fun _ _ => 0) (fun _ => 0) L f) (hou : ou ∈ L) (fou : f ou = tj q 1 g) (hno : ¬ tm_own adm m ou) (hK : ∀ L2 f2, tf_W l (tf_H D q) (tl_EX b N xs) QB d i_Law_law 1293 [(0, .ref b), (1, .ref (ad 0)), (2, .ref m), (3, .ref ou), (4, .int (nI i))] [] L2 f2 kc ks) (hv0 : vp_in (nI i) N) (hv1 : vp_in (nI i + kI 1) N) (hv2 : vp_in (nI i + kI 2) N) (hv3 : vp_in (nI i + kI 3) N) (hv4 : vp_in (nI i + kI 4) N) (hv5 : vp_in (nI i + kI 5) N) (hv6 : vp_in (nI i + kI 6) N) (hv7 : vp_in (nI i + kI 7) N) (hv8 : vp_in (nI i + kI 8) N) : tf_W l (tf_H D q) (tl_EX b N xs) QB d i_Law_law 292 [(0, .ref b), (1, .ref (ad 0)), (2, .ref m), (3, .ref ou), (4, .int (nI i))] [] L f K KS := by
  obtain ⟨hx, fx⟩ := tc_c0 hS
  have hT : tm_at q adm m f L (tm_Jz c) (fun _ _ => 0) (fun _ => 0) f := ⟨hM, fun _ _ => rfl⟩
  have h4 : c ≤ 4 := by rcases hc with h | h | h <;> omega
  have hG : ∀ g, bI (tm_isG (tm_J0 (tm_Jz c)) g) = 0 := fun g => by rw [tm_isG0 (J := tm_J0 (tm_Jz c)) rfl g]; rfl
  refine tf_blk _ b_Law_law_292 rfl ?_
  refine tl_sld (fun _ _ h => h.2.1) 299 d_Law_law_298 rfl (hv1) ?_
  refine tf_cV (tf_gok _ _) (c_Tf_close_n l D q (d - 1) _ _ (by omega) hS (Nat.zero_le _) tc_n0) 302 d_Law_law_299 rfl lk_Law_69 cw_Tf_close (by rfl) in_Tf_close se_Tf_close (by exact hx) (by exact fx) (by rfl) (by rfl) (by omega) (by exact Nat.le_of_ble_eq_true rfl) rfl ?_
  rintro v299 L299 f299 ⟨rfl, rfl, rfl⟩
  refine tf_blk _ b_Law_law_302 rfl ?_
  refine tl_sld (fun _ _ h => h.2.1) 309 d_Law_law_308 rfl (hv1) ?_
  refine tf_cV (tf_gok _ _) (c_Mod_close l D q (d - 1) _ _ (by omega) hT _ (fun z => absurd (hG _) z)) 312 d_Law_law_309 rfl lk_Law_73 cw_Mod_close (by rfl) in_Mod_close se_Mod_close (by exact hT.1.1) (by exact hT.1.2.1) (by rfl) (by rfl) (by omega) (by exact Nat.le_of_ble_eq_true rfl) rfl ?_
  rintro v309 L309 f309 ⟨rfl, rfl, hT⟩
  refine tf_ic_eq 1293 315 d_Law_law_312 rfl rfl (fun h312 => ?_) (fun h312 => absurd (by rw [tm_close, if_pos (hG _)]; rfl) h312)
  refine tf_less (kc2 := kc) (ks2 := ks) (by omega) (by omega) ?_
  refine tf_drop [0, 1, 2, 3, 4] rfl ?_
  exact hK _ _
set_option maxHeartbeats 4000000 in
set_option maxRecDepth 100000 in
theorem lw_k5 {QB : tf_B} {kc ks K KS : Nat} (hk1 : kc + 20 ≤ K) (hk2 : ks + 1000 ≤ KS) {m ou b N i : Nat} {xs : Nat → Int32} {ad adm : Nat → Nat} {c : Nat} {g : Nat → Int64} (hl : l.stackTraces = false) (hd : 12 ≤ d) (hc : tc_mm c) (hS : tc_at q ad (tc_S0 c) (lw_B adm m ou) L f) (hM : tm_ok q adm m (tm_Jz c) (fun _ _ => 0) (fun _ => 0) L f) (hou : ou ∈ L) (fou : f ou = tj q 1 g) (hno : ¬ tm_own adm m ou) (hK : ∀ L2 f2, tf_W l (tf_H D q) (tl_EX b N xs) QB d i_Law_law 1293 [(0, .ref b), (1, .ref (ad 0)), (2, .ref m), (3, .ref ou), (4, .int (nI i))] [] L2 f2 kc ks) (hv0 : vp_in (nI i) N) (hv1 : vp_in (nI i + kI 1) N) (hv2 : vp_in (nI i + kI 2) N) (hv3 : vp_in (nI i + kI 3) N) (hv4 : vp_in (nI i + kI 4) N) (hv5 : vp_in (nI i + kI 5) N) (hv6 : vp_in (nI i + kI 6) N) (hv7 : vp_in (nI i + kI 7) N) (hv8 : vp_in (nI i + kI 8) N) : tf_W l (tf_H D q) (tl_EX b N xs) QB d i_Law_law 485 [(0, .ref b), (1, .ref (ad 0)), (2, .ref m), (3, .ref ou), (4, .int (nI i))] [] L f K KS := by
  obtain ⟨hx, fx⟩ := tc_c0 hS
  have hT : tm_at q adm m f L (tm_Jz c) (fun _ _ => 0) (fun _ => 0) f := ⟨hM, fun _ _ => rfl⟩
  have h4 : c ≤ 4 := by rcases hc with h | h | h <;> omega
  have hG : ∀ g, bI (tm_isG (tm_J0 (tm_Jz c)) g) = 0 := fun g => by rw [tm_isG0 (J := tm_J0 (tm_Jz c)) rfl g]; rfl
  refine tf_blk _ b_Law_law_485 rfl ?_
  refine tl_sld (fun _ _ h => h.2.1) 492 d_Law_law_491 rfl (hv1) ?_
  refine tf_blk _ b_Law_law_492 rfl ?_
  refine tl_sld (fun _ _ h => h.2.1) 498 d_Law_law_497 rfl (hv2) ?_
  refine tf_blk _ b_Law_law_498 rfl ?_
  refine tl_sld (fun _ _ h => h.2.1) 504 d_Law_law_503 rfl (hv3) ?_
  refine tf_cV (tf_gok _ _) (c_Tf_advance_n l D q (d - 1) _ _ (by omega) hS (Nat.zero_le _) tc_n0 _ _) 507 d_Law_law_504 rfl lk_Law_81 cw_Tf_advance (by rfl) in_Tf_advance se_Tf_advance (by exact hx) (by exact fx) (by rfl) (by rfl) (by omega) (by exact Nat.le_of_ble_eq_true rfl) rfl ?_
  rintro v504 L504 f504 ⟨rfl, rfl, rfl⟩
  refine tf_blk _ b_Law_law_507 rfl ?_
  refine tl_sld (fun _ _ h => h.2.1) 514 d_Law_law_513 rfl (hv1) ?_
  refine tf_blk _ b_Law_law_514 rfl ?_
  refine tl_sld (fun _ _ h => h.2.1) 520 d_Law_law_519 rfl (hv2) ?_
  refine tf_blk _ b_Law_law_520 rfl ?_
  refine tl_sld (fun _ _ h => h.2.1) 526 d_Law_law_525 rfl (hv3) ?_
  refine tf_cV (tf_gok _ _) (c_Mod_advance l D q (d - 1) _ _ (by omega) hT _ _ _ (fun z => absurd (hG _) z)) 529 d_Law_law_526 rfl lk_Law_85 cw_Mod_advance (by rfl) in_Mod_advance se_Mod_advance (by exact hT.1.1) (by exact hT.1.2.1) (by rfl) (by rfl) (by omega) (by exact Nat.le_of_ble_eq_true rfl) rfl ?_
  rintro v526 L526 f526 ⟨rfl, rfl, hT⟩
  refine tf_ic_eq 1293 532 d_Law_law_529 rfl rfl (fun h529 => ?_) (fun h529 => absurd (by rw [tm_adv, if_pos (hG _)]; rfl) h529)
  refine tf_less (kc2 := kc) (ks2 := ks) (by omega) (by omega) ?_
  refine tf_drop [0, 1, 2, 3, 4] rfl ?_
  exact hK _ _
set_option maxHeartbeats 4000000 in
set_option maxRecDepth 100000 in
theorem lw_k6 {QB : tf_B} {kc ks K KS : Nat} (hk1 : kc + 20 ≤ K) (hk2 : ks + 1000 ≤ KS) {m ou b N i : Nat} {xs : Nat → Int32} {ad adm : Nat → Nat} {c : Nat} {g : Nat → Int64} (hl : l.stackTraces = false) (hd : 12 ≤ d) (hc : tc_mm c) (hS : tc_at q ad (tc_S0 c) (lw_B adm m ou) L f) (hM : tm_ok q adm m (tm_Jz c) (fun _ _ => 0) (fun _ => 0) L f) (hou : ou ∈ L) (fou : f ou = tj q 1 g) (hno : ¬ tm_own adm m ou) (hK : ∀ L2 f2, tf_W l (tf_H D q) (tl_EX b N xs) QB d i_Law_law 1293 [(0, .ref b), (1, .ref (ad 0)), (2, .ref m), (3, .ref ou), (4, .int (nI i))] [] L2 f2 kc ks) (hv0 : vp_in (nI i) N) (hv1 : vp_in (nI i + kI 1) N) (hv2 : vp_in (nI i + kI 2) N) (hv3 : vp_in (nI i + kI 3) N) (hv4 : vp_in (nI i + kI 4) N) (hv5 : vp_in (nI i + kI 5) N) (hv6 : vp_in (nI i + kI 6) N) (hv7 : vp_in (nI i + kI 7) N) (hv8 : vp_in (nI i + kI 8) N) : tf_W l (tf_H D q) (tl_EX b N xs) QB d i_Law_law 534 [(0, .ref b), (1, .ref (ad 0)), (2, .ref m), (3, .ref ou), (4, .int (nI i))] [] L f K KS := by
  obtain ⟨hx, fx⟩ := tc_c0 hS
  have hT : tm_at q adm m f L (tm_Jz c) (fun _ _ => 0) (fun _ => 0) f := ⟨hM, fun _ _ => rfl⟩
  have h4 : c ≤ 4 := by rcases hc with h | h | h <;> omega
  refine tf_blk _ b_Law_law_534 rfl ?_
  refine tl_sld (fun _ _ h => h.2.1) 541 d_Law_law_540 rfl (hv1) ?_
  refine tf_blk _ b_Law_law_541 rfl ?_
  refine tl_sld (fun _ _ h => h.2.1) 547 d_Law_law_546 rfl (hv2) ?_
  refine tf_cV (tf_gok _ _) (c_Tf_instance l D q (d - 1) _ _ (by omega) hS _ _) 550 d_Law_law_547 rfl lk_Law_86 cw_Tf_instance (by rfl) in_Tf_instance se_Tf_instance (by exact hx) (by exact fx) (by rfl) (by rfl) (by omega) (by exact Nat.le_of_ble_eq_true rfl) rfl ?_
  rintro v547 L547 f547 ⟨rfl, rfl, hS2, hB2⟩
  have hT : tm_at q adm m f547 _ (tm_Jz c) (fun _ _ => 0) (fun _ => 0) f547 := tm_mv hM (fun _ z => z) (fun z _ hz => hB2 z (Or.inl hz))
  refine tf_blk _ b_Law_law_550 rfl ?_
  refine tl_sld (fun _ _ h => h.2.1) 557 d_Law_law_556 rfl (hv1) ?_
  refine tf_blk _ b_Law_law_557 rfl ?_
  refine tl_sld (fun _ _ h => h.2.1) 563 d_Law_law_562 rfl (hv2) ?_
  refine tf_cV (tf_gok _ _) (c_Mod_instance l D q (d - 1) _ _ hT _ _) 566 d_Law_law_563 rfl lk_Law_90 cw_Mod_instance (by rfl) in_Mod_instance se_Mod_instance (by exact hT.1.1) (by exact hT.1.2.1) (by rfl) (by rfl) (by omega) (by exact Nat.le_of_ble_eq_true rfl) rfl ?_
  rintro v563 L563 f563 ⟨rfl, rfl, hT⟩
  refine tf_ic_eq 1293 569 d_Law_law_566 rfl rfl (fun h566 => ?_) (fun h566 => absurd (lw_e6 _ _ _) h566)
  refine tf_less (kc2 := kc) (ks2 := ks) (by omega) (by omega) ?_
  refine tf_drop [0, 1, 2, 3, 4] rfl ?_
  exact hK _ _
set_option maxHeartbeats 4000000 in
set_option maxRecDepth 100000 in
theorem lw_k8 {QB : tf_B} {kc ks K KS : Nat} (hk1 : kc + 20 ≤ K) (hk2 : ks + 1000 ≤ KS) {m ou b N i : Nat} {xs : Nat → Int32} {ad adm : Nat → Nat} {c : Nat} {g : Nat → Int64} (hl : l.stackTraces = false) (hd : 12 ≤ d) (hc : tc_mm c) (hS : tc_at q ad (tc_S0 c) (lw_B adm m ou) L f) (hM : tm_ok q adm m (tm_Jz c) (fun _ _ => 0) (fun _ => 0) L f) (hou : ou ∈ L) (fou : f ou = tj q 1 g) (hno : ¬ tm_own adm m ou) (hK : ∀ L2 f2, tf_W l (tf_H D q) (tl_EX b N xs) QB d i_Law_law 1293 [(0, .ref b), (1, .ref (ad 0)), (2, .ref m), (3, .ref ou), (4, .int (nI i))] [] L2 f2 kc ks) (hv0 : vp_in (nI i) N) (hv1 : vp_in (nI i + kI 1) N) (hv2 : vp_in (nI i + kI 2) N) (hv3 : vp_in (nI i + kI 3) N) (hv4 : vp_in (nI i + kI 4) N) (hv5 : vp_in (nI i + kI 5) N) (hv6 : vp_in (nI i + kI 6) N) (hv7 : vp_in (nI i + kI 7) N) (hv8 : vp_in (nI i + kI 8) N) : tf_W l (tf_H D q) (tl_EX b N xs) QB d i_Law_law 651 [(0, .ref b), (1, .ref (ad 0)), (2, .ref m), (3, .ref ou), (4, .int (nI i))] [] L f K KS := by
  obtain ⟨hx, fx⟩ := tc_c0 hS
  have hT : tm_at q adm m f L (tm_Jz c) (fun _ _ => 0) (fun _ => 0) f := ⟨hM, fun _ _ => rfl⟩
  have h4 : c ≤ 4 := by rcases hc with h | h | h <;> omega
  refine tf_blk _ b_Law_law_651 rfl ?_
  refine tl_sld (fun _ _ h => h.2.1) 658 d_Law_law_657 rfl (hv1) ?_
  refine tf_cV (tf_gok _ _) (c_Tf_height l D q (d - 1) _ _ (by omega) hS _ (Nat.zero_le _)) 661 d_Law_law_658 rfl lk_Law_95 cw_Tf_height (by rfl) in_Tf_height se_Tf_height (by exact hx) (by exact fx) (by rfl) (by rfl) (by omega) (by exact Nat.le_of_ble_eq_true rfl) rfl ?_
  rintro v658 L658 f658 ⟨rfl, rfl, hS2, hB2⟩
  have hT : tm_at q adm m f658 _ (tm_Jz c) (fun _ _ => 0) (fun _ => 0) f658 := tm_mv hM (fun _ z => z) (fun z _ hz => hB2 z (Or.inl hz))
  refine tf_blk _ b_Law_law_661 rfl ?_
  refine tl_sld (fun _ _ h => h.2.1) 668 d_Law_law_667 rfl (hv1) ?_
  refine tf_cV (tf_gok _ _) (c_Mod_height l D q (d - 1) _ _ (by omega) hT _ (n := 0) (by omega) rfl) 671 d_Law_law_668 rfl lk_Law_98 cw_Mod_height (by rfl) in_Mod_height se_Mod_height (by exact hT.1.1) (by exact hT.1.2.1) (by rfl) (by rfl) (by omega) (by exact Nat.le_of_ble_eq_true rfl) rfl ?_
  rintro v668 L668 f668 ⟨rfl, rfl, hT⟩
  refine tf_ic_eq 1293 674 d_Law_law_671 rfl rfl (fun h671 => ?_) (fun h671 => absurd (lw_e8 _ _) h671)
  refine tf_less (kc2 := kc) (ks2 := ks) (by omega) (by omega) ?_
  refine tf_drop [0, 1, 2, 3, 4] rfl ?_
  exact hK _ _
set_option maxHeartbeats 4000000 in
set_option maxRecDepth 100000 in
theorem lw_k10 {QB : tf_B} {kc ks K KS : Nat} (hk1 : kc + 20 ≤ K) (hk2 : ks + 1000 ≤ KS) {m ou b N i : Nat} {xs : Nat → Int32} {ad adm : Nat → Nat} {c : Nat} {g : Nat → Int64} (hl : l.stackTraces = false) (hd : 12 ≤ d) (hc : tc_mm c) (hS : tc_at q ad (tc_S0 c) (lw_B adm m ou) L f) (hM : tm_ok q adm m (tm_Jz c) (fun _ _ => 0) (fun _ => 0) L f) (hou : ou ∈ L) (fou : f ou = tj q 1 g) (hno : ¬ tm_own adm m ou) (hK : ∀ L2 f2, tf_W l (tf_H D q) (tl_EX b N xs) QB d i_Law_law 1293 [(0, .ref b), (1, .ref (ad 0)), (2, .ref m), (3, .ref ou), (4, .int (nI i))] [] L2 f2 kc ks) (hv0 : vp_in (nI i) N) (hv1 : vp_in (nI i + kI 1) N) (hv2 : vp_in (nI i + kI 2) N) (hv3 : vp_in (nI i + kI 3) N) (hv4 : vp_in (nI i + kI 4) N) (hv5 : vp_in (nI i + kI 5) N) (hv6 : vp_in (nI i + kI 6) N) (hv7 : vp_in (nI i + kI 7) N) (hv8 : vp_in (nI i + kI 8) N) : tf_W l (tf_H D q) (tl_EX b N xs) QB d i_Law_law 772 [(0, .ref b), (1, .ref (ad 0)), (2, .ref m), (3, .ref ou), (4, .int (nI i))] [] L f K KS := by
  obtain ⟨hx, fx⟩ := tc_c0 hS
  have hT : tm_at q adm m f L (tm_Jz c) (fun _ _ => 0) (fun _ => 0) f := ⟨hM, fun _ _ => rfl⟩
  have h4 : c ≤ 4 := by rcases hc with h | h | h <;> omega
  refine tf_blk _ b_Law_law_772 rfl ?_
  refine tl_sld (fun _ _ h => h.2.1) 779 d_Law_law_778 rfl (hv1) ?_
  refine tf_blk _ b_Law_law_779 rfl ?_
  refine tl_sld (fun _ _ h => h.2.1) 785 d_Law_law_784 rfl (hv2) ?_
  refine tf_cV (tf_gok _ _) (c_Tf_pixel l D q (d - 1) _ _ (by omega) hS _ _ (fun z => absurd ((lw_e10a _).symm.trans z) (by decide))) 788 d_Law_law_785 rfl lk_Law_103 cw_Tf_pixel (by rfl) in_Tf_pixel se_Tf_pixel (by exact hx) (by exact fx) (by rfl) (by rfl) (by omega) (by exact Nat.le_of_ble_eq_true rfl) rfl ?_
  rintro v785 L785 f785 ⟨rfl, rfl, rfl⟩
  refine tf_blk _ b_Law_law_788 rfl ?_
  refine tl_sld (fun _ _ h => h.2.1) 795 d_Law_law_794 rfl (hv1) ?_
  refine tf_blk _ b_Law_law_795 rfl ?_
  refine tl_sld (fun _ _ h => h.2.1) 801 d_Law_law_800 rfl (hv2) ?_
  refine tf_cV (tf_gok _ _) (c_Mod_pixel l D q (d - 1) _ _ hT _ _ (fun z1 _ z3 _ => absurd (Int32.not_lt.mp z1) z3)) 804 d_Law_law_801 rfl lk_Law_106 cw_Mod_pixel (by rfl) in_Mod_pixel se_Mod_pixel (by exact hT.1.1) (by exact hT.1.2.1) (by rfl) (by rfl) (by omega) (by exact Nat.le_of_ble_eq_true rfl) rfl ?_
  rintro v801 L801 f801 ⟨rfl, rfl, hT⟩
  refine tf_ic_eq 1293 807 d_Law_law_804 rfl rfl (fun h804 => ?_) (fun h804 => absurd (lw_e10 _ _ _) h804)
  refine tf_less (kc2 := kc) (ks2 := ks) (by omega) (by omega) ?_
  refine tf_drop [0, 1, 2, 3, 4] rfl ?_
  exact hK _ _
set_option maxHeartbeats 4000000 in
set_option maxRecDepth 100000 in
theorem lw_k11 {QB : tf_B} {kc ks K KS : Nat} (hk1 : kc + 20 ≤ K) (hk2 : ks + 1000 ≤ KS) {m ou b N i : Nat} {xs : Nat → Int32} {ad adm : Nat → Nat} {c : Nat} {g : Nat → Int64} (hl : l.stackTraces = false) (hd : 12 ≤ d) (hc : tc_mm c) (hS : tc_at q ad (tc_S0 c) (lw_B adm m ou) L f) (hM : tm_ok q adm m (tm_Jz c) (fun _ _ => 0) (fun _ => 0) L f) (hou : ou ∈ L) (fou : f ou = tj q 1 g) (hno : ¬ tm_own adm m ou) (hK : ∀ L2 f2, tf_W l (tf_H D q) (tl_EX b N xs) QB d i_Law_law 1293 [(0, .ref b), (1, .ref (ad 0)), (2, .ref m), (3, .ref ou), (4, .int (nI i))] [] L2 f2 kc ks) (hv0 : vp_in (nI i) N) (hv1 : vp_in (nI i + kI 1) N) (hv2 : vp_in (nI i + kI 2) N) (hv3 : vp_in (nI i + kI 3) N) (hv4 : vp_in (nI i + kI 4) N) (hv5 : vp_in (nI i + kI 5) N) (hv6 : vp_in (nI i + kI 6) N) (hv7 : vp_in (nI i + kI 7) N) (hv8 : vp_in (nI i + kI 8) N) : tf_W l (tf_H D q) (tl_EX b N xs) QB d i_Law_law 809 [(0, .ref b), (1, .ref (ad 0)), (2, .ref m), (3, .ref ou), (4, .int (nI i))] [] L f K KS := by
  obtain ⟨hx, fx⟩ := tc_c0 hS
  have hT : tm_at q adm m f L (tm_Jz c) (fun _ _ => 0) (fun _ => 0) f := ⟨hM, fun _ _ => rfl⟩
  have h4 : c ≤ 4 := by rcases hc with h | h | h <;> omega
  have hG : ∀ g, bI (tm_isG (tm_J0 (tm_Jz c)) g) = 0 := fun g => by rw [tm_isG0 (J := tm_J0 (tm_Jz c)) rfl g]; rfl
  refine tf_blk _ b_Law_law_809 rfl ?_
  refine tl_sld (fun _ _ h => h.2.1) 816 d_Law_law_815 rfl (hv1) ?_
  refine tf_blk _ b_Law_law_816 rfl ?_
  refine tl_sld (fun _ _ h => h.2.1) 822 d_Law_law_821 rfl (hv2) ?_
  refine tf_blk _ b_Law_law_822 rfl ?_
  refine tl_sld (fun _ _ h => h.2.1) 828 d_Law_law_827 rfl (hv3) ?_
  refine tf_cV (tf_gok _ _) (c_Tf_sort_n l D q (d - 1) _ _ (by omega) hS (Nat.zero_le _) tc_n0 _ _) 831 d_Law_law_828 rfl lk_Law_107 cw_Tf_sort (by rfl) in_Tf_sort se_Tf_sort (by exact hx) (by exact fx) (by rfl) (by rfl) (by omega) (by exact Nat.le_of_ble_eq_true rfl) rfl ?_
  rintro v828 L828 f828 ⟨rfl, rfl, rfl⟩
  refine tf_blk _ b_Law_law_831 rfl ?_
  refine tl_sld (fun _ _ h => h.2.1) 838 d_Law_law_837 rfl (hv1) ?_
  refine tf_blk _ b_Law_law_838 rfl ?_
  refine tl_sld (fun _ _ h => h.2.1) 844 d_Law_law_843 rfl (hv2) ?_
  refine tf_blk _ b_Law_law_844 rfl ?_
  refine tl_sld (fun _ _ h => h.2.1) 850 d_Law_law_849 rfl (hv3) ?_
  refine tf_cV (tf_gok _ _) (c_Mod_sort l D q (d - 1) _ _ (by omega) hT _ _ _ (fun z => absurd (hG _) z)) 853 d_Law_law_850 rfl lk_Law_110 cw_Mod_sort (by rfl) in_Mod_sort se_Mod_sort (by exact hT.1.1) (by exact hT.1.2.1) (by rfl) (by rfl) (by omega) (by exact Nat.le_of_ble_eq_true rfl) rfl ?_
  rintro v850 L850 f850 ⟨rfl, rfl, hT⟩
  refine tf_ic_eq 1293 856 d_Law_law_853 rfl rfl (fun h853 => ?_) (fun h853 => absurd (lw_e11 (hG _) _ _) h853)
  refine tf_less (kc2 := kc) (ks2 := ks) (by omega) (by omega) ?_
  refine tf_drop [0, 1, 2, 3, 4] rfl ?_
  exact hK _ _
set_option maxHeartbeats 4000000 in
set_option maxRecDepth 100000 in
theorem lw_k12 {QB : tf_B} {kc ks K KS : Nat} (hk1 : kc + 20 ≤ K) (hk2 : ks + 1000 ≤ KS) {m ou b N i : Nat} {xs : Nat → Int32} {ad adm : Nat → Nat} {c : Nat} {g : Nat → Int64} (hl : l.stackTraces = false) (hd : 12 ≤ d) (hc : tc_mm c) (hS : tc_at q ad (tc_S0 c) (lw_B adm m ou) L f) (hM : tm_ok q adm m (tm_Jz c) (fun _ _ => 0) (fun _ => 0) L f) (hou : ou ∈ L) (fou : f ou = tj q 1 g) (hno : ¬ tm_own adm m ou) (hK : ∀ L2 f2, tf_W l (tf_H D q) (tl_EX b N xs) QB d i_Law_law 1293 [(0, .ref b), (1, .ref (ad 0)), (2, .ref m), (3, .ref ou), (4, .int (nI i))] [] L2 f2 kc ks) (hv0 : vp_in (nI i) N) (hv1 : vp_in (nI i + kI 1) N) (hv2 : vp_in (nI i + kI 2) N) (hv3 : vp_in (nI i + kI 3) N) (hv4 : vp_in (nI i + kI 4) N) (hv5 : vp_in (nI i + kI 5) N) (hv6 : vp_in (nI i + kI 6) N) (hv7 : vp_in (nI i + kI 7) N) (hv8 : vp_in (nI i + kI 8) N) : tf_W l (tf_H D q) (tl_EX b N xs) QB d i_Law_law 858 [(0, .ref b), (1, .ref (ad 0)), (2, .ref m), (3, .ref ou), (4, .int (nI i))] [] L f K KS := by
  obtain ⟨hx, fx⟩ := tc_c0 hS
  have hT : tm_at q adm m f L (tm_Jz c) (fun _ _ => 0) (fun _ => 0) f := ⟨hM, fun _ _ => rfl⟩
  have h4 : c ≤ 4 := by rcases hc with h | h | h <;> omega
  refine tf_blk _ b_Law_law_858 rfl ?_
  refine tl_sld (fun _ _ h => h.2.1) 865 d_Law_law_864 rfl (hv1) ?_
  refine tf_blk _ b_Law_law_865 rfl ?_
  refine tl_sld (fun _ _ h => h.2.1) 871 d_Law_law_870 rfl (hv2) ?_
  refine tf_blk _ b_Law_law_871 rfl ?_
  refine tl_sld (fun _ _ h => h.2.1) 877 d_Law_law_876 rfl (hv3) ?_
  refine tf_cV (tf_gok _ _) (c_Tf_kern l D q (d - 1) _ _ (by omega) hS _ _ _) 880 d_Law_law_877 rfl lk_Law_111 cw_Tf_kern (by rfl) in_Tf_kern se_Tf_kern (by exact hx) (by exact fx) (by rfl) (by rfl) (by omega) (by exact Nat.le_of_ble_eq_true rfl) rfl ?_
  rintro v877 L877 f877 ⟨rfl, rfl, hS2, hB2⟩
  have hT : tm_at q adm m f877 _ (tm_Jz c) (fun _ _ => 0) (fun _ => 0) f877 := tm_mv hM (fun _ z => z) (fun z _ hz => hB2 z (Or.inl hz))
  refine tf_blk _ b_Law_law_880 rfl ?_
  refine tl_sld (fun _ _ h => h.2.1) 887 d_Law_law_886 rfl (hv1) ?_
  refine tf_blk _ b_Law_law_887 rfl ?_
  refine tl_sld (fun _ _ h => h.2.1) 893 d_Law_law_892 rfl (hv2) ?_
  refine tf_blk _ b_Law_law_893 rfl ?_
  refine tl_sld (fun _ _ h => h.2.1) 899 d_Law_law_898 rfl (hv3) ?_
  refine tf_cV (tf_gok _ _) (c_Mod_kern l D q (d - 1) _ _ (by omega) hT _ _ _ lw_kv) 902 d_Law_law_899 rfl lk_Law_114 cw_Mod_kern (by rfl) in_Mod_kern se_Mod_kern (by exact hT.1.1) (by exact hT.1.2.1) (by rfl) (by rfl) (by omega) (by exact Nat.le_of_ble_eq_true rfl) rfl ?_
  rintro v899 L899 f899 ⟨rfl, rfl, hT⟩
  refine tf_ic_eq 1293 905 d_Law_law_902 rfl rfl (fun h902 => ?_) (fun h902 => absurd (lw_e12 _ _ _ _) h902)
  refine tf_less (kc2 := kc) (ks2 := ks) (by omega) (by omega) ?_
  refine tf_drop [0, 1, 2, 3, 4] rfl ?_
  exact hK _ _
set_option maxHeartbeats 4000000 in
set_option maxRecDepth 100000 in
theorem lw_k13 {QB : tf_B} {kc ks K KS : Nat} (hk1 : kc + 20 ≤ K) (hk2 : ks + 1000 ≤ KS) {m ou b N i : Nat} {xs : Nat → Int32} {ad adm : Nat → Nat} {c : Nat} {g : Nat → Int64} (hl : l.stackTraces = false) (hd : 12 ≤ d) (hc : tc_mm c) (hS : tc_at q ad (tc_S0 c) (lw_B adm m ou) L f) (hM : tm_ok q adm m (tm_Jz c) (fun _ _ => 0) (fun _ => 0) L f) (hou : ou ∈ L) (fou : f ou = tj q 1 g) (hno : ¬ tm_own adm m ou) (hK : ∀ L2 f2, tf_W l (tf_H D q) (tl_EX b N xs) QB d i_Law_law 1293 [(0, .ref b), (1, .ref (ad 0)), (2, .ref m), (3, .ref ou), (4, .int (nI i))] [] L2 f2 kc ks) (hv0 : vp_in (nI i) N) (hv1 : vp_in (nI i + kI 1) N) (hv2 : vp_in (nI i + kI 2) N) (hv3 : vp_in (nI i + kI 3) N) (hv4 : vp_in (nI i + kI 4) N) (hv5 : vp_in (nI i + kI 5) N) (hv6 : vp_in (nI i + kI 6) N) (hv7 : vp_in (nI i + kI 7) N) (hv8 : vp_in (nI i + kI 8) N) : tf_W l (tf_H D q) (tl_EX b N xs) QB d i_Law_law 907 [(0, .ref b), (1, .ref (ad 0)), (2, .ref m), (3, .ref ou), (4, .int (nI i))] [] L f K KS := by
  obtain ⟨hx, fx⟩ := tc_c0 hS
  have hT : tm_at q adm m f L (tm_Jz c) (fun _ _ => 0) (fun _ => 0) f := ⟨hM, fun _ _ => rfl⟩
  have h4 : c ≤ 4 := by rcases hc with h | h | h <;> omega
  refine tf_blk _ b_Law_law_907 rfl ?_
  refine tl_sld (fun _ _ h => h.2.1) 914 d_Law_law_913 rfl (hv1) ?_
  refine tf_blk _ b_Law_law_914 rfl ?_
  refine tl_sld (fun _ _ h => h.2.1) 920 d_Law_law_919 rfl (hv2) ?_
  refine tf_blk _ b_Law_law_920 rfl ?_
  refine tl_sld (fun _ _ h => h.2.1) 926 d_Law_law_925 rfl (hv3) ?_
  refine tf_cV (tf_gok _ _) (c_Tf_pair_n1 l D q (d - 1) _ _ (by omega) hS (Nat.zero_le _) tc_n0 _ _) 929 d_Law_law_926 rfl lk_Law_115 cw_Tf_pair (by rfl) in_Tf_pair se_Tf_pair (by exact hx) (by exact fx) (by rfl) (by rfl) (by omega) (by exact Nat.le_of_ble_eq_true rfl) rfl ?_
  rintro v926 L926 f926 ⟨rfl, rfl, rfl⟩
  refine tf_blk _ b_Law_law_929 rfl ?_
  refine tl_sld (fun _ _ h => h.2.1) 936 d_Law_law_935 rfl (hv1) ?_
  refine tf_blk _ b_Law_law_936 rfl ?_
  refine tl_sld (fun _ _ h => h.2.1) 942 d_Law_law_941 rfl (hv2) ?_
  refine tf_blk _ b_Law_law_942 rfl ?_
  refine tl_sld (fun _ _ h => h.2.1) 948 d_Law_law_947 rfl (hv3) ?_
  refine tf_cV (tf_gok _ _) (c_Mod_pair_n l D q (d - 1) _ _ (by omega) hT _ _ _ (tm_isG0 (J := tm_J0 (tm_Jz c)) rfl _)) 951 d_Law_law_948 rfl lk_Law_118 cw_Mod_pair (by rfl) in_Mod_pair se_Mod_pair (by exact hT.1.1) (by exact hT.1.2.1) (by rfl) (by rfl) (by omega) (by exact Nat.le_of_ble_eq_true rfl) rfl ?_
  rintro v948 L948 f948 ⟨rfl, rfl, hT⟩
  refine tf_ic_eq 1293 954 d_Law_law_951 rfl rfl (fun h951 => ?_) (fun h951 => absurd (rfl) h951)
  refine tf_less (kc2 := kc) (ks2 := ks) (by omega) (by omega) ?_
  refine tf_drop [0, 1, 2, 3, 4] rfl ?_
  exact hK _ _
set_option maxHeartbeats 4000000 in
set_option maxRecDepth 100000 in
theorem lw_k15 {QB : tf_B} {kc ks K KS : Nat} (hk1 : kc + 20 ≤ K) (hk2 : ks + 1000 ≤ KS) {m ou b N i : Nat} {xs : Nat → Int32} {ad adm : Nat → Nat} {c : Nat} {g : Nat → Int64} (hl : l.stackTraces = false) (hd : 12 ≤ d) (hc : tc_mm c) (hS : tc_at q ad (tc_S0 c) (lw_B adm m ou) L f) (hM : tm_ok q adm m (tm_Jz c) (fun _ _ => 0) (fun _ => 0) L f) (hou : ou ∈ L) (fou : f ou = tj q 1 g) (hno : ¬ tm_own adm m ou) (hK : ∀ L2 f2, tf_W l (tf_H D q) (tl_EX b N xs) QB d i_Law_law 1293 [(0, .ref b), (1, .ref (ad 0)), (2, .ref m), (3, .ref ou), (4, .int (nI i))] [] L2 f2 kc ks) (hv0 : vp_in (nI i) N) (hv1 : vp_in (nI i + kI 1) N) (hv2 : vp_in (nI i + kI 2) N) (hv3 : vp_in (nI i + kI 3) N) (hv4 : vp_in (nI i + kI 4) N) (hv5 : vp_in (nI i + kI 5) N) (hv6 : vp_in (nI i + kI 6) N) (hv7 : vp_in (nI i + kI 7) N) (hv8 : vp_in (nI i + kI 8) N) : tf_W l (tf_H D q) (tl_EX b N xs) QB d i_Law_law 1162 [(0, .ref b), (1, .ref (ad 0)), (2, .ref m), (3, .ref ou), (4, .int (nI i))] [] L f K KS := by
  obtain ⟨hx, fx⟩ := tc_c0 hS
  have hT : tm_at q adm m f L (tm_Jz c) (fun _ _ => 0) (fun _ => 0) f := ⟨hM, fun _ _ => rfl⟩
  have h4 : c ≤ 4 := by rcases hc with h | h | h <;> omega
  have hG : ∀ g, bI (tm_isG (tm_J0 (tm_Jz c)) g) = 0 := fun g => by rw [tm_isG0 (J := tm_J0 (tm_Jz c)) rfl g]; rfl
  refine tf_blk _ b_Law_law_1162 rfl ?_
  refine tl_sld (fun _ _ h => h.2.1) 1169 d_Law_law_1168 rfl (hv1) ?_
  refine tf_cV (tf_gok _ _) (c_Tf_type_n l D q (d - 1) _ _ (by omega) hS (Nat.zero_le _) tc_n0) 1172 d_Law_law_1169 rfl lk_Law_125 cw_Tf_type (by rfl) in_Tf_type se_Tf_type (by exact hx) (by exact fx) (by rfl) (by rfl) (by omega) (by exact Nat.le_of_ble_eq_true rfl) rfl ?_
  rintro v1169 L1169 f1169 ⟨rfl, rfl, rfl⟩
  refine tf_blk _ b_Law_law_1172 rfl ?_
  refine tl_sld (fun _ _ h => h.2.1) 1179 d_Law_law_1178 rfl (hv1) ?_
  refine tf_cV (tf_gok _ _) (c_Mod_type l D q (d - 1) _ _ (by omega) hT _ (fun _ => (show vp_in (nI 0) 60 from vp_in_nI (by decide) (by decide)))) 1182 d_Law_law_1179 rfl lk_Law_128 cw_Mod_type (by rfl) in_Mod_type se_Mod_type (by exact hT.1.1) (by exact hT.1.2.1) (by rfl) (by rfl) (by omega) (by exact Nat.le_of_ble_eq_true rfl) rfl ?_
  rintro v1179 L1179 f1179 ⟨rfl, rfl, hT⟩
  refine tf_ic_eq 1293 1185 d_Law_law_1182 rfl rfl (fun h1182 => ?_) (fun h1182 => absurd (by rw [tm_type, if_pos (hG _)]; rfl) h1182)
  refine tf_less (kc2 := kc) (ks2 := ks) (by omega) (by omega) ?_
  refine tf_drop [0, 1, 2, 3, 4] rfl ?_
  exact hK _ _
set_option maxHeartbeats 4000000 in
set_option maxRecDepth 100000 in
theorem lw_k16 {QB : tf_B} {kc ks K KS : Nat} (hk1 : kc + 20 ≤ K) (hk2 : ks + 1000 ≤ KS) {m ou b N i : Nat} {xs : Nat → Int32} {ad adm : Nat → Nat} {c : Nat} {g : Nat → Int64} (hl : l.stackTraces = false) (hd : 12 ≤ d) (hc : tc_mm c) (hS : tc_at q ad (tc_S0 c) (lw_B adm m ou) L f) (hM : tm_ok q adm m (tm_Jz c) (fun _ _ => 0) (fun _ => 0) L f) (hou : ou ∈ L) (fou : f ou = tj q 1 g) (hno : ¬ tm_own adm m ou) (hK : ∀ L2 f2, tf_W l (tf_H D q) (tl_EX b N xs) QB d i_Law_law 1293 [(0, .ref b), (1, .ref (ad 0)), (2, .ref m), (3, .ref ou), (4, .int (nI i))] [] L2 f2 kc ks) (hv0 : vp_in (nI i) N) (hv1 : vp_in (nI i + kI 1) N) (hv2 : vp_in (nI i + kI 2) N) (hv3 : vp_in (nI i + kI 3) N) (hv4 : vp_in (nI i + kI 4) N) (hv5 : vp_in (nI i + kI 5) N) (hv6 : vp_in (nI i + kI 6) N) (hv7 : vp_in (nI i + kI 7) N) (hv8 : vp_in (nI i + kI 8) N) : tf_W l (tf_H D q) (tl_EX b N xs) QB d i_Law_law 1187 [(0, .ref b), (1, .ref (ad 0)), (2, .ref m), (3, .ref ou), (4, .int (nI i))] [] L f K KS := by
  obtain ⟨hx, fx⟩ := tc_c0 hS
  have hT : tm_at q adm m f L (tm_Jz c) (fun _ _ => 0) (fun _ => 0) f := ⟨hM, fun _ _ => rfl⟩
  have h4 : c ≤ 4 := by rcases hc with h | h | h <;> omega
  refine tf_blk _ b_Law_law_1187 rfl ?_
  refine tf_cV (tf_gok _ _) (c_Tf_shape l D q (d - 1) _ _ (by omega) hS (Nat.zero_le _) (Nat.zero_le _) (Nat.zero_le _) (fun i hi => absurd hi (Nat.not_lt_zero i))) 1191 d_Law_law_1188 rfl lk_Law_129 cw_Tf_shape (by rfl) in_Tf_shape se_Tf_shape (by exact hx) (by exact fx) (by rfl) (by rfl) (by omega) (by exact Nat.le_of_ble_eq_true rfl) rfl ?_
  rintro v1188 L1188 f1188 ⟨rfl, rfl, hS2, hB2⟩
  have hT : tm_at q adm m f1188 _ (tm_Jz c) (fun _ _ => 0) (fun _ => 0) f1188 := tm_mv hM (fun _ z => z) (fun z _ hz => hB2 z (Or.inl hz))
  refine tf_blk _ b_Law_law_1191 rfl ?_
  refine tf_cV (tf_gok _ _) (c_Mod_shape_0 l D q (d - 1) _ _ hT rfl) 1195 d_Law_law_1192 rfl lk_Law_132 cw_Mod_shape (by rfl) in_Mod_shape se_Mod_shape (by exact hT.1.1) (by exact hT.1.2.1) (by rfl) (by rfl) (by omega) (by exact Nat.le_of_ble_eq_true rfl) rfl ?_
  rintro v1192 L1192 f1192 ⟨rfl, rfl, hT⟩
  refine tf_ic_eq 1293 1198 d_Law_law_1195 rfl rfl (fun h1195 => ?_) (fun h1195 => absurd (lw_e16 c) h1195)
  refine tf_less (kc2 := kc) (ks2 := ks) (by omega) (by omega) ?_
  refine tf_drop [0, 1, 2, 3, 4] rfl ?_
  exact hK _ _
set_option maxHeartbeats 4000000 in
set_option maxRecDepth 100000 in
theorem lw_k18 {QB : tf_B} {kc ks K KS : Nat} (hk1 : kc + 20 ≤ K) (hk2 : ks + 1000 ≤ KS) {m ou b N i : Nat} {xs : Nat → Int32} {ad adm : Nat → Nat} {c : Nat} {g : Nat → Int64} (hl : l.stackTraces = false) (hd : 12 ≤ d) (hc : tc_mm c) (hS : tc_at q ad (tc_S0 c) (lw_B adm m ou) L f) (hM : tm_ok q adm m (tm_Jz c) (fun _ _ => 0) (fun _ => 0) L f) (hou : ou ∈ L) (fou : f ou = tj q 1 g) (hno : ¬ tm_own adm m ou) (hK : ∀ L2 f2, tf_W l (tf_H D q) (tl_EX b N xs) QB d i_Law_law 1293 [(0, .ref b), (1, .ref (ad 0)), (2, .ref m), (3, .ref ou), (4, .int (nI i))] [] L2 f2 kc ks) (hv0 : vp_in (nI i) N) (hv1 : vp_in (nI i + kI 1) N) (hv2 : vp_in (nI i + kI 2) N) (hv3 : vp_in (nI i + kI 3) N) (hv4 : vp_in (nI i + kI 4) N) (hv5 : vp_in (nI i + kI 5) N) (hv6 : vp_in (nI i + kI 6) N) (hv7 : vp_in (nI i + kI 7) N) (hv8 : vp_in (nI i + kI 8) N) : tf_W l (tf_H D q) (tl_EX b N xs) QB d i_Law_law 1268 [(0, .ref b), (1, .ref (ad 0)), (2, .ref m), (3, .ref ou), (4, .int (nI i))] [] L f K KS := by
  obtain ⟨hx, fx⟩ := tc_c0 hS
  have hT : tm_at q adm m f L (tm_Jz c) (fun _ _ => 0) (fun _ => 0) f := ⟨hM, fun _ _ => rfl⟩
  have h4 : c ≤ 4 := by rcases hc with h | h | h <;> omega
  refine tf_blk _ b_Law_law_1268 rfl ?_
  refine tl_sld (fun _ _ h => h.2.1) 1275 d_Law_law_1274 rfl (hv1) ?_
  refine tf_cV (tf_gok _ _) (c_Tf_count l D q (d - 1) _ _ hS _) 1278 d_Law_law_1275 rfl lk_Law_137 cw_Tf_count (by rfl) in_Tf_count se_Tf_count (by exact hx) (by exact fx) (by rfl) (by rfl) (by omega) (by exact Nat.le_of_ble_eq_true rfl) rfl ?_
  rintro v1275 L1275 f1275 ⟨rfl, rfl, rfl⟩
  refine tf_blk _ b_Law_law_1278 rfl ?_
  refine tl_sld (fun _ _ h => h.2.1) 1285 d_Law_law_1284 rfl (hv1) ?_
  refine tf_cV (tf_gok _ _) (c_Mod_count l D q (d - 1) _ _ hT _) 1288 d_Law_law_1285 rfl lk_Law_141 cw_Mod_count (by rfl) in_Mod_count se_Mod_count (by exact hT.1.1) (by exact hT.1.2.1) (by rfl) (by rfl) (by omega) (by exact Nat.le_of_ble_eq_true rfl) rfl ?_
  rintro v1285 L1285 f1285 ⟨rfl, rfl, hT⟩
  refine tf_ic_eq 1293 1291 d_Law_law_1288 rfl rfl (fun h1288 => ?_) (fun h1288 => absurd (lw_e18 _ _) h1288)
  refine tf_less (kc2 := kc) (ks2 := ks) (by omega) (by omega) ?_
  refine tf_drop [0, 1, 2, 3, 4] rfl ?_
  exact hK _ _
set_option maxHeartbeats 4000000 in
set_option maxRecDepth 100000 in
theorem lw_k1 {QB : tf_B} {kc ks K KS : Nat} (hk1 : kc + 20 ≤ K) (hk2 : ks + 1000 ≤ KS) {m ou b N i : Nat} {xs : Nat → Int32} {ad adm : Nat → Nat} {c : Nat} {g : Nat → Int64} (hl : l.stackTraces = false) (hd : 12 ≤ d) (hc : tc_mm c) (hS : tc_at q ad (tc_S0 c) (lw_B adm m ou) L f) (hM : tm_ok q adm m (tm_Jz c) (fun _ _ => 0) (fun _ => 0) L f) (hou : ou ∈ L) (fou : f ou = tj q 1 g) (hno : ¬ tm_own adm m ou) (hK : ∀ L2 f2, tf_W l (tf_H D q) (tl_EX b N xs) QB d i_Law_law 1293 [(0, .ref b), (1, .ref (ad 0)), (2, .ref m), (3, .ref ou), (4, .int (nI i))] [] L2 f2 kc ks) (hv0 : vp_in (nI i) N) (hv1 : vp_in (nI i + kI 1) N) (hv2 : vp_in (nI i + kI 2) N) (hv3 : vp_in (nI i + kI 3) N) (hv4 : vp_in (nI i + kI 4) N) (hv5 : vp_in (nI i + kI 5) N) (hv6 : vp_in (nI i + kI 6) N) (hv7 : vp_in (nI i + kI 7) N) (hv8 : vp_in (nI i + kI 8) N) : tf_W l (tf_H D q) (tl_EX b N xs) QB d i_Law_law 184 [(0, .ref b), (1, .ref (ad 0)), (2, .ref m), (3, .ref ou), (4, .int (nI i))] [] L f K KS := by
  obtain ⟨hx, fx⟩ := tc_c0 hS
  have hT : tm_at q adm m f L (tm_Jz c) (fun _ _ => 0) (fun _ => 0) f := ⟨hM, fun _ _ => rfl⟩
  have h4 : c ≤ 4 := by rcases hc with h | h | h <;> omega
  by_cases c4 : xs (nI i + kI 4).toNatClampNeg = 0
  · refine tf_blk _ b_Law_law_184 rfl ?_
    refine tl_sld (fun _ _ h => h.2.1) 191 d_Law_law_190 rfl (hv1) ?_
    refine tf_blk _ b_Law_law_191 rfl ?_
    refine tl_sld (fun _ _ h => h.2.1) 197 d_Law_law_196 rfl (hv2) ?_
    refine tf_blk _ b_Law_law_197 rfl ?_
    refine tl_sld (fun _ _ h => h.2.1) 203 d_Law_law_202 rfl (hv3) ?_
    refine tf_blk _ b_Law_law_203 rfl ?_
    refine tl_sld (fun _ _ h => h.2.1) 209 d_Law_law_208 rfl (hv4) ?_
    refine tf_if_eq 216 212 d_Law_law_209 rfl rfl (fun h209 => ?_) (fun h209 => absurd (c4) h209)
    refine tf_blk _ b_Law_law_216 rfl ?_
    refine tf_blk _ b_Law_law_217 rfl ?_
    refine tf_less (kc2 := kc + (0 + 1)) (ks2 := ks + (0 + 6)) (by omega) (by omega) ?_
    refine tl_cS (tf_gok _ _) tg_EL (fun _ _ h => h.1) (hl_point_x1 l D q (d - 1) _ _ (by omega) _ _ _ _ hx fx (c_Tf_point_n l D q (d - 1 - 1) _ _ hl (by omega) hS (Nat.zero_le _) tc_n0 _ _ _) (fun _ _ _ z => z) (fun _ _ _ z => z.1)) 221 d_Law_law_218 rfl lk_Law_65 tlw_point (by rfl) sal_point (by omega) (by exact Nat.le_of_ble_eq_true rfl) rfl ?_
    rintro v218 L218 f218 ⟨rfl, -, rfl, rfl⟩
    refine tf_blk _ b_Law_law_221 rfl ?_
    refine tl_sld (fun _ _ h => h.2.1) 230 d_Law_law_229 rfl (hv1) ?_
    refine tf_blk _ b_Law_law_230 rfl ?_
    refine tl_sld (fun _ _ h => h.2.1) 236 d_Law_law_235 rfl (hv2) ?_
    refine tf_blk _ b_Law_law_236 rfl ?_
    refine tl_sld (fun _ _ h => h.2.1) 242 d_Law_law_241 rfl (hv3) ?_
    refine tf_blk _ b_Law_law_242 rfl ?_
    refine tl_sld (fun _ _ h => h.2.1) 248 d_Law_law_247 rfl (hv4) ?_
    refine tf_if_eq 255 251 d_Law_law_248 rfl rfl (fun h248 => ?_) (fun h248 => absurd (c4) h248)
    refine tf_blk _ b_Law_law_255 rfl ?_
    refine tf_cV (tf_gok _ _) (c_Mod_point_n l D q (d - 1) _ _ (by omega) hT _ _ _ _ (tm_isG0 (J := tm_Jz c) rfl _)) 259 d_Law_law_256 rfl lk_Law_68 cw_Mod_point (by rfl) in_Mod_point se_Mod_point (by exact hT.1.1) (by exact hT.1.2.1) (by rfl) (by rfl) (by omega) (by exact Nat.le_of_ble_eq_true rfl) rfl ?_
    rintro v256 L256 f256 ⟨rfl, rfl, hT⟩
    refine tf_blk _ b_Law_law_259 rfl ?_
    refine tf_cV (tf_gok _ _) (c_Mod_thrown l D q (d - 1) _ _ hT) 265 d_Law_law_262 rfl lk_Law_62 cw_Mod_thrown (by rfl) in_Mod_thrown se_Mod_thrown (by exact hT.1.1) (by exact hT.1.2.1) (by rfl) (by rfl) (by omega) (by exact Nat.le_of_ble_eq_true rfl) rfl ?_
    rintro v262 L262 f262 ⟨rfl, rfl, rfl⟩
    refine tf_blk _ b_Law_law_265 rfl ?_
    refine tf_ic_eq 272 270 d_Law_law_267 rfl rfl (fun h267 => ?_) (fun h267 => absurd (rfl) h267)
    refine tf_blk _ b_Law_law_272 rfl ?_
    refine tf_if_ne 289 277 d_Law_law_274 rfl rfl (fun h274 => ?_) (fun h274 => absurd h274 (show ¬ kI 1 = 0 by decide))
    refine tf_goto 1293 d_Law_law_289 rfl ?_
    refine tf_less (kc2 := kc) (ks2 := ks) (by omega) (by omega) ?_
    refine tf_drop [0, 1, 2, 3, 4] rfl ?_
    exact hK _ _
  refine tf_blk _ b_Law_law_184 rfl ?_
  refine tl_sld (fun _ _ h => h.2.1) 191 d_Law_law_190 rfl (hv1) ?_
  refine tf_blk _ b_Law_law_191 rfl ?_
  refine tl_sld (fun _ _ h => h.2.1) 197 d_Law_law_196 rfl (hv2) ?_
  refine tf_blk _ b_Law_law_197 rfl ?_
  refine tl_sld (fun _ _ h => h.2.1) 203 d_Law_law_202 rfl (hv3) ?_
  refine tf_blk _ b_Law_law_203 rfl ?_
  refine tl_sld (fun _ _ h => h.2.1) 209 d_Law_law_208 rfl (hv4) ?_
  refine tf_if_eq 216 212 d_Law_law_209 rfl rfl (fun h209 => absurd h209 (c4)) (fun h209 => ?_)
  refine tf_blk _ b_Law_law_212 rfl ?_
  refine tf_goto 217 d_Law_law_213 rfl ?_
  refine tf_blk _ b_Law_law_217 rfl ?_
  refine tf_less (kc2 := kc + (0 + 1)) (ks2 := ks + (0 + 6)) (by omega) (by omega) ?_
  refine tl_cS (tf_gok _ _) tg_EL (fun _ _ h => h.1) (hl_point_x1 l D q (d - 1) _ _ (by omega) _ _ _ _ hx fx (c_Tf_point_n l D q (d - 1 - 1) _ _ hl (by omega) hS (Nat.zero_le _) tc_n0 _ _ _) (fun _ _ _ z => z) (fun _ _ _ z => z.1)) 221 d_Law_law_218 rfl lk_Law_65 tlw_point (by rfl) sal_point (by omega) (by exact Nat.le_of_ble_eq_true rfl) rfl ?_
  rintro v218 L218 f218 ⟨rfl, -, rfl, rfl⟩
  refine tf_blk _ b_Law_law_221 rfl ?_
  refine tl_sld (fun _ _ h => h.2.1) 230 d_Law_law_229 rfl (hv1) ?_
  refine tf_blk _ b_Law_law_230 rfl ?_
  refine tl_sld (fun _ _ h => h.2.1) 236 d_Law_law_235 rfl (hv2) ?_
  refine tf_blk _ b_Law_law_236 rfl ?_
  refine tl_sld (fun _ _ h => h.2.1) 242 d_Law_law_241 rfl (hv3) ?_
  refine tf_blk _ b_Law_law_242 rfl ?_
  refine tl_sld (fun _ _ h => h.2.1) 248 d_Law_law_247 rfl (hv4) ?_
  refine tf_if_eq 255 251 d_Law_law_248 rfl rfl (fun h248 => absurd h248 (c4)) (fun h248 => ?_)
  refine tf_blk _ b_Law_law_251 rfl ?_
  refine tf_goto 256 d_Law_law_252 rfl ?_
  refine tf_cV (tf_gok _ _) (c_Mod_point_n l D q (d - 1) _ _ (by omega) hT _ _ _ _ (tm_isG0 (J := tm_Jz c) rfl _)) 259 d_Law_law_256 rfl lk_Law_68 cw_Mod_point (by rfl) in_Mod_point se_Mod_point (by exact hT.1.1) (by exact hT.1.2.1) (by rfl) (by rfl) (by omega) (by exact Nat.le_of_ble_eq_true rfl) rfl ?_
  rintro v256 L256 f256 ⟨rfl, rfl, hT⟩
  refine tf_blk _ b_Law_law_259 rfl ?_
  refine tf_cV (tf_gok _ _) (c_Mod_thrown l D q (d - 1) _ _ hT) 265 d_Law_law_262 rfl lk_Law_62 cw_Mod_thrown (by rfl) in_Mod_thrown se_Mod_thrown (by exact hT.1.1) (by exact hT.1.2.1) (by rfl) (by rfl) (by omega) (by exact Nat.le_of_ble_eq_true rfl) rfl ?_
  rintro v262 L262 f262 ⟨rfl, rfl, rfl⟩
  refine tf_blk _ b_Law_law_265 rfl ?_
  refine tf_ic_eq 272 270 d_Law_law_267 rfl rfl (fun h267 => ?_) (fun h267 => absurd (rfl) h267)
  refine tf_blk _ b_Law_law_272 rfl ?_
  refine tf_if_ne 289 277 d_Law_law_274 rfl rfl (fun h274 => ?_) (fun h274 => absurd h274 (show ¬ kI 1 = 0 by decide))
  refine tf_goto 1293 d_Law_law_289 rfl ?_
  refine tf_less (kc2 := kc) (ks2 := ks) (by omega) (by omega) ?_
  refine tf_drop [0, 1, 2, 3, 4] rfl ?_
  exact hK _ _
set_option maxHeartbeats 4000000 in
set_option maxRecDepth 100000 in
theorem lw_k3 {QB : tf_B} {kc ks K KS : Nat} (hk1 : kc + 20 ≤ K) (hk2 : ks + 1000 ≤ KS) {m ou b N i : Nat} {xs : Nat → Int32} {ad adm : Nat → Nat} {c : Nat} {g : Nat → Int64} (hl : l.stackTraces = false) (hd : 12 ≤ d) (hc : tc_mm c) (hS : tc_at q ad (tc_S0 c) (lw_B adm m ou) L f) (hM : tm_ok q adm m (tm_Jz c) (fun _ _ => 0) (fun _ => 0) L f) (hou : ou ∈ L) (fou : f ou = tj q 1 g) (hno : ¬ tm_own adm m ou) (hK : ∀ L2 f2, tf_W l (tf_H D q) (tl_EX b N xs) QB d i_Law_law 1293 [(0, .ref b), (1, .ref (ad 0)), (2, .ref m), (3, .ref ou), (4, .int (nI i))] [] L2 f2 kc ks) (hv0 : vp_in (nI i) N) (hv1 : vp_in (nI i + kI 1) N) (hv2 : vp_in (nI i + kI 2) N) (hv3 : vp_in (nI i + kI 3) N) (hv4 : vp_in (nI i + kI 4) N) (hv5 : vp_in (nI i + kI 5) N) (hv6 : vp_in (nI i + kI 6) N) (hv7 : vp_in (nI i + kI 7) N) (hv8 : vp_in (nI i + kI 8) N) : tf_W l (tf_H D q) (tl_EX b N xs) QB d i_Law_law 317 [(0, .ref b), (1, .ref (ad 0)), (2, .ref m), (3, .ref ou), (4, .int (nI i))] [] L f K KS := by
  obtain ⟨hx, fx⟩ := tc_c0 hS
  have hT : tm_at q adm m f L (tm_Jz c) (fun _ _ => 0) (fun _ => 0) f := ⟨hM, fun _ _ => rfl⟩
  have h4 : c ≤ 4 := by rcases hc with h | h | h <;> omega
  refine tf_blk _ b_Law_law_317 rfl ?_
  refine tl_sld (fun _ _ h => h.2.1) 324 d_Law_law_323 rfl (hv1) ?_
  refine tf_blk _ b_Law_law_324 rfl ?_
  refine tl_sld (fun _ _ h => h.2.1) 330 d_Law_law_329 rfl (hv2) ?_
  refine tf_blk _ b_Law_law_330 rfl ?_
  refine tl_sld (fun _ _ h => h.2.1) 336 d_Law_law_335 rfl (hv3) ?_
  refine tf_blk _ b_Law_law_336 rfl ?_
  refine tl_sld (fun _ _ h => h.2.1) 342 d_Law_law_341 rfl (hv4) ?_
  refine tf_blk _ b_Law_law_342 rfl ?_
  refine tl_sld (fun _ _ h => h.2.1) 348 d_Law_law_347 rfl (hv5) ?_
  refine tf_less (kc2 := kc + (0 + 1)) (ks2 := ks + (0 + 6)) (by omega) (by omega) ?_
  refine tl_cS (tf_gok _ _) tg_EL (fun _ _ h => h.1) (hl_place_x1 l D q (d - 1) _ _ (by omega) (ou := 0) _ _ _ _ _ hx fx (c_Tf_place_n l D q (d - 1 - 1) _ _ hl (by omega) hS (Nat.zero_le _) tc_n0 _ _ _ _) (fun _ _ _ z => z) (fun _ _ _ z => z.1)) 351 d_Law_law_348 rfl lk_Law_74 tlw_place (by rfl) sal_place (by omega) (by exact Nat.le_of_ble_eq_true rfl) rfl ?_
  rintro v348 L348 f348 ⟨rfl, -, rfl, rfl⟩
  refine tf_blk _ b_Law_law_351 rfl ?_
  refine tl_sld (fun _ _ h => h.2.1) 360 d_Law_law_359 rfl (hv1) ?_
  refine tf_blk _ b_Law_law_360 rfl ?_
  refine tl_sld (fun _ _ h => h.2.1) 366 d_Law_law_365 rfl (hv2) ?_
  refine tf_blk _ b_Law_law_366 rfl ?_
  refine tl_sld (fun _ _ h => h.2.1) 372 d_Law_law_371 rfl (hv3) ?_
  refine tf_blk _ b_Law_law_372 rfl ?_
  refine tl_sld (fun _ _ h => h.2.1) 378 d_Law_law_377 rfl (hv4) ?_
  refine tf_blk _ b_Law_law_378 rfl ?_
  refine tl_sld (fun _ _ h => h.2.1) 384 d_Law_law_383 rfl (hv5) ?_
  refine tf_cV (tf_gok _ _) (c_Mod_place_n l D q (d - 1) _ _ (by omega) hT _ _ _ _ _ (tm_isG0 (J := tm_Jz c) rfl _)) 387 d_Law_law_384 rfl lk_Law_77 cw_Mod_place (by rfl) in_Mod_place se_Mod_place (by exact hT.1.1) (by exact hT.1.2.1) (by rfl) (by rfl) (by omega) (by exact Nat.le_of_ble_eq_true rfl) rfl ?_
  rintro v384 L384 f384 ⟨rfl, rfl, hT⟩
  refine tf_blk _ b_Law_law_387 rfl ?_
  refine tf_cV (tf_gok _ _) (c_Mod_thrown l D q (d - 1) _ _ hT) 391 d_Law_law_388 rfl lk_Law_62 cw_Mod_thrown (by rfl) in_Mod_thrown se_Mod_thrown (by exact hT.1.1) (by exact hT.1.2.1) (by rfl) (by rfl) (by omega) (by exact Nat.le_of_ble_eq_true rfl) rfl ?_
  rintro v388 L388 f388 ⟨rfl, rfl, rfl⟩
  refine tf_blk _ b_Law_law_391 rfl ?_
  refine tf_ic_eq 398 396 d_Law_law_393 rfl rfl (fun h393 => ?_) (fun h393 => absurd (rfl) h393)
  refine tf_goto 1293 d_Law_law_398 rfl ?_
  refine tf_less (kc2 := kc) (ks2 := ks) (by omega) (by omega) ?_
  refine tf_drop [0, 1, 2, 3, 4] rfl ?_
  exact hK _ _
set_option maxHeartbeats 4000000 in
set_option maxRecDepth 100000 in
theorem lw_k4 {QB : tf_B} {kc ks K KS : Nat} (hk1 : kc + 20 ≤ K) (hk2 : ks + 1000 ≤ KS) {m ou b N i : Nat} {xs : Nat → Int32} {ad adm : Nat → Nat} {c : Nat} {g : Nat → Int64} (hl : l.stackTraces = false) (hd : 12 ≤ d) (hc : tc_mm c) (hS : tc_at q ad (tc_S0 c) (lw_B adm m ou) L f) (hM : tm_ok q adm m (tm_Jz c) (fun _ _ => 0) (fun _ => 0) L f) (hou : ou ∈ L) (fou : f ou = tj q 1 g) (hno : ¬ tm_own adm m ou) (hK : ∀ L2 f2, tf_W l (tf_H D q) (tl_EX b N xs) QB d i_Law_law 1293 [(0, .ref b), (1, .ref (ad 0)), (2, .ref m), (3, .ref ou), (4, .int (nI i))] [] L2 f2 kc ks) (hv0 : vp_in (nI i) N) (hv1 : vp_in (nI i + kI 1) N) (hv2 : vp_in (nI i + kI 2) N) (hv3 : vp_in (nI i + kI 3) N) (hv4 : vp_in (nI i + kI 4) N) (hv5 : vp_in (nI i + kI 5) N) (hv6 : vp_in (nI i + kI 6) N) (hv7 : vp_in (nI i + kI 7) N) (hv8 : vp_in (nI i + kI 8) N) : tf_W l (tf_H D q) (tl_EX b N xs) QB d i_Law_law 401 [(0, .ref b), (1, .ref (ad 0)), (2, .ref m), (3, .ref ou), (4, .int (nI i))] [] L f K KS := by
  obtain ⟨hx, fx⟩ := tc_c0 hS
  have hT : tm_at q adm m f L (tm_Jz c) (fun _ _ => 0) (fun _ => 0) f := ⟨hM, fun _ _ => rfl⟩
  have h4 : c ≤ 4 := by rcases hc with h | h | h <;> omega
  refine tf_blk _ b_Law_law_401 rfl ?_
  refine tl_sld (fun _ _ h => h.2.1) 408 d_Law_law_407 rfl (hv1) ?_
  refine tf_blk _ b_Law_law_408 rfl ?_
  refine tl_sld (fun _ _ h => h.2.1) 414 d_Law_law_413 rfl (hv2) ?_
  refine tf_blk _ b_Law_law_414 rfl ?_
  refine tl_sld (fun _ _ h => h.2.1) 420 d_Law_law_419 rfl (hv3) ?_
  refine tf_blk _ b_Law_law_420 rfl ?_
  refine tl_sld (fun _ _ h => h.2.1) 426 d_Law_law_425 rfl (hv4) ?_
  refine tf_blk _ b_Law_law_426 rfl ?_
  refine tl_sld (fun _ _ h => h.2.1) 432 d_Law_law_431 rfl (hv5) ?_
  refine tf_less (kc2 := kc + (0 + 1)) (ks2 := ks + (0 + 6)) (by omega) (by omega) ?_
  refine tl_cS (tf_gok _ _) tg_EL (fun _ _ h => h.1) (hl_component_x1 l D q (d - 1) _ _ (by omega) (ou := 0) _ _ _ _ _ hx fx (c_Tf_component_1 l D q (d - 1 - 1) _ _ hl (by omega) hS (Nat.zero_le _) tc_n0 _ _ _ _) (fun _ _ _ z => z) (fun _ _ _ z => z.1)) 435 d_Law_law_432 rfl lk_Law_78 tlw_component (by rfl) sal_component (by omega) (by exact Nat.le_of_ble_eq_true rfl) rfl ?_
  rintro v432 L432 f432 ⟨rfl, -, rfl, rfl⟩
  refine tf_blk _ b_Law_law_435 rfl ?_
  refine tl_sld (fun _ _ h => h.2.1) 444 d_Law_law_443 rfl (hv1) ?_
  refine tf_blk _ b_Law_law_444 rfl ?_
  refine tl_sld (fun _ _ h => h.2.1) 450 d_Law_law_449 rfl (hv2) ?_
  refine tf_blk _ b_Law_law_450 rfl ?_
  refine tl_sld (fun _ _ h => h.2.1) 456 d_Law_law_455 rfl (hv3) ?_
  refine tf_blk _ b_Law_law_456 rfl ?_
  refine tl_sld (fun _ _ h => h.2.1) 462 d_Law_law_461 rfl (hv4) ?_
  refine tf_blk _ b_Law_law_462 rfl ?_
  refine tl_sld (fun _ _ h => h.2.1) 468 d_Law_law_467 rfl (hv5) ?_
  refine tf_cV (tf_gok _ _) (c_Mod_component_n l D q (d - 1) _ _ (by omega) hT _ _ _ _ _ (tm_isG0 (J := tm_Jz c) rfl _)) 471 d_Law_law_468 rfl lk_Law_80 cw_Mod_component (by rfl) in_Mod_component se_Mod_component (by exact hT.1.1) (by exact hT.1.2.1) (by rfl) (by rfl) (by omega) (by exact Nat.le_of_ble_eq_true rfl) rfl ?_
  rintro v468 L468 f468 ⟨rfl, rfl, hT⟩
  refine tf_blk _ b_Law_law_471 rfl ?_
  refine tf_cV (tf_gok _ _) (c_Mod_thrown l D q (d - 1) _ _ hT) 475 d_Law_law_472 rfl lk_Law_62 cw_Mod_thrown (by rfl) in_Mod_thrown se_Mod_thrown (by exact hT.1.1) (by exact hT.1.2.1) (by rfl) (by rfl) (by omega) (by exact Nat.le_of_ble_eq_true rfl) rfl ?_
  rintro v472 L472 f472 ⟨rfl, rfl, rfl⟩
  refine tf_blk _ b_Law_law_475 rfl ?_
  refine tf_ic_eq 482 480 d_Law_law_477 rfl rfl (fun h477 => ?_) (fun h477 => absurd (rfl) h477)
  refine tf_goto 1293 d_Law_law_482 rfl ?_
  refine tf_less (kc2 := kc) (ks2 := ks) (by omega) (by omega) ?_
  refine tf_drop [0, 1, 2, 3, 4] rfl ?_
  exact hK _ _
set_option maxHeartbeats 4000000 in
set_option maxRecDepth 100000 in
theorem lw_k7 {QB : tf_B} {kc ks K KS : Nat} (hk1 : kc + 20 ≤ K) (hk2 : ks + 1000 ≤ KS) {m ou b N i : Nat} {xs : Nat → Int32} {ad adm : Nat → Nat} {c : Nat} {g : Nat → Int64} (hl : l.stackTraces = false) (hd : 12 ≤ d) (hc : tc_mm c) (hS : tc_at q ad (tc_S0 c) (lw_B adm m ou) L f) (hM : tm_ok q adm m (tm_Jz c) (fun _ _ => 0) (fun _ => 0) L f) (hou : ou ∈ L) (fou : f ou = tj q 1 g) (hno : ¬ tm_own adm m ou) (hK : ∀ L2 f2, tf_W l (tf_H D q) (tl_EX b N xs) QB d i_Law_law 1293 [(0, .ref b), (1, .ref (ad 0)), (2, .ref m), (3, .ref ou), (4, .int (nI i))] [] L2 f2 kc ks) (hv0 : vp_in (nI i) N) (hv1 : vp_in (nI i + kI 1) N) (hv2 : vp_in (nI i + kI 2) N) (hv3 : vp_in (nI i + kI 3) N) (hv4 : vp_in (nI i + kI 4) N) (hv5 : vp_in (nI i + kI 5) N) (hv6 : vp_in (nI i + kI 6) N) (hv7 : vp_in (nI i + kI 7) N) (hv8 : vp_in (nI i + kI 8) N) : tf_W l (tf_H D q) (tl_EX b N xs) QB d i_Law_law 571 [(0, .ref b), (1, .ref (ad 0)), (2, .ref m), (3, .ref ou), (4, .int (nI i))] [] L f K KS := by
  obtain ⟨hx, fx⟩ := tc_c0 hS
  have hT : tm_at q adm m f L (tm_Jz c) (fun _ _ => 0) (fun _ => 0) f := ⟨hM, fun _ _ => rfl⟩
  have h4 : c ≤ 4 := by rcases hc with h | h | h <;> omega
  refine tf_blk _ b_Law_law_571 rfl ?_
  refine tl_sld (fun _ _ h => h.2.1) 578 d_Law_law_577 rfl (hv1) ?_
  refine tf_blk _ b_Law_law_578 rfl ?_
  refine tl_sld (fun _ _ h => h.2.1) 584 d_Law_law_583 rfl (hv2) ?_
  refine tf_blk _ b_Law_law_584 rfl ?_
  refine tl_sld (fun _ _ h => h.2.1) 590 d_Law_law_589 rfl (hv3) ?_
  refine tf_blk _ b_Law_law_590 rfl ?_
  refine tf_less (kc2 := kc + (0 + 1)) (ks2 := ks + (0 + 6)) (by omega) (by omega) ?_
  refine tl_cS (tf_gok _ _) tg_EL (fun _ _ h => h.1) (hl_outline_x1 l D q (d - 1) _ _ (by omega) _ _ _ hx fx (c_Tf_outline_n l D q (d - 1 - 1) _ _ hl (by omega) hS (Nat.zero_le _) tc_n0 _ _) (fun _ _ _ z => z) (fun _ _ _ z => z.1)) 594 d_Law_law_591 rfl lk_Law_91 tlw_outline (by rfl) sal_outline (by omega) (by exact Nat.le_of_ble_eq_true rfl) rfl ?_
  rintro v591 L591 f591 ⟨rfl, -, rfl, rfl⟩
  refine tf_blk _ b_Law_law_594 rfl ?_
  refine tl_sld (fun _ _ h => h.2.1) 603 d_Law_law_602 rfl (hv1) ?_
  refine tf_blk _ b_Law_law_603 rfl ?_
  refine tl_sld (fun _ _ h => h.2.1) 609 d_Law_law_608 rfl (hv2) ?_
  refine tf_blk _ b_Law_law_609 rfl ?_
  refine tl_sld (fun _ _ h => h.2.1) 615 d_Law_law_614 rfl (hv3) ?_
  refine tf_cV (tf_gok _ _) (c_Mod_outline_n l D q (d - 1) _ _ (by omega) hT _ _ _ (tm_isG0 (J := tm_Jz c) rfl _)) 618 d_Law_law_615 rfl lk_Law_94 cw_Mod_outline (by rfl) in_Mod_outline se_Mod_outline (by exact hT.1.1) (by exact hT.1.2.1) (by rfl) (by rfl) (by omega) (by exact Nat.le_of_ble_eq_true rfl) rfl ?_
  rintro v615 L615 f615 ⟨rfl, rfl, hT⟩
  refine tf_blk _ b_Law_law_618 rfl ?_
  refine tf_cV (tf_gok _ _) (c_Mod_thrown l D q (d - 1) _ _ hT) 624 d_Law_law_621 rfl lk_Law_62 cw_Mod_thrown (by rfl) in_Mod_thrown se_Mod_thrown (by exact hT.1.1) (by exact hT.1.2.1) (by rfl) (by rfl) (by omega) (by exact Nat.le_of_ble_eq_true rfl) rfl ?_
  rintro v621 L621 f621 ⟨rfl, rfl, rfl⟩
  refine tf_blk _ b_Law_law_624 rfl ?_
  refine tf_ic_eq 631 629 d_Law_law_626 rfl rfl (fun h626 => ?_) (fun h626 => absurd (rfl) h626)
  refine tf_blk _ b_Law_law_631 rfl ?_
  refine tf_if_ne 648 636 d_Law_law_633 rfl rfl (fun h633 => ?_) (fun h633 => absurd h633 (show ¬ kI 1 = 0 by decide))
  refine tf_goto 1293 d_Law_law_648 rfl ?_
  refine tf_less (kc2 := kc) (ks2 := ks) (by omega) (by omega) ?_
  refine tf_drop [0, 1, 2, 3, 4] rfl ?_
  exact hK _ _
set_option maxHeartbeats 4000000 in
set_option maxRecDepth 100000 in
theorem lw_k9 {QB : tf_B} {kc ks K KS : Nat} (hk1 : kc + 20 ≤ K) (hk2 : ks + 1000 ≤ KS) {m ou b N i : Nat} {xs : Nat → Int32} {ad adm : Nat → Nat} {c : Nat} {g : Nat → Int64} (hl : l.stackTraces = false) (hd : 12 ≤ d) (hc : tc_mm c) (hS : tc_at q ad (tc_S0 c) (lw_B adm m ou) L f) (hM : tm_ok q adm m (tm_Jz c) (fun _ _ => 0) (fun _ => 0) L f) (hou : ou ∈ L) (fou : f ou = tj q 1 g) (hno : ¬ tm_own adm m ou) (hK : ∀ L2 f2, tf_W l (tf_H D q) (tl_EX b N xs) QB d i_Law_law 1293 [(0, .ref b), (1, .ref (ad 0)), (2, .ref m), (3, .ref ou), (4, .int (nI i))] [] L2 f2 kc ks) (hv0 : vp_in (nI i) N) (hv1 : vp_in (nI i + kI 1) N) (hv2 : vp_in (nI i + kI 2) N) (hv3 : vp_in (nI i + kI 3) N) (hv4 : vp_in (nI i + kI 4) N) (hv5 : vp_in (nI i + kI 5) N) (hv6 : vp_in (nI i + kI 6) N) (hv7 : vp_in (nI i + kI 7) N) (hv8 : vp_in (nI i + kI 8) N) : tf_W l (tf_H D q) (tl_EX b N xs) QB d i_Law_law 676 [(0, .ref b), (1, .ref (ad 0)), (2, .ref m), (3, .ref ou), (4, .int (nI i))] [] L f K KS := by
  obtain ⟨hx, fx⟩ := tc_c0 hS
  have hT : tm_at q adm m f L (tm_Jz c) (fun _ _ => 0) (fun _ => 0) f := ⟨hM, fun _ _ => rfl⟩
  have h4 : c ≤ 4 := by rcases hc with h | h | h <;> omega
  by_cases c4 : xs (nI i + kI 3).toNatClampNeg = 0
  · refine tf_blk _ b_Law_law_676 rfl ?_
    refine tl_sld (fun _ _ h => h.2.1) 683 d_Law_law_682 rfl (hv1) ?_
    refine tf_blk _ b_Law_law_683 rfl ?_
    refine tl_sld (fun _ _ h => h.2.1) 689 d_Law_law_688 rfl (hv2) ?_
    refine tf_blk _ b_Law_law_689 rfl ?_
    refine tl_sld (fun _ _ h => h.2.1) 695 d_Law_law_694 rfl (hv3) ?_
    refine tf_if_eq 702 698 d_Law_law_695 rfl rfl (fun h695 => ?_) (fun h695 => absurd (c4) h695)
    refine tf_blk _ b_Law_law_702 rfl ?_
    refine tf_blk _ b_Law_law_703 rfl ?_
    refine tf_less (kc2 := kc + (0 + 1)) (ks2 := ks + (0 + 6)) (by omega) (by omega) ?_
    refine tl_cS (tf_gok _ _) tg_EL (fun _ _ h => h.1) (hl_draw_x1 l D q (d - 1) _ _ (by omega) _ _ _ hx fx (c_Tf_draw_n l D q (d - 1 - 1) _ _ hl (by omega) hS (Nat.zero_le _) tc_n0 _ _) (fun _ _ _ z => z) (fun _ _ _ z => z.1)) 707 d_Law_law_704 rfl lk_Law_99 tlw_draw (by rfl) sal_draw (by omega) (by exact Nat.le_of_ble_eq_true rfl) rfl ?_
    rintro v704 L704 f704 ⟨rfl, -, rfl, rfl⟩
    refine tf_blk _ b_Law_law_707 rfl ?_
    refine tl_sld (fun _ _ h => h.2.1) 716 d_Law_law_715 rfl (hv1) ?_
    refine tf_blk _ b_Law_law_716 rfl ?_
    refine tl_sld (fun _ _ h => h.2.1) 722 d_Law_law_721 rfl (hv2) ?_
    refine tf_blk _ b_Law_law_722 rfl ?_
    refine tl_sld (fun _ _ h => h.2.1) 728 d_Law_law_727 rfl (hv3) ?_
    refine tf_if_eq 735 731 d_Law_law_728 rfl rfl (fun h728 => ?_) (fun h728 => absurd (c4) h728)
    refine tf_blk _ b_Law_law_735 rfl ?_
    refine tf_cV (tf_gok _ _) (c_Mod_draw_n l D q (d - 1) _ _ (by omega) hT _ _ _ (tm_isG0 (J := tm_Jz c) rfl _)) 739 d_Law_law_736 rfl lk_Law_102 cw_Mod_draw (by rfl) in_Mod_draw se_Mod_draw (by exact hT.1.1) (by exact hT.1.2.1) (by rfl) (by rfl) (by omega) (by exact Nat.le_of_ble_eq_true rfl) rfl ?_
    rintro v736 L736 f736 ⟨rfl, rfl, hT⟩
    refine tf_blk _ b_Law_law_739 rfl ?_
    refine tf_cV (tf_gok _ _) (c_Mod_thrown l D q (d - 1) _ _ hT) 745 d_Law_law_742 rfl lk_Law_62 cw_Mod_thrown (by rfl) in_Mod_thrown se_Mod_thrown (by exact hT.1.1) (by exact hT.1.2.1) (by rfl) (by rfl) (by omega) (by exact Nat.le_of_ble_eq_true rfl) rfl ?_
    rintro v742 L742 f742 ⟨rfl, rfl, rfl⟩
    refine tf_blk _ b_Law_law_745 rfl ?_
    refine tf_ic_eq 752 750 d_Law_law_747 rfl rfl (fun h747 => ?_) (fun h747 => absurd (rfl) h747)
    refine tf_blk _ b_Law_law_752 rfl ?_
    refine tf_if_ne 769 757 d_Law_law_754 rfl rfl (fun h754 => ?_) (fun h754 => absurd h754 (show ¬ kI 1 = 0 by decide))
    refine tf_goto 1293 d_Law_law_769 rfl ?_
    refine tf_less (kc2 := kc) (ks2 := ks) (by omega) (by omega) ?_
    refine tf_drop [0, 1, 2, 3, 4] rfl ?_
    exact hK _ _
  refine tf_blk _ b_Law_law_676 rfl ?_
  refine tl_sld (fun _ _ h => h.2.1) 683 d_Law_law_682 rfl (hv1) ?_
  refine tf_blk _ b_Law_law_683 rfl ?_
  refine tl_sld (fun _ _ h => h.2.1) 689 d_Law_law_688 rfl (hv2) ?_
  refine tf_blk _ b_Law_law_689 rfl ?_
  refine tl_sld (fun _ _ h => h.2.1) 695 d_Law_law_694 rfl (hv3) ?_
  refine tf_if_eq 702 698 d_Law_law_695 rfl rfl (fun h695 => absurd h695 (c4)) (fun h695 => ?_)
  refine tf_blk _ b_Law_law_698 rfl ?_
  refine tf_goto 703 d_Law_law_699 rfl ?_
  refine tf_blk _ b_Law_law_703 rfl ?_
  refine tf_less (kc2 := kc + (0 + 1)) (ks2 := ks + (0 + 6)) (by omega) (by omega) ?_
  refine tl_cS (tf_gok _ _) tg_EL (fun _ _ h => h.1) (hl_draw_x1 l D q (d - 1) _ _ (by omega) _ _ _ hx fx (c_Tf_draw_n l D q (d - 1 - 1) _ _ hl (by omega) hS (Nat.zero_le _) tc_n0 _ _) (fun _ _ _ z => z) (fun _ _ _ z => z.1)) 707 d_Law_law_704 rfl lk_Law_99 tlw_draw (by rfl) sal_draw (by omega) (by exact Nat.le_of_ble_eq_true rfl) rfl ?_
  rintro v704 L704 f704 ⟨rfl, -, rfl, rfl⟩
  refine tf_blk _ b_Law_law_707 rfl ?_
  refine tl_sld (fun _ _ h => h.2.1) 716 d_Law_law_715 rfl (hv1) ?_
  refine tf_blk _ b_Law_law_716 rfl ?_
  refine tl_sld (fun _ _ h => h.2.1) 722 d_Law_law_721 rfl (hv2) ?_
  refine tf_blk _ b_Law_law_722 rfl ?_
  refine tl_sld (fun _ _ h => h.2.1) 728 d_Law_law_727 rfl (hv3) ?_
  refine tf_if_eq 735 731 d_Law_law_728 rfl rfl (fun h728 => absurd h728 (c4)) (fun h728 => ?_)
  refine tf_blk _ b_Law_law_731 rfl ?_
  refine tf_goto 736 d_Law_law_732 rfl ?_
  refine tf_cV (tf_gok _ _) (c_Mod_draw_n l D q (d - 1) _ _ (by omega) hT _ _ _ (tm_isG0 (J := tm_Jz c) rfl _)) 739 d_Law_law_736 rfl lk_Law_102 cw_Mod_draw (by rfl) in_Mod_draw se_Mod_draw (by exact hT.1.1) (by exact hT.1.2.1) (by rfl) (by rfl) (by omega) (by exact Nat.le_of_ble_eq_true rfl) rfl ?_
  rintro v736 L736 f736 ⟨rfl, rfl, hT⟩
  refine tf_blk _ b_Law_law_739 rfl ?_
  refine tf_cV (tf_gok _ _) (c_Mod_thrown l D q (d - 1) _ _ hT) 745 d_Law_law_742 rfl lk_Law_62 cw_Mod_thrown (by rfl) in_Mod_thrown se_Mod_thrown (by exact hT.1.1) (by exact hT.1.2.1) (by rfl) (by rfl) (by omega) (by exact Nat.le_of_ble_eq_true rfl) rfl ?_
  rintro v742 L742 f742 ⟨rfl, rfl, rfl⟩
  refine tf_blk _ b_Law_law_745 rfl ?_
  refine tf_ic_eq 752 750 d_Law_law_747 rfl rfl (fun h747 => ?_) (fun h747 => absurd (rfl) h747)
  refine tf_blk _ b_Law_law_752 rfl ?_
  refine tf_if_ne 769 757 d_Law_law_754 rfl rfl (fun h754 => ?_) (fun h754 => absurd h754 (show ¬ kI 1 = 0 by decide))
  refine tf_goto 1293 d_Law_law_769 rfl ?_
  refine tf_less (kc2 := kc) (ks2 := ks) (by omega) (by omega) ?_
  refine tf_drop [0, 1, 2, 3, 4] rfl ?_
  exact hK _ _
set_option maxHeartbeats 4000000 in
set_option maxRecDepth 100000 in
theorem lw_k0 {QB : tf_B} {kc ks K KS : Nat} (hk1 : kc + 20 ≤ K) (hk2 : ks + 1000 ≤ KS) {m ou b N i : Nat} {xs : Nat → Int32} {ad adm : Nat → Nat} {c : Nat} {g : Nat → Int64} (hl : l.stackTraces = false) (hd : 12 ≤ d) (hc : tc_mm c) (hS : tc_at q ad (tc_S0 c) (lw_B adm m ou) L f) (hM : tm_ok q adm m (tm_Jz c) (fun _ _ => 0) (fun _ => 0) L f) (hou : ou ∈ L) (fou : f ou = tj q 1 g) (hno : ¬ tm_own adm m ou) (hK : ∀ L2 f2, tf_W l (tf_H D q) (tl_EX b N xs) QB d i_Law_law 1293 [(0, .ref b), (1, .ref (ad 0)), (2, .ref m), (3, .ref ou), (4, .int (nI i))] [] L2 f2 kc ks) (hv0 : vp_in (nI i) N) (hv1 : vp_in (nI i + kI 1) N) (hv2 : vp_in (nI i + kI 2) N) (hv3 : vp_in (nI i + kI 3) N) (hv4 : vp_in (nI i + kI 4) N) (hv5 : vp_in (nI i + kI 5) N) (hv6 : vp_in (nI i + kI 6) N) (hv7 : vp_in (nI i + kI 7) N) (hv8 : vp_in (nI i + kI 8) N) : tf_W l (tf_H D q) (tl_EX b N xs) QB d i_Law_law 140 [(0, .ref b), (1, .ref (ad 0)), (2, .ref m), (3, .ref ou), (4, .int (nI i))] [] L f K KS := by
  obtain ⟨hx, fx⟩ := tc_c0 hS
  have hT : tm_at q adm m f L (tm_Jz c) (fun _ _ => 0) (fun _ => 0) f := ⟨hM, fun _ _ => rfl⟩
  have h4 : c ≤ 4 := by rcases hc with h | h | h <;> omega
  refine tf_blk _ b_Law_law_140 rfl ?_
  refine tf_less (kc2 := kc + (0 + 7)) (ks2 := ks + (0 + ((0 + tw_gs c) + 15))) (by omega) (by unfold tw_gs; omega) ?_
  refine tl_cS (tf_gok _ _) tg_EL (fun _ _ h => h.1) (hl_glyph_r l D q (d - 1) _ _ (by omega) hx fx (c_Tf_glyph l D q (d - 1 - 1) _ _ hl (by omega) hx (tc_c1 hS).1 (tc_c2 hS).1 (n := 0) (by omega) (c := c) h4 fx (tc_c1 hS).2 (tc_c2 hS).2) (fun _ _ _ z => absurd z.1 (by decide)) (fun v L2 f2 z => ⟨nI 0, z.2.1, (lw_gl hS z.2.2).1 ou hou, g, ((lw_gl hS z.2.2).2 ou (Or.inr rfl) hou).trans fou⟩)) 145 d_Law_law_142 rfl lk_Law_58 tlw_glyph (by rfl) sal_glyph (by omega) (by exact Nat.le_of_ble_eq_true rfl) rfl ?_
  rintro v142 L142 f142 ⟨rfl, a, f1, g1, ⟨-, ea, hΦ⟩, fo, rfl⟩
  cases ea
  have hou2 : ou ∈ L142 := (lw_gl hS hΦ).1 ou hou
  have hT : tm_at q adm m (va_up f1 ou (tj q 1 (va_upJ g1 (nI 0)))) L142 (tm_Jz c) (fun _ _ => 0) (fun _ => 0) (va_up f1 ou (tj q 1 (va_upJ g1 (nI 0)))) := tm_mv hM (lw_gl hS hΦ).1 (fun z hz ho => (va_up_ne _ _ (fun e => hno (by rw [← e]; exact ho))).trans ((lw_gl hS hΦ).2 z (Or.inl ho) hz))
  refine tf_blk _ b_Law_law_145 rfl ?_
  refine tf_cV (tf_gok _ _) (c_Mod_glyph l D q (d - 1) _ _ hT) 151 d_Law_law_148 rfl lk_Law_61 cw_Mod_glyph (by rfl) in_Mod_glyph se_Mod_glyph (by exact hT.1.1) (by exact hT.1.2.1) (by rfl) (by rfl) (by omega) (by exact Nat.le_of_ble_eq_true rfl) rfl ?_
  rintro v148 L148 f148 ⟨rfl, rfl, hT⟩
  refine tf_blk _ b_Law_law_151 rfl ?_
  refine tf_cV (tf_gok _ _) (c_Mod_thrown l D q (d - 1) _ _ hT) 157 d_Law_law_154 rfl lk_Law_62 cw_Mod_thrown (by rfl) in_Mod_thrown se_Mod_thrown (by exact hT.1.1) (by exact hT.1.2.1) (by rfl) (by rfl) (by omega) (by exact Nat.le_of_ble_eq_true rfl) rfl ?_
  rintro v154 L154 f154 ⟨rfl, rfl, rfl⟩
  refine tf_blk _ b_Law_law_157 rfl ?_
  refine tf_ic_eq 164 162 d_Law_law_159 rfl rfl (fun h159 => ?_) (fun h159 => absurd (rfl) h159)
  refine tf_blk _ b_Law_law_164 rfl ?_
  refine tf_if_ne 181 169 d_Law_law_166 rfl rfl (fun h166 => absurd h166 (not_not_intro rfl)) (fun h166 => ?_)
  refine tf_blk _ b_Law_law_169 rfl ?_
  refine tf_lald (n := ?n_171_141) (g := ?g_171_141) 172 2 d_Law_law_171 rfl rfl ?ha_171_141 ?hf_171_141 ?hi_171_141 ?kk_171_141
  case ha_171_141 => exact hou2
  case hf_171_141 => rw [hT.2 ou hno]; exact va_up_self _ _ _
  case hi_171_141 => exact (show vp_in (nI 0) 1 from vp_in_nI (by decide) (by decide))
  refine tf_blk _ b_Law_law_172 rfl ?_
  refine tf_if_eq 181 179 d_Law_law_176 rfl rfl (fun h176 => ?_) (fun h176 => absurd (lw_e0 c g1) h176)
  refine tf_goto 1293 d_Law_law_181 rfl ?_
  refine tf_less (kc2 := kc) (ks2 := ks) (by omega) (by omega) ?_
  refine tf_drop [0, 1, 2, 3, 4] rfl ?_
  exact hK _ _
set_option maxHeartbeats 4000000 in
set_option maxRecDepth 100000 in
theorem lw_k14 {QB : tf_B} {kc ks K KS : Nat} (hk1 : kc + 20 ≤ K) (hk2 : ks + 1000 ≤ KS) {m ou b N i : Nat} {xs : Nat → Int32} {ad adm : Nat → Nat} {c : Nat} {g : Nat → Int64} (hl : l.stackTraces = false) (hd : 12 ≤ d) (hc : tc_mm c) (hS : tc_at q ad (tc_S0 c) (lw_B adm m ou) L f) (hM : tm_ok q adm m (tm_Jz c) (fun _ _ => 0) (fun _ => 0) L f) (hou : ou ∈ L) (fou : f ou = tj q 1 g) (hno : ¬ tm_own adm m ou) (hK : ∀ L2 f2, tf_W l (tf_H D q) (tl_EX b N xs) QB d i_Law_law 1293 [(0, .ref b), (1, .ref (ad 0)), (2, .ref m), (3, .ref ou), (4, .int (nI i))] [] L2 f2 kc ks) (hv0 : vp_in (nI i) N) (hv1 : vp_in (nI i + kI 1) N) (hv2 : vp_in (nI i + kI 2) N) (hv3 : vp_in (nI i + kI 3) N) (hv4 : vp_in (nI i + kI 4) N) (hv5 : vp_in (nI i + kI 5) N) (hv6 : vp_in (nI i + kI 6) N) (hv7 : vp_in (nI i + kI 7) N) (hv8 : vp_in (nI i + kI 8) N) : tf_W l (tf_H D q) (tl_EX b N xs) QB d i_Law_law 956 [(0, .ref b), (1, .ref (ad 0)), (2, .ref m), (3, .ref ou), (4, .int (nI i))] [] L f K KS := by
  obtain ⟨hx, fx⟩ := tc_c0 hS
  have hT : tm_at q adm m f L (tm_Jz c) (fun _ _ => 0) (fun _ => 0) f := ⟨hM, fun _ _ => rfl⟩
  have h4 : c ≤ 4 := by rcases hc with h | h | h <;> omega
  by_cases c1 : tw_in (xs (nI i + kI 1).toNatClampNeg) (kI 0) (kI 7) = true
  · refine tf_blk _ b_Law_law_956 rfl ?_
    refine tl_sld (fun _ _ h => h.2.1) 963 d_Law_law_962 rfl (hv1) ?_
    refine tf_blk _ b_Law_law_963 rfl ?_
    refine tl_sld (fun _ _ h => h.2.1) 969 d_Law_law_968 rfl (hv2) ?_
    refine tf_blk _ b_Law_law_969 rfl ?_
    refine tl_sld (fun _ _ h => h.2.1) 979 d_Law_law_978 rfl (hv3) ?_
    refine tf_blk _ b_Law_law_979 rfl ?_
    refine tf_ldc2 983 d_Law_law_980 rfl w_1513 ?_
    refine tf_blk _ b_Law_law_983 rfl ?_
    refine tl_sld (fun _ _ h => h.2.1) 991 d_Law_law_990 rfl (hv4) ?_
    refine tf_blk _ b_Law_law_991 rfl ?_
    refine tl_sld (fun _ _ h => h.2.1) 1001 d_Law_law_1000 rfl (hv5) ?_
    refine tf_blk _ b_Law_law_1001 rfl ?_
    refine tf_ldc2 1005 d_Law_law_1002 rfl w_1513 ?_
    refine tf_blk _ b_Law_law_1005 rfl ?_
    refine tl_sld (fun _ _ h => h.2.1) 1014 d_Law_law_1013 rfl (hv6) ?_
    refine tf_blk _ b_Law_law_1014 rfl ?_
    refine tl_sld (fun _ _ h => h.2.1) 1025 d_Law_law_1024 rfl (hv7) ?_
    refine tf_blk _ b_Law_law_1025 rfl ?_
    refine tf_ldc2 1029 d_Law_law_1026 rfl w_1513 ?_
    refine tf_blk _ b_Law_law_1029 rfl ?_
    refine tl_sld (fun _ _ h => h.2.1) 1038 d_Law_law_1037 rfl (hv8) ?_
    refine tf_blk _ b_Law_law_1038 rfl ?_
    refine tf_less (kc2 := kc + (0 + 2)) (ks2 := ks + (0 + 14)) (by omega) (by omega) ?_
    refine tl_cS (tf_gok _ _) tg_EL (fun _ _ h => h.1) (hl_rule_x1 l D q (d - 1) _ _ (by omega) _ _ _ _ _ hx fx (c_Tf_rule_m l D q (d - 1 - 1) _ _ hl (by omega) hS _ _ _ _ _ c1 (lw_made0 _ _ _ _ _)) (fun _ _ _ z => z) (fun _ _ _ z => z.1)) 1042 d_Law_law_1039 rfl lk_Law_121 tlw_rule (by rfl) sal_rule (by omega) (by exact Nat.le_of_ble_eq_true rfl) rfl ?_
    rintro v1039 L1039 f1039 ⟨rfl, -, hL2, hf2⟩
    have hT : tm_at q adm m f1039 L1039 (tm_Jz c) (fun _ _ => 0) (fun _ => 0) f1039 := tm_mv hM hL2 (fun z hz _ => hf2 z hz)
    refine tf_blk _ b_Law_law_1042 rfl ?_
    refine tl_sld (fun _ _ h => h.2.1) 1051 d_Law_law_1050 rfl (hv1) ?_
    refine tf_blk _ b_Law_law_1051 rfl ?_
    refine tl_sld (fun _ _ h => h.2.1) 1057 d_Law_law_1056 rfl (hv2) ?_
    refine tf_blk _ b_Law_law_1057 rfl ?_
    refine tl_sld (fun _ _ h => h.2.1) 1067 d_Law_law_1066 rfl (hv3) ?_
    refine tf_blk _ b_Law_law_1067 rfl ?_
    refine tf_ldc2 1071 d_Law_law_1068 rfl w_1513 ?_
    refine tf_blk _ b_Law_law_1071 rfl ?_
    refine tl_sld (fun _ _ h => h.2.1) 1079 d_Law_law_1078 rfl (hv4) ?_
    refine tf_blk _ b_Law_law_1079 rfl ?_
    refine tl_sld (fun _ _ h => h.2.1) 1089 d_Law_law_1088 rfl (hv5) ?_
    refine tf_blk _ b_Law_law_1089 rfl ?_
    refine tf_ldc2 1093 d_Law_law_1090 rfl w_1513 ?_
    refine tf_blk _ b_Law_law_1093 rfl ?_
    refine tl_sld (fun _ _ h => h.2.1) 1102 d_Law_law_1101 rfl (hv6) ?_
    refine tf_blk _ b_Law_law_1102 rfl ?_
    refine tl_sld (fun _ _ h => h.2.1) 1113 d_Law_law_1112 rfl (hv7) ?_
    refine tf_blk _ b_Law_law_1113 rfl ?_
    refine tf_ldc2 1117 d_Law_law_1114 rfl w_1513 ?_
    refine tf_blk _ b_Law_law_1117 rfl ?_
    refine tl_sld (fun _ _ h => h.2.1) 1126 d_Law_law_1125 rfl (hv8) ?_
    refine tf_cV (tf_gok _ _) (c_Mod_rule_n l D q (d - 1) _ _ (by omega) hT _ _ _ _ _ (tm_isG0 (J := tm_Jz c) rfl _)) 1129 d_Law_law_1126 rfl lk_Law_124 cw_Mod_rule (by rfl) in_Mod_rule se_Mod_rule (by exact hT.1.1) (by exact hT.1.2.1) (by rfl) (by rfl) (by omega) (by exact Nat.le_of_ble_eq_true rfl) rfl ?_
    rintro v1126 L1126 f1126 ⟨rfl, rfl, hT⟩
    refine tf_blk _ b_Law_law_1129 rfl ?_
    refine tf_cV (tf_gok _ _) (c_Mod_thrown l D q (d - 1) _ _ hT) 1135 d_Law_law_1132 rfl lk_Law_62 cw_Mod_thrown (by rfl) in_Mod_thrown se_Mod_thrown (by exact hT.1.1) (by exact hT.1.2.1) (by rfl) (by rfl) (by omega) (by exact Nat.le_of_ble_eq_true rfl) rfl ?_
    rintro v1132 L1132 f1132 ⟨rfl, rfl, rfl⟩
    refine tf_blk _ b_Law_law_1135 rfl ?_
    refine tf_ic_eq 1142 1140 d_Law_law_1137 rfl rfl (fun h1137 => ?_) (fun h1137 => absurd (rfl) h1137)
    refine tf_blk _ b_Law_law_1142 rfl ?_
    refine tf_if_ne 1159 1147 d_Law_law_1144 rfl rfl (fun h1144 => ?_) (fun h1144 => absurd h1144 (show ¬ kI 1 = 0 by decide))
    refine tf_goto 1293 d_Law_law_1159 rfl ?_
    refine tf_less (kc2 := kc) (ks2 := ks) (by omega) (by omega) ?_
    refine tf_drop [0, 1, 2, 3, 4] rfl ?_
    exact hK _ _
  refine tf_blk _ b_Law_law_956 rfl ?_
  refine tl_sld (fun _ _ h => h.2.1) 963 d_Law_law_962 rfl (hv1) ?_
  refine tf_blk _ b_Law_law_963 rfl ?_
  refine tl_sld (fun _ _ h => h.2.1) 969 d_Law_law_968 rfl (hv2) ?_
  refine tf_blk _ b_Law_law_969 rfl ?_
  refine tl_sld (fun _ _ h => h.2.1) 979 d_Law_law_978 rfl (hv3) ?_
  refine tf_blk _ b_Law_law_979 rfl ?_
  refine tf_ldc2 983 d_Law_law_980 rfl w_1513 ?_
  refine tf_blk _ b_Law_law_983 rfl ?_
  refine tl_sld (fun _ _ h => h.2.1) 991 d_Law_law_990 rfl (hv4) ?_
  refine tf_blk _ b_Law_law_991 rfl ?_
  refine tl_sld (fun _ _ h => h.2.1) 1001 d_Law_law_1000 rfl (hv5) ?_
  refine tf_blk _ b_Law_law_1001 rfl ?_
  refine tf_ldc2 1005 d_Law_law_1002 rfl w_1513 ?_
  refine tf_blk _ b_Law_law_1005 rfl ?_
  refine tl_sld (fun _ _ h => h.2.1) 1014 d_Law_law_1013 rfl (hv6) ?_
  refine tf_blk _ b_Law_law_1014 rfl ?_
  refine tl_sld (fun _ _ h => h.2.1) 1025 d_Law_law_1024 rfl (hv7) ?_
  refine tf_blk _ b_Law_law_1025 rfl ?_
  refine tf_ldc2 1029 d_Law_law_1026 rfl w_1513 ?_
  refine tf_blk _ b_Law_law_1029 rfl ?_
  refine tl_sld (fun _ _ h => h.2.1) 1038 d_Law_law_1037 rfl (hv8) ?_
  refine tf_blk _ b_Law_law_1038 rfl ?_
  refine tf_less (kc2 := kc + (0 + 2)) (ks2 := ks + (0 + 14)) (by omega) (by omega) ?_
  refine tl_cS (tf_gok _ _) tg_EL (fun _ _ h => h.1) (hl_rule_x1 l D q (d - 1) _ _ (by omega) _ _ _ _ _ hx fx (c_Tf_rule_l l D q (d - 1 - 1) _ _ hl (by omega) hS _ _ _ _ _ (Bool.eq_false_iff.mpr c1)) (fun _ _ _ z => z) (fun _ _ _ z => z.1)) 1042 d_Law_law_1039 rfl lk_Law_121 tlw_rule (by rfl) sal_rule (by omega) (by exact Nat.le_of_ble_eq_true rfl) rfl ?_
  rintro v1039 L1039 f1039 ⟨rfl, -, hL2, hf2⟩
  have hT : tm_at q adm m f1039 L1039 (tm_Jz c) (fun _ _ => 0) (fun _ => 0) f1039 := tm_mv hM hL2 (fun z hz _ => hf2 z hz)
  refine tf_blk _ b_Law_law_1042 rfl ?_
  refine tl_sld (fun _ _ h => h.2.1) 1051 d_Law_law_1050 rfl (hv1) ?_
  refine tf_blk _ b_Law_law_1051 rfl ?_
  refine tl_sld (fun _ _ h => h.2.1) 1057 d_Law_law_1056 rfl (hv2) ?_
  refine tf_blk _ b_Law_law_1057 rfl ?_
  refine tl_sld (fun _ _ h => h.2.1) 1067 d_Law_law_1066 rfl (hv3) ?_
  refine tf_blk _ b_Law_law_1067 rfl ?_
  refine tf_ldc2 1071 d_Law_law_1068 rfl w_1513 ?_
  refine tf_blk _ b_Law_law_1071 rfl ?_
  refine tl_sld (fun _ _ h => h.2.1) 1079 d_Law_law_1078 rfl (hv4) ?_
  refine tf_blk _ b_Law_law_1079 rfl ?_
  refine tl_sld (fun _ _ h => h.2.1) 1089 d_Law_law_1088 rfl (hv5) ?_
  refine tf_blk _ b_Law_law_1089 rfl ?_
  refine tf_ldc2 1093 d_Law_law_1090 rfl w_1513 ?_
  refine tf_blk _ b_Law_law_1093 rfl ?_
  refine tl_sld (fun _ _ h => h.2.1) 1102 d_Law_law_1101 rfl (hv6) ?_
  refine tf_blk _ b_Law_law_1102 rfl ?_
  refine tl_sld (fun _ _ h => h.2.1) 1113 d_Law_law_1112 rfl (hv7) ?_
  refine tf_blk _ b_Law_law_1113 rfl ?_
  refine tf_ldc2 1117 d_Law_law_1114 rfl w_1513 ?_
  refine tf_blk _ b_Law_law_1117 rfl ?_
  refine tl_sld (fun _ _ h => h.2.1) 1126 d_Law_law_1125 rfl (hv8) ?_
  refine tf_cV (tf_gok _ _) (c_Mod_rule_n l D q (d - 1) _ _ (by omega) hT _ _ _ _ _ (tm_isG0 (J := tm_Jz c) rfl _)) 1129 d_Law_law_1126 rfl lk_Law_124 cw_Mod_rule (by rfl) in_Mod_rule se_Mod_rule (by exact hT.1.1) (by exact hT.1.2.1) (by rfl) (by rfl) (by omega) (by exact Nat.le_of_ble_eq_true rfl) rfl ?_
  rintro v1126 L1126 f1126 ⟨rfl, rfl, hT⟩
  refine tf_blk _ b_Law_law_1129 rfl ?_
  refine tf_cV (tf_gok _ _) (c_Mod_thrown l D q (d - 1) _ _ hT) 1135 d_Law_law_1132 rfl lk_Law_62 cw_Mod_thrown (by rfl) in_Mod_thrown se_Mod_thrown (by exact hT.1.1) (by exact hT.1.2.1) (by rfl) (by rfl) (by omega) (by exact Nat.le_of_ble_eq_true rfl) rfl ?_
  rintro v1132 L1132 f1132 ⟨rfl, rfl, rfl⟩
  refine tf_blk _ b_Law_law_1135 rfl ?_
  refine tf_ic_eq 1142 1140 d_Law_law_1137 rfl rfl (fun h1137 => ?_) (fun h1137 => absurd (rfl) h1137)
  refine tf_blk _ b_Law_law_1142 rfl ?_
  refine tf_if_ne 1159 1147 d_Law_law_1144 rfl rfl (fun h1144 => ?_) (fun h1144 => absurd h1144 (show ¬ kI 1 = 0 by decide))
  refine tf_goto 1293 d_Law_law_1159 rfl ?_
  refine tf_less (kc2 := kc) (ks2 := ks) (by omega) (by omega) ?_
  refine tf_drop [0, 1, 2, 3, 4] rfl ?_
  exact hK _ _
set_option maxHeartbeats 4000000 in
set_option maxRecDepth 100000 in
theorem lw_k17 {QB : tf_B} {kc ks K KS : Nat} (hk1 : kc + 20 ≤ K) (hk2 : ks + 1000 ≤ KS) {m ou b N i : Nat} {xs : Nat → Int32} {ad adm : Nat → Nat} {c : Nat} {g : Nat → Int64} (hl : l.stackTraces = false) (hd : 12 ≤ d) (hc : tc_mm c) (hS : tc_at q ad (tc_S0 c) (lw_B adm m ou) L f) (hM : tm_ok q adm m (tm_Jz c) (fun _ _ => 0) (fun _ => 0) L f) (hou : ou ∈ L) (fou : f ou = tj q 1 g) (hno : ¬ tm_own adm m ou) (hK : ∀ L2 f2, tf_W l (tf_H D q) (tl_EX b N xs) QB d i_Law_law 1293 [(0, .ref b), (1, .ref (ad 0)), (2, .ref m), (3, .ref ou), (4, .int (nI i))] [] L2 f2 kc ks) (hv0 : vp_in (nI i) N) (hv1 : vp_in (nI i + kI 1) N) (hv2 : vp_in (nI i + kI 2) N) (hv3 : vp_in (nI i + kI 3) N) (hv4 : vp_in (nI i + kI 4) N) (hv5 : vp_in (nI i + kI 5) N) (hv6 : vp_in (nI i + kI 6) N) (hv7 : vp_in (nI i + kI 7) N) (hv8 : vp_in (nI i + kI 8) N) : tf_W l (tf_H D q) (tl_EX b N xs) QB d i_Law_law 1200 [(0, .ref b), (1, .ref (ad 0)), (2, .ref m), (3, .ref ou), (4, .int (nI i))] [] L f K KS := by
  obtain ⟨hx, fx⟩ := tc_c0 hS
  have hT : tm_at q adm m f L (tm_Jz c) (fun _ _ => 0) (fun _ => 0) f := ⟨hM, fun _ _ => rfl⟩
  have h4 : c ≤ 4 := by rcases hc with h | h | h <;> omega
  by_cases c0 : xs (nI i + kI 2).toNatClampNeg = 0
  · refine tf_blk _ b_Law_law_1200 rfl ?_
    refine tl_sld (fun _ _ h => h.2.1) 1207 d_Law_law_1206 rfl (hv1) ?_
    refine tf_blk _ b_Law_law_1207 rfl ?_
    refine tl_sld (fun _ _ h => h.2.1) 1213 d_Law_law_1212 rfl (hv2) ?_
    refine tf_blk _ b_Law_law_1213 rfl ?_
    refine tf_less (kc2 := kc + (0 + 1)) (ks2 := ks + (0 + 6)) (by omega) (by omega) ?_
    refine tl_cS (tf_gok _ _) tg_EL (fun _ _ h => h.1) (hl_shaped_x1 l D q (d - 1) _ _ (by omega) _ _ hx fx (c_Tf_shaped_0 l D q (d - 1 - 1) _ _ hl (by omega) hS _ _ c0 (lw_e10a _)) (fun _ _ _ z => z) (fun _ _ _ z => z.1)) 1217 d_Law_law_1214 rfl lk_Law_133 tlw_shaped (by rfl) sal_shaped (by omega) (by exact Nat.le_of_ble_eq_true rfl) rfl ?_
    rintro v1214 L1214 f1214 ⟨rfl, -, rfl, rfl⟩
    refine tf_blk _ b_Law_law_1217 rfl ?_
    refine tl_sld (fun _ _ h => h.2.1) 1226 d_Law_law_1225 rfl (hv1) ?_
    refine tf_blk _ b_Law_law_1226 rfl ?_
    refine tl_sld (fun _ _ h => h.2.1) 1232 d_Law_law_1231 rfl (hv2) ?_
    refine tf_cV (tf_gok _ _) (c_Mod_shaped_n l D q (d - 1) _ _ hT _ _ (fun z => z.2.elim (fun y => z.1 y.2) (fun y => absurd (c0.symm.trans y.1) (by decide)))) 1235 d_Law_law_1232 rfl lk_Law_136 cw_Mod_shaped (by rfl) in_Mod_shaped se_Mod_shaped (by exact hT.1.1) (by exact hT.1.2.1) (by rfl) (by rfl) (by omega) (by exact Nat.le_of_ble_eq_true rfl) rfl ?_
    rintro v1232 L1232 f1232 ⟨rfl, rfl, hT⟩
    refine tf_blk _ b_Law_law_1235 rfl ?_
    refine tf_cV (tf_gok _ _) (c_Mod_thrown l D q (d - 1) _ _ hT) 1241 d_Law_law_1238 rfl lk_Law_62 cw_Mod_thrown (by rfl) in_Mod_thrown se_Mod_thrown (by exact hT.1.1) (by exact hT.1.2.1) (by rfl) (by rfl) (by omega) (by exact Nat.le_of_ble_eq_true rfl) rfl ?_
    rintro v1238 L1238 f1238 ⟨rfl, rfl, rfl⟩
    refine tf_blk _ b_Law_law_1241 rfl ?_
    refine tf_ic_eq 1248 1246 d_Law_law_1243 rfl rfl (fun h1243 => ?_) (fun h1243 => absurd (rfl) h1243)
    refine tf_blk _ b_Law_law_1248 rfl ?_
    refine tf_if_ne 1265 1253 d_Law_law_1250 rfl rfl (fun h1250 => ?_) (fun h1250 => absurd h1250 (show ¬ kI 1 = 0 by decide))
    refine tf_goto 1293 d_Law_law_1265 rfl ?_
    refine tf_less (kc2 := kc) (ks2 := ks) (by omega) (by omega) ?_
    refine tf_drop [0, 1, 2, 3, 4] rfl ?_
    exact hK _ _
  by_cases c1 : xs (nI i + kI 2).toNatClampNeg = kI 1
  · by_cases c2 : xs (nI i + kI 1).toNatClampNeg = nI 0
    · refine tf_blk _ b_Law_law_1200 rfl ?_
      refine tl_sld (fun _ _ h => h.2.1) 1207 d_Law_law_1206 rfl (hv1) ?_
      refine tf_blk _ b_Law_law_1207 rfl ?_
      refine tl_sld (fun _ _ h => h.2.1) 1213 d_Law_law_1212 rfl (hv2) ?_
      refine tf_blk _ b_Law_law_1213 rfl ?_
      refine tf_less (kc2 := kc + (0 + 1)) (ks2 := ks + (0 + 6)) (by omega) (by omega) ?_
      rw [c2]
      refine tl_cS (tf_gok _ _) tg_EL (fun _ _ h => h.1) (hl_shaped_r l D q (d - 1) _ _ (by omega) _ _ hx fx (c_Tf_shaped_t1 l D q (d - 1 - 1) _ _ hl (by omega) hS (lw_rok hc) (i := 0) (Nat.le_refl _) _ c1) (fun _ _ _ z => z) (fun v L2 f2 z => ⟨_, z.1, z.2.1 ▸ hou, g, (z.2.2.2 ou (Or.inr rfl)).trans fou⟩)) 1217 d_Law_law_1214 rfl lk_Law_133 tlw_shaped (by rfl) sal_shaped (by omega) (by exact Nat.le_of_ble_eq_true rfl) rfl ?_
      rintro v1214 L1214 f1214 ⟨rfl, a, f1, g1, ⟨ea, rfl, hS2, hB2⟩, fo, rfl⟩
      cases ea
      have hT : tm_at q adm m (va_up f1 ou (tj q 1 (va_upJ g1 (tc_x (tc_S0 c) 0 0 (kI 0))))) L1214 (tm_Jz c) (fun _ _ => 0) (fun _ => 0) (va_up f1 ou (tj q 1 (va_upJ g1 (tc_x (tc_S0 c) 0 0 (kI 0))))) := tm_mv hM (fun _ z => z) (fun z hz ho => (va_up_ne _ _ (fun e => hno (by rw [← e]; exact ho))).trans (hB2 z (Or.inl ho)))
      refine tf_blk _ b_Law_law_1217 rfl ?_
      refine tl_sld (fun _ _ h => h.2.1) 1226 d_Law_law_1225 rfl (hv1) ?_
      refine tf_blk _ b_Law_law_1226 rfl ?_
      refine tl_sld (fun _ _ h => h.2.1) 1232 d_Law_law_1231 rfl (hv2) ?_
      refine tf_cV (tf_gok _ _) (c_Mod_shaped_00 l D q (d - 1) _ _ hT _ _ c2 c1 rfl) 1235 d_Law_law_1232 rfl lk_Law_136 cw_Mod_shaped (by rfl) in_Mod_shaped se_Mod_shaped (by exact hT.1.1) (by exact hT.1.2.1) (by rfl) (by rfl) (by omega) (by exact Nat.le_of_ble_eq_true rfl) rfl ?_
      rintro v1232 L1232 f1232 ⟨rfl, rfl, hT⟩
      refine tf_blk _ b_Law_law_1235 rfl ?_
      refine tf_cV (tf_gok _ _) (c_Mod_thrown l D q (d - 1) _ _ hT) 1241 d_Law_law_1238 rfl lk_Law_62 cw_Mod_thrown (by rfl) in_Mod_thrown se_Mod_thrown (by exact hT.1.1) (by exact hT.1.2.1) (by rfl) (by rfl) (by omega) (by exact Nat.le_of_ble_eq_true rfl) rfl ?_
      rintro v1238 L1238 f1238 ⟨rfl, rfl, rfl⟩
      refine tf_blk _ b_Law_law_1241 rfl ?_
      refine tf_ic_eq 1248 1246 d_Law_law_1243 rfl rfl (fun h1243 => ?_) (fun h1243 => absurd (rfl) h1243)
      refine tf_blk _ b_Law_law_1248 rfl ?_
      refine tf_if_ne 1265 1253 d_Law_law_1250 rfl rfl (fun h1250 => absurd h1250 (not_not_intro rfl)) (fun h1250 => ?_)
      refine tf_blk _ b_Law_law_1253 rfl ?_
      refine tf_lald (n := ?n_1255_194) (g := ?g_1255_194) 1256 2 d_Law_law_1255 rfl rfl ?ha_1255_194 ?hf_1255_194 ?hi_1255_194 ?kk_1255_194
      case ha_1255_194 => exact hou
      case hf_1255_194 => rw [hT.2 ou hno]; exact va_up_self _ _ _
      case hi_1255_194 => exact (show vp_in (nI 0) 1 from vp_in_nI (by decide) (by decide))
      refine tf_blk _ b_Law_law_1256 rfl ?_
      refine tf_if_eq 1265 1263 d_Law_law_1260 rfl rfl (fun h1260 => ?_) (fun h1260 => absurd (rfl) h1260)
      refine tf_goto 1293 d_Law_law_1265 rfl ?_
      refine tf_less (kc2 := kc) (ks2 := ks) (by omega) (by omega) ?_
      refine tf_drop [0, 1, 2, 3, 4] rfl ?_
      exact hK _ _
    refine tf_blk _ b_Law_law_1200 rfl ?_
    refine tl_sld (fun _ _ h => h.2.1) 1207 d_Law_law_1206 rfl (hv1) ?_
    refine tf_blk _ b_Law_law_1207 rfl ?_
    refine tl_sld (fun _ _ h => h.2.1) 1213 d_Law_law_1212 rfl (hv2) ?_
    refine tf_blk _ b_Law_law_1213 rfl ?_
    refine tf_less (kc2 := kc + (0 + 1)) (ks2 := ks + (0 + 6)) (by omega) (by omega) ?_
    refine tl_cS (tf_gok _ _) tg_EL (fun _ _ h => h.1) (hl_shaped_x1 l D q (d - 1) _ _ (by omega) _ _ hx fx (c_Tf_shaped_1 l D q (d - 1 - 1) _ _ hl (by omega) hS _ _ c1 (lw_in0 c2)) (fun _ _ _ z => z) (fun _ _ _ z => z.1)) 1217 d_Law_law_1214 rfl lk_Law_133 tlw_shaped (by rfl) sal_shaped (by omega) (by exact Nat.le_of_ble_eq_true rfl) rfl ?_
    rintro v1214 L1214 f1214 ⟨rfl, -, rfl, rfl⟩
    refine tf_blk _ b_Law_law_1217 rfl ?_
    refine tl_sld (fun _ _ h => h.2.1) 1226 d_Law_law_1225 rfl (hv1) ?_
    refine tf_blk _ b_Law_law_1226 rfl ?_
    refine tl_sld (fun _ _ h => h.2.1) 1232 d_Law_law_1231 rfl (hv2) ?_
    refine tf_cV (tf_gok _ _) (c_Mod_shaped_n l D q (d - 1) _ _ hT _ _ (fun z => z.2.elim (fun y => c0 y.1) (fun y => c2 (Int32.le_antisymm (Int32.not_lt.mp y.2) (Int32.not_lt.mp z.1))))) 1235 d_Law_law_1232 rfl lk_Law_136 cw_Mod_shaped (by rfl) in_Mod_shaped se_Mod_shaped (by exact hT.1.1) (by exact hT.1.2.1) (by rfl) (by rfl) (by omega) (by exact Nat.le_of_ble_eq_true rfl) rfl ?_
    rintro v1232 L1232 f1232 ⟨rfl, rfl, hT⟩
    refine tf_blk _ b_Law_law_1235 rfl ?_
    refine tf_cV (tf_gok _ _) (c_Mod_thrown l D q (d - 1) _ _ hT) 1241 d_Law_law_1238 rfl lk_Law_62 cw_Mod_thrown (by rfl) in_Mod_thrown se_Mod_thrown (by exact hT.1.1) (by exact hT.1.2.1) (by rfl) (by rfl) (by omega) (by exact Nat.le_of_ble_eq_true rfl) rfl ?_
    rintro v1238 L1238 f1238 ⟨rfl, rfl, rfl⟩
    refine tf_blk _ b_Law_law_1241 rfl ?_
    refine tf_ic_eq 1248 1246 d_Law_law_1243 rfl rfl (fun h1243 => ?_) (fun h1243 => absurd (rfl) h1243)
    refine tf_blk _ b_Law_law_1248 rfl ?_
    refine tf_if_ne 1265 1253 d_Law_law_1250 rfl rfl (fun h1250 => ?_) (fun h1250 => absurd h1250 (show ¬ kI 1 = 0 by decide))
    refine tf_goto 1293 d_Law_law_1265 rfl ?_
    refine tf_less (kc2 := kc) (ks2 := ks) (by omega) (by omega) ?_
    refine tf_drop [0, 1, 2, 3, 4] rfl ?_
    exact hK _ _
  refine tf_blk _ b_Law_law_1200 rfl ?_
  refine tl_sld (fun _ _ h => h.2.1) 1207 d_Law_law_1206 rfl (hv1) ?_
  refine tf_blk _ b_Law_law_1207 rfl ?_
  refine tl_sld (fun _ _ h => h.2.1) 1213 d_Law_law_1212 rfl (hv2) ?_
  refine tf_blk _ b_Law_law_1213 rfl ?_
  refine tf_less (kc2 := kc + (0 + 1)) (ks2 := ks + (0 + 6)) (by omega) (by omega) ?_
  refine tl_cS (tf_gok _ _) tg_EL (fun _ _ h => h.1) (hl_shaped_x1 l D q (d - 1) _ _ (by omega) _ _ hx fx (c_Tf_shaped_w l D q (d - 1 - 1) _ _ hl (by omega) hS _ _ c0 c1) (fun _ _ _ z => z) (fun _ _ _ z => z.1)) 1217 d_Law_law_1214 rfl lk_Law_133 tlw_shaped (by rfl) sal_shaped (by omega) (by exact Nat.le_of_ble_eq_true rfl) rfl ?_
  rintro v1214 L1214 f1214 ⟨rfl, -, rfl, rfl⟩
  refine tf_blk _ b_Law_law_1217 rfl ?_
  refine tl_sld (fun _ _ h => h.2.1) 1226 d_Law_law_1225 rfl (hv1) ?_
  refine tf_blk _ b_Law_law_1226 rfl ?_
  refine tl_sld (fun _ _ h => h.2.1) 1232 d_Law_law_1231 rfl (hv2) ?_
  refine tf_cV (tf_gok _ _) (c_Mod_shaped_n l D q (d - 1) _ _ hT _ _ (fun z => z.2.elim (fun y => c0 y.1) (fun y => c1 y.1))) 1235 d_Law_law_1232 rfl lk_Law_136 cw_Mod_shaped (by rfl) in_Mod_shaped se_Mod_shaped (by exact hT.1.1) (by exact hT.1.2.1) (by rfl) (by rfl) (by omega) (by exact Nat.le_of_ble_eq_true rfl) rfl ?_
  rintro v1232 L1232 f1232 ⟨rfl, rfl, hT⟩
  refine tf_blk _ b_Law_law_1235 rfl ?_
  refine tf_cV (tf_gok _ _) (c_Mod_thrown l D q (d - 1) _ _ hT) 1241 d_Law_law_1238 rfl lk_Law_62 cw_Mod_thrown (by rfl) in_Mod_thrown se_Mod_thrown (by exact hT.1.1) (by exact hT.1.2.1) (by rfl) (by rfl) (by omega) (by exact Nat.le_of_ble_eq_true rfl) rfl ?_
  rintro v1238 L1238 f1238 ⟨rfl, rfl, rfl⟩
  refine tf_blk _ b_Law_law_1241 rfl ?_
  refine tf_ic_eq 1248 1246 d_Law_law_1243 rfl rfl (fun h1243 => ?_) (fun h1243 => absurd (rfl) h1243)
  refine tf_blk _ b_Law_law_1248 rfl ?_
  refine tf_if_ne 1265 1253 d_Law_law_1250 rfl rfl (fun h1250 => ?_) (fun h1250 => absurd h1250 (show ¬ kI 1 = 0 by decide))
  refine tf_goto 1293 d_Law_law_1265 rfl ?_
  refine tf_less (kc2 := kc) (ks2 := ks) (by omega) (by omega) ?_
  refine tf_drop [0, 1, 2, 3, 4] rfl ?_
  exact hK _ _
end
