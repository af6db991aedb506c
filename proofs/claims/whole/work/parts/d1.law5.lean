/-! the law over both states: calls that throw nothing -/
section
variable (l : Launch) (D : va_G) (q : Nat → ClassId) (d : Nat) (L : List Nat) (f : tf_F)
set_option maxHeartbeats 4000000 in
set_option maxRecDepth 100000 in
theorem lw_k2 {QB : tf_B} {kc ks K KS : Nat} (hk1 : kc + 20 ≤ K) (hk2 : ks + 1000 ≤ KS) {m ou b N i : Nat} {xs : Nat → Int32} {ad adm : Nat → Nat} {S : tc_S} {J : Nat → Int32} {A : Nat → Nat → Int32} {R : Nat → Int64} {g : Nat → Int64} (hl : l.stackTraces = false) (hd : 14 ≤ d) (hS : tc_at q ad S (lw_B adm m ou) L f) (hM : tm_ok q adm m J A R L f) (hR : RR S J A R) (hou : ou ∈ L) (fou : f ou = tj q 1 g) (hno : ¬ tm_own adm m ou) (hK : ∀ (ad2 : Nat → Nat) (S2 : tc_S) (J2 : Nat → Int32) (A2 : Nat → Nat → Int32) (R2 : Nat → Int64) (L2 : List Nat) (f2 : tf_F) (g2 : Nat → Int64), ad2 0 = ad 0 → tc_at q ad2 S2 (lw_B adm m ou) L2 f2 → tm_ok q adm m J2 A2 R2 L2 f2 → RR S2 J2 A2 R2 → ou ∈ L2 → f2 ou = tj q 1 g2 → tf_W l (tf_H D q) (tl_EX b N xs) QB d i_Law_law 1293 [(0, .ref b), (1, .ref (ad 0)), (2, .ref m), (3, .ref ou), (4, .int (nI i))] [] L2 f2 kc ks) (hv0 : vp_in (nI i) N) (hv1 : vp_in (nI i + kI 1) N) (hv2 : vp_in (nI i + kI 2) N) (hv3 : vp_in (nI i + kI 3) N) (hv4 : vp_in (nI i + kI 4) N) (hv5 : vp_in (nI i + kI 5) N) (hv6 : vp_in (nI i + kI 6) N) (hv7 : vp_in (nI i + kI 7) N) (hv8 : vp_in (nI i + kI 8) N) : tf_W l (tf_H D q) (tl_EX b N xs) QB d i_Law_law 292 [(0, .ref b), (1, .ref (ad 0)), (2, .ref m), (3, .ref ou), (4, .int (nI i))] [] L f K KS := by
  obtain ⟨hx, fx⟩ := tc_c0 hS
  have hT : tm_at q adm m f L J A R f := ⟨hM, fun _ _ => rfl⟩
  have hBL := lw_BL hM hou
  have hn : S.n ≤ 40 := hR.2.1.1
  have h4 := lw_mm hR
  rcases g_or (n := S.n) (xs (nI i + kI 1).toNatClampNeg) with ⟨gi, hgi, e1⟩ | hg
  · refine tf_blk _ b_Law_law_292 rfl ?_
    refine tl_sld (fun _ _ h => h.2.1) 299 d_Law_law_298 rfl (hv1) ?_
    rw [e1]
    refine tf_cV (tf_gok _ _) (c_Tf_close l D q (d - 1) _ _ (by omega) hS hn hgi (lw_pt hR hgi).1 (lw_pt hR hgi).2.1 (lw_pt hR hgi).2.2) 302 d_Law_law_299 rfl lk_Law_69 cw_Tf_close (by rfl) in_Tf_close se_Tf_close (by exact hx) (by exact fx) (by rfl) (by rfl) (by omega) (by exact Nat.le_of_ble_eq_true rfl) rfl ?_
    rintro v299 L299 f299 ⟨rfl, rfl, hS2, hB2⟩
    have hT : tm_at q adm m f299 _ J A R f299 := tm_mv9 hM (fun _ z => z) (fun z _ hz => hB2 z (Or.inl hz))
    refine tf_blk _ b_Law_law_302 rfl ?_
    refine tl_sld (fun _ _ h => h.2.1) 309 d_Law_law_308 rfl (hv1) ?_
    rw [e1]
    refine tf_cV (tf_gok _ _) (c_Mod_close l D q (d - 1) _ _ (by omega) hT _ (lw_vg hR _)) 312 d_Law_law_309 rfl lk_Law_73 cw_Mod_close (by rfl) in_Mod_close se_Mod_close (by exact hT.1.1) (by exact hT.1.2.1) (by rfl) (by rfl) (by omega) (by exact Nat.le_of_ble_eq_true rfl) rfl ?_
    rintro v309 L309 f309 ⟨rfl, rfl, hT⟩
    refine tf_ic_eq 1293 315 d_Law_law_312 rfl rfl (fun h312 => ?_) (fun h312 => absurd ((q_close hR hgi).1) h312)
    refine tf_less (kc2 := kc) (ks2 := ks) (by omega) (by omega) ?_
    refine tf_drop [0, 1, 2, 3, 4] rfl ?_
    exact hK (ad) _ _ _ _ _ _ (_) (rfl) (lw_cS (hS2) hT) hT.1 ((q_close hR hgi).2) (hou) (by rw [hT.2 ou hno]; exact (hB2 ou (Or.inr rfl)).trans fou)
  · refine tf_blk _ b_Law_law_292 rfl ?_
    refine tl_sld (fun _ _ h => h.2.1) 299 d_Law_law_298 rfl (hv1) ?_
    refine tf_cV (tf_gok _ _) (c_Tf_close_n l D q (d - 1) _ _ (by omega) hS hn hg) 302 d_Law_law_299 rfl lk_Law_69 cw_Tf_close (by rfl) in_Tf_close se_Tf_close (by exact hx) (by exact fx) (by rfl) (by rfl) (by omega) (by exact Nat.le_of_ble_eq_true rfl) rfl ?_
    rintro v299 L299 f299 ⟨rfl, rfl, rfl⟩
    refine tf_blk _ b_Law_law_302 rfl ?_
    refine tl_sld (fun _ _ h => h.2.1) 309 d_Law_law_308 rfl (hv1) ?_
    refine tf_cV (tf_gok _ _) (c_Mod_close l D q (d - 1) _ _ (by omega) hT _ (lw_vg hR _)) 312 d_Law_law_309 rfl lk_Law_73 cw_Mod_close (by rfl) in_Mod_close se_Mod_close (by exact hT.1.1) (by exact hT.1.2.1) (by rfl) (by rfl) (by omega) (by exact Nat.le_of_ble_eq_true rfl) rfl ?_
    rintro v309 L309 f309 ⟨rfl, rfl, hT⟩
    refine tf_ic_eq 1293 315 d_Law_law_312 rfl rfl (fun h312 => ?_) (fun h312 => absurd (by rw [q_close_n hR hg]; rfl) h312)
    refine tf_less (kc2 := kc) (ks2 := ks) (by omega) (by omega) ?_
    refine tf_drop [0, 1, 2, 3, 4] rfl ?_
    exact hK (ad) _ _ _ _ _ _ (_) (rfl) (lw_cS (hS) hT) hT.1 (by rw [q_close_n hR hg]; exact hR) (hou) (by rw [hT.2 ou hno]; exact fou)
set_option maxHeartbeats 4000000 in
set_option maxRecDepth 100000 in
theorem lw_k5 {QB : tf_B} {kc ks K KS : Nat} (hk1 : kc + 20 ≤ K) (hk2 : ks + 1000 ≤ KS) {m ou b N i : Nat} {xs : Nat → Int32} {ad adm : Nat → Nat} {S : tc_S} {J : Nat → Int32} {A : Nat → Nat → Int32} {R : Nat → Int64} {g : Nat → Int64} (hl : l.stackTraces = false) (hd : 14 ≤ d) (hS : tc_at q ad S (lw_B adm m ou) L f) (hM : tm_ok q adm m J A R L f) (hR : RR S J A R) (hou : ou ∈ L) (fou : f ou = tj q 1 g) (hno : ¬ tm_own adm m ou) (hK : ∀ (ad2 : Nat → Nat) (S2 : tc_S) (J2 : Nat → Int32) (A2 : Nat → Nat → Int32) (R2 : Nat → Int64) (L2 : List Nat) (f2 : tf_F) (g2 : Nat → Int64), ad2 0 = ad 0 → tc_at q ad2 S2 (lw_B adm m ou) L2 f2 → tm_ok q adm m J2 A2 R2 L2 f2 → RR S2 J2 A2 R2 → ou ∈ L2 → f2 ou = tj q 1 g2 → tf_W l (tf_H D q) (tl_EX b N xs) QB d i_Law_law 1293 [(0, .ref b), (1, .ref (ad 0)), (2, .ref m), (3, .ref ou), (4, .int (nI i))] [] L2 f2 kc ks) (hv0 : vp_in (nI i) N) (hv1 : vp_in (nI i + kI 1) N) (hv2 : vp_in (nI i + kI 2) N) (hv3 : vp_in (nI i + kI 3) N) (hv4 : vp_in (nI i + kI 4) N) (hv5 : vp_in (nI i + kI 5) N) (hv6 : vp_in (nI i + kI 6) N) (hv7 : vp_in (nI i + kI 7) N) (hv8 : vp_in (nI i + kI 8) N) : tf_W l (tf_H D q) (tl_EX b N xs) QB d i_Law_law 485 [(0, .ref b), (1, .ref (ad 0)), (2, .ref m), (3, .ref ou), (4, .int (nI i))] [] L f K KS := by
  obtain ⟨hx, fx⟩ := tc_c0 hS
  have hT : tm_at q adm m f L J A R f := ⟨hM, fun _ _ => rfl⟩
  have hBL := lw_BL hM hou
  have hn : S.n ≤ 40 := hR.2.1.1
  have h4 := lw_mm hR
  rcases g_or (n := S.n) (xs (nI i + kI 1).toNatClampNeg) with ⟨gi, hgi, e1⟩ | hg
  · refine tf_blk _ b_Law_law_485 rfl ?_
    refine tl_sld (fun _ _ h => h.2.1) 492 d_Law_law_491 rfl (hv1) ?_
    refine tf_blk _ b_Law_law_492 rfl ?_
    refine tl_sld (fun _ _ h => h.2.1) 498 d_Law_law_497 rfl (hv2) ?_
    refine tf_blk _ b_Law_law_498 rfl ?_
    refine tl_sld (fun _ _ h => h.2.1) 504 d_Law_law_503 rfl (hv3) ?_
    rw [e1]
    refine tf_cV (tf_gok _ _) (c_Tf_advance l D q (d - 1) _ _ (by omega) hS hn h4 hgi _ _) 507 d_Law_law_504 rfl lk_Law_81 cw_Tf_advance (by rfl) in_Tf_advance se_Tf_advance (by exact hx) (by exact fx) (by rfl) (by rfl) (by omega) (by exact Nat.le_of_ble_eq_true rfl) rfl ?_
    rintro v504 L504 f504 ⟨rfl, rfl, hS2, hB2⟩
    have hT : tm_at q adm m f504 _ J A R f504 := tm_mv9 hM (fun _ z => z) (fun z _ hz => hB2 z (Or.inl hz))
    refine tf_blk _ b_Law_law_507 rfl ?_
    refine tl_sld (fun _ _ h => h.2.1) 514 d_Law_law_513 rfl (hv1) ?_
    refine tf_blk _ b_Law_law_514 rfl ?_
    refine tl_sld (fun _ _ h => h.2.1) 520 d_Law_law_519 rfl (hv2) ?_
    refine tf_blk _ b_Law_law_520 rfl ?_
    refine tl_sld (fun _ _ h => h.2.1) 526 d_Law_law_525 rfl (hv3) ?_
    rw [e1]
    refine tf_cV (tf_gok _ _) (c_Mod_advance l D q (d - 1) _ _ (by omega) hT _ _ _ (lw_va hR _ _)) 529 d_Law_law_526 rfl lk_Law_85 cw_Mod_advance (by rfl) in_Mod_advance se_Mod_advance (by exact hT.1.1) (by exact hT.1.2.1) (by rfl) (by rfl) (by omega) (by exact Nat.le_of_ble_eq_true rfl) rfl ?_
    rintro v526 L526 f526 ⟨rfl, rfl, hT⟩
    refine tf_ic_eq 1293 532 d_Law_law_529 rfl rfl (fun h529 => ?_) (fun h529 => absurd ((q_adv hR hgi _ _).1) h529)
    refine tf_less (kc2 := kc) (ks2 := ks) (by omega) (by omega) ?_
    refine tf_drop [0, 1, 2, 3, 4] rfl ?_
    exact hK (ad) _ _ _ _ _ _ (_) (rfl) (lw_cS (hS2) hT) hT.1 ((q_adv hR hgi _ _).2) (hou) (by rw [hT.2 ou hno]; exact (hB2 ou (Or.inr rfl)).trans fou)
  · refine tf_blk _ b_Law_law_485 rfl ?_
    refine tl_sld (fun _ _ h => h.2.1) 492 d_Law_law_491 rfl (hv1) ?_
    refine tf_blk _ b_Law_law_492 rfl ?_
    refine tl_sld (fun _ _ h => h.2.1) 498 d_Law_law_497 rfl (hv2) ?_
    refine tf_blk _ b_Law_law_498 rfl ?_
    refine tl_sld (fun _ _ h => h.2.1) 504 d_Law_law_503 rfl (hv3) ?_
    refine tf_cV (tf_gok _ _) (c_Tf_advance_n l D q (d - 1) _ _ (by omega) hS hn hg _ _) 507 d_Law_law_504 rfl lk_Law_81 cw_Tf_advance (by rfl) in_Tf_advance se_Tf_advance (by exact hx) (by exact fx) (by rfl) (by rfl) (by omega) (by exact Nat.le_of_ble_eq_true rfl) rfl ?_
    rintro v504 L504 f504 ⟨rfl, rfl, rfl⟩
    refine tf_blk _ b_Law_law_507 rfl ?_
    refine tl_sld (fun _ _ h => h.2.1) 514 d_Law_law_513 rfl (hv1) ?_
    refine tf_blk _ b_Law_law_514 rfl ?_
    refine tl_sld (fun _ _ h => h.2.1) 520 d_Law_law_519 rfl (hv2) ?_
    refine tf_blk _ b_Law_law_520 rfl ?_
    refine tl_sld (fun _ _ h => h.2.1) 526 d_Law_law_525 rfl (hv3) ?_
    refine tf_cV (tf_gok _ _) (c_Mod_advance l D q (d - 1) _ _ (by omega) hT _ _ _ (lw_va hR _ _)) 529 d_Law_law_526 rfl lk_Law_85 cw_Mod_advance (by rfl) in_Mod_advance se_Mod_advance (by exact hT.1.1) (by exact hT.1.2.1) (by rfl) (by rfl) (by omega) (by exact Nat.le_of_ble_eq_true rfl) rfl ?_
    rintro v526 L526 f526 ⟨rfl, rfl, hT⟩
    refine tf_ic_eq 1293 532 d_Law_law_529 rfl rfl (fun h529 => ?_) (fun h529 => absurd (by rw [q_adv_n hR hg]; rfl) h529)
    refine tf_less (kc2 := kc) (ks2 := ks) (by omega) (by omega) ?_
    refine tf_drop [0, 1, 2, 3, 4] rfl ?_
    exact hK (ad) _ _ _ _ _ _ (_) (rfl) (lw_cS (hS) hT) hT.1 (by rw [q_adv_n hR hg]; exact hR) (hou) (by rw [hT.2 ou hno]; exact fou)
set_option maxHeartbeats 4000000 in
set_option maxRecDepth 100000 in
theorem lw_k6 {QB : tf_B} {kc ks K KS : Nat} (hk1 : kc + 20 ≤ K) (hk2 : ks + 1000 ≤ KS) {m ou b N i : Nat} {xs : Nat → Int32} {ad adm : Nat → Nat} {S : tc_S} {J : Nat → Int32} {A : Nat → Nat → Int32} {R : Nat → Int64} {g : Nat → Int64} (hl : l.stackTraces = false) (hd : 14 ≤ d) (hS : tc_at q ad S (lw_B adm m ou) L f) (hM : tm_ok q adm m J A R L f) (hR : RR S J A R) (hou : ou ∈ L) (fou : f ou = tj q 1 g) (hno : ¬ tm_own adm m ou) (hK : ∀ (ad2 : Nat → Nat) (S2 : tc_S) (J2 : Nat → Int32) (A2 : Nat → Nat → Int32) (R2 : Nat → Int64) (L2 : List Nat) (f2 : tf_F) (g2 : Nat → Int64), ad2 0 = ad 0 → tc_at q ad2 S2 (lw_B adm m ou) L2 f2 → tm_ok q adm m J2 A2 R2 L2 f2 → RR S2 J2 A2 R2 → ou ∈ L2 → f2 ou = tj q 1 g2 → tf_W l (tf_H D q) (tl_EX b N xs) QB d i_Law_law 1293 [(0, .ref b), (1, .ref (ad 0)), (2, .ref m), (3, .ref ou), (4, .int (nI i))] [] L2 f2 kc ks) (hv0 : vp_in (nI i) N) (hv1 : vp_in (nI i + kI 1) N) (hv2 : vp_in (nI i + kI 2) N) (hv3 : vp_in (nI i + kI 3) N) (hv4 : vp_in (nI i + kI 4) N) (hv5 : vp_in (nI i + kI 5) N) (hv6 : vp_in (nI i + kI 6) N) (hv7 : vp_in (nI i + kI 7) N) (hv8 : vp_in (nI i + kI 8) N) : tf_W l (tf_H D q) (tl_EX b N xs) QB d i_Law_law 534 [(0, .ref b), (1, .ref (ad 0)), (2, .ref m), (3, .ref ou), (4, .int (nI i))] [] L f K KS := by
  obtain ⟨hx, fx⟩ := tc_c0 hS
  have hT : tm_at q adm m f L J A R f := ⟨hM, fun _ _ => rfl⟩
  have hBL := lw_BL hM hou
  have hn : S.n ≤ 40 := hR.2.1.1
  have h4 := lw_mm hR
  refine tf_blk _ b_Law_law_534 rfl ?_
  refine tl_sld (fun _ _ h => h.2.1) 541 d_Law_law_540 rfl (hv1) ?_
  refine tf_blk _ b_Law_law_541 rfl ?_
  refine tl_sld (fun _ _ h => h.2.1) 547 d_Law_law_546 rfl (hv2) ?_
  refine tf_cV (tf_gok _ _) (c_Tf_instance l D q (d - 1) _ _ (by omega) hS _ _) 550 d_Law_law_547 rfl lk_Law_86 cw_Tf_instance (by rfl) in_Tf_instance se_Tf_instance (by exact hx) (by exact fx) (by rfl) (by rfl) (by omega) (by exact Nat.le_of_ble_eq_true rfl) rfl ?_
  rintro v547 L547 f547 ⟨rfl, rfl, hS2, hB2⟩
  have hT : tm_at q adm m f547 _ J A R f547 := tm_mv9 hM (fun _ z => z) (fun z _ hz => hB2 z (Or.inl hz))
  refine tf_blk _ b_Law_law_550 rfl ?_
  refine tl_sld (fun _ _ h => h.2.1) 557 d_Law_law_556 rfl (hv1) ?_
  refine tf_blk _ b_Law_law_557 rfl ?_
  refine tl_sld (fun _ _ h => h.2.1) 563 d_Law_law_562 rfl (hv2) ?_
  refine tf_cV (tf_gok _ _) (c_Mod_instance l D q (d - 1) _ _ hT _ _) 566 d_Law_law_563 rfl lk_Law_90 cw_Mod_instance (by rfl) in_Mod_instance se_Mod_instance (by exact hT.1.1) (by exact hT.1.2.1) (by rfl) (by rfl) (by omega) (by exact Nat.le_of_ble_eq_true rfl) rfl ?_
  rintro v563 L563 f563 ⟨rfl, rfl, hT⟩
  refine tf_ic_eq 1293 569 d_Law_law_566 rfl rfl (fun h566 => ?_) (fun h566 => absurd ((q_instance hR _ _).1) h566)
  refine tf_less (kc2 := kc) (ks2 := ks) (by omega) (by omega) ?_
  refine tf_drop [0, 1, 2, 3, 4] rfl ?_
  exact hK (ad) _ _ _ _ _ _ (_) (rfl) (lw_cS (hS2) hT) hT.1 ((q_instance hR _ _).2) (hou) (by rw [hT.2 ou hno]; exact (hB2 ou (Or.inr rfl)).trans fou)
set_option maxHeartbeats 4000000 in
set_option maxRecDepth 100000 in
theorem lw_k8 {QB : tf_B} {kc ks K KS : Nat} (hk1 : kc + 20 ≤ K) (hk2 : ks + 1000 ≤ KS) {m ou b N i : Nat} {xs : Nat → Int32} {ad adm : Nat → Nat} {S : tc_S} {J : Nat → Int32} {A : Nat → Nat → Int32} {R : Nat → Int64} {g : Nat → Int64} (hl : l.stackTraces = false) (hd : 14 ≤ d) (hS : tc_at q ad S (lw_B adm m ou) L f) (hM : tm_ok q adm m J A R L f) (hR : RR S J A R) (hou : ou ∈ L) (fou : f ou = tj q 1 g) (hno : ¬ tm_own adm m ou) (hK : ∀ (ad2 : Nat → Nat) (S2 : tc_S) (J2 : Nat → Int32) (A2 : Nat → Nat → Int32) (R2 : Nat → Int64) (L2 : List Nat) (f2 : tf_F) (g2 : Nat → Int64), ad2 0 = ad 0 → tc_at q ad2 S2 (lw_B adm m ou) L2 f2 → tm_ok q adm m J2 A2 R2 L2 f2 → RR S2 J2 A2 R2 → ou ∈ L2 → f2 ou = tj q 1 g2 → tf_W l (tf_H D q) (tl_EX b N xs) QB d i_Law_law 1293 [(0, .ref b), (1, .ref (ad 0)), (2, .ref m), (3, .ref ou), (4, .int (nI i))] [] L2 f2 kc ks) (hv0 : vp_in (nI i) N) (hv1 : vp_in (nI i + kI 1) N) (hv2 : vp_in (nI i + kI 2) N) (hv3 : vp_in (nI i + kI 3) N) (hv4 : vp_in (nI i + kI 4) N) (hv5 : vp_in (nI i + kI 5) N) (hv6 : vp_in (nI i + kI 6) N) (hv7 : vp_in (nI i + kI 7) N) (hv8 : vp_in (nI i + kI 8) N) : tf_W l (tf_H D q) (tl_EX b N xs) QB d i_Law_law 651 [(0, .ref b), (1, .ref (ad 0)), (2, .ref m), (3, .ref ou), (4, .int (nI i))] [] L f K KS := by
  obtain ⟨hx, fx⟩ := tc_c0 hS
  have hT : tm_at q adm m f L J A R f := ⟨hM, fun _ _ => rfl⟩
  have hBL := lw_BL hM hou
  have hn : S.n ≤ 40 := hR.2.1.1
  have h4 := lw_mm hR
  refine tf_blk _ b_Law_law_651 rfl ?_
  refine tl_sld (fun _ _ h => h.2.1) 658 d_Law_law_657 rfl (hv1) ?_
  refine tf_cV (tf_gok _ _) (c_Tf_height l D q (d - 1) _ _ (by omega) hS _ hR.2.2.1.1) 661 d_Law_law_658 rfl lk_Law_95 cw_Tf_height (by rfl) in_Tf_height se_Tf_height (by exact hx) (by exact fx) (by rfl) (by rfl) (by omega) (by exact Nat.le_of_ble_eq_true rfl) rfl ?_
  rintro v658 L658 f658 ⟨rfl, rfl, hS2, hB2⟩
  have hT : tm_at q adm m f658 _ J A R f658 := tm_mv9 hM (fun _ z => z) (fun z _ hz => hB2 z (Or.inl hz))
  refine tf_blk _ b_Law_law_661 rfl ?_
  refine tl_sld (fun _ _ h => h.2.1) 668 d_Law_law_667 rfl (hv1) ?_
  refine tf_cV (tf_gok _ _) (c_Mod_height l D q (d - 1) _ _ (by omega) hT _ hR.2.2.1.1 hR.2.2.1.2.1) 671 d_Law_law_668 rfl lk_Law_98 cw_Mod_height (by rfl) in_Mod_height se_Mod_height (by exact hT.1.1) (by exact hT.1.2.1) (by rfl) (by rfl) (by omega) (by exact Nat.le_of_ble_eq_true rfl) rfl ?_
  rintro v668 L668 f668 ⟨rfl, rfl, hT⟩
  refine tf_ic_eq 1293 674 d_Law_law_671 rfl rfl (fun h671 => ?_) (fun h671 => absurd ((q_height hR _).1) h671)
  refine tf_less (kc2 := kc) (ks2 := ks) (by omega) (by omega) ?_
  refine tf_drop [0, 1, 2, 3, 4] rfl ?_
  exact hK (ad) _ _ _ _ _ _ (_) (rfl) (lw_cS (hS2) hT) hT.1 ((q_height hR _).2) (hou) (by rw [hT.2 ou hno]; exact (hB2 ou (Or.inr rfl)).trans fou)
set_option maxHeartbeats 4000000 in
set_option maxRecDepth 100000 in
theorem lw_k10 {QB : tf_B} {kc ks K KS : Nat} (hk1 : kc + 20 ≤ K) (hk2 : ks + 1000 ≤ KS) {m ou b N i : Nat} {xs : Nat → Int32} {ad adm : Nat → Nat} {S : tc_S} {J : Nat → Int32} {A : Nat → Nat → Int32} {R : Nat → Int64} {g : Nat → Int64} (hl : l.stackTraces = false) (hd : 14 ≤ d) (hS : tc_at q ad S (lw_B adm m ou) L f) (hM : tm_ok q adm m J A R L f) (hR : RR S J A R) (hou : ou ∈ L) (fou : f ou = tj q 1 g) (hno : ¬ tm_own adm m ou) (hK : ∀ (ad2 : Nat → Nat) (S2 : tc_S) (J2 : Nat → Int32) (A2 : Nat → Nat → Int32) (R2 : Nat → Int64) (L2 : List Nat) (f2 : tf_F) (g2 : Nat → Int64), ad2 0 = ad 0 → tc_at q ad2 S2 (lw_B adm m ou) L2 f2 → tm_ok q adm m J2 A2 R2 L2 f2 → RR S2 J2 A2 R2 → ou ∈ L2 → f2 ou = tj q 1 g2 → tf_W l (tf_H D q) (tl_EX b N xs) QB d i_Law_law 1293 [(0, .ref b), (1, .ref (ad 0)), (2, .ref m), (3, .ref ou), (4, .int (nI i))] [] L2 f2 kc ks) (hv0 : vp_in (nI i) N) (hv1 : vp_in (nI i + kI 1) N) (hv2 : vp_in (nI i + kI 2) N) (hv3 : vp_in (nI i + kI 3) N) (hv4 : vp_in (nI i + kI 4) N) (hv5 : vp_in (nI i + kI 5) N) (hv6 : vp_in (nI i + kI 6) N) (hv7 : vp_in (nI i + kI 7) N) (hv8 : vp_in (nI i + kI 8) N) : tf_W l (tf_H D q) (tl_EX b N xs) QB d i_Law_law 772 [(0, .ref b), (1, .ref (ad 0)), (2, .ref m), (3, .ref ou), (4, .int (nI i))] [] L f K KS := by
  obtain ⟨hx, fx⟩ := tc_c0 hS
  have hT : tm_at q adm m f L J A R f := ⟨hM, fun _ _ => rfl⟩
  have hBL := lw_BL hM hou
  have hn : S.n ≤ 40 := hR.2.1.1
  have h4 := lw_mm hR
  refine tf_blk _ b_Law_law_772 rfl ?_
  refine tl_sld (fun _ _ h => h.2.1) 779 d_Law_law_778 rfl (hv1) ?_
  refine tf_blk _ b_Law_law_779 rfl ?_
  refine tl_sld (fun _ _ h => h.2.1) 785 d_Law_law_784 rfl (hv2) ?_
  refine tf_cV (tf_gok _ _) (c_Tf_pixel l D q (d - 1) _ _ (by omega) hS _ _ (lw_vp1 hR _ _)) 788 d_Law_law_785 rfl lk_Law_103 cw_Tf_pixel (by rfl) in_Tf_pixel se_Tf_pixel (by exact hx) (by exact fx) (by rfl) (by rfl) (by omega) (by exact Nat.le_of_ble_eq_true rfl) rfl ?_
  rintro v785 L785 f785 ⟨rfl, rfl, rfl⟩
  refine tf_blk _ b_Law_law_788 rfl ?_
  refine tl_sld (fun _ _ h => h.2.1) 795 d_Law_law_794 rfl (hv1) ?_
  refine tf_blk _ b_Law_law_795 rfl ?_
  refine tl_sld (fun _ _ h => h.2.1) 801 d_Law_law_800 rfl (hv2) ?_
  refine tf_cV (tf_gok _ _) (c_Mod_pixel l D q (d - 1) _ _ hT _ _ (lw_vp2 hR _ _)) 804 d_Law_law_801 rfl lk_Law_106 cw_Mod_pixel (by rfl) in_Mod_pixel se_Mod_pixel (by exact hT.1.1) (by exact hT.1.2.1) (by rfl) (by rfl) (by omega) (by exact Nat.le_of_ble_eq_true rfl) rfl ?_
  rintro v801 L801 f801 ⟨rfl, rfl, hT⟩
  refine tf_ic_eq 1293 807 d_Law_law_804 rfl rfl (fun h804 => ?_) (fun h804 => absurd (q_pixel hR _ _) h804)
  refine tf_less (kc2 := kc) (ks2 := ks) (by omega) (by omega) ?_
  refine tf_drop [0, 1, 2, 3, 4] rfl ?_
  exact hK (ad) _ _ _ _ _ _ (_) (rfl) (lw_cS (hS) hT) hT.1 (hR) (hou) (by rw [hT.2 ou hno]; exact fou)
set_option maxHeartbeats 4000000 in
set_option maxRecDepth 100000 in
theorem lw_k11 {QB : tf_B} {kc ks K KS : Nat} (hk1 : kc + 20 ≤ K) (hk2 : ks + 1000 ≤ KS) {m ou b N i : Nat} {xs : Nat → Int32} {ad adm : Nat → Nat} {S : tc_S} {J : Nat → Int32} {A : Nat → Nat → Int32} {R : Nat → Int64} {g : Nat → Int64} (hl : l.stackTraces = false) (hd : 14 ≤ d) (hS : tc_at q ad S (lw_B adm m ou) L f) (hM : tm_ok q adm m J A R L f) (hR : RR S J A R) (hou : ou ∈ L) (fou : f ou = tj q 1 g) (hno : ¬ tm_own adm m ou) (hK : ∀ (ad2 : Nat → Nat) (S2 : tc_S) (J2 : Nat → Int32) (A2 : Nat → Nat → Int32) (R2 : Nat → Int64) (L2 : List Nat) (f2 : tf_F) (g2 : Nat → Int64), ad2 0 = ad 0 → tc_at q ad2 S2 (lw_B adm m ou) L2 f2 → tm_ok q adm m J2 A2 R2 L2 f2 → RR S2 J2 A2 R2 → ou ∈ L2 → f2 ou = tj q 1 g2 → tf_W l (tf_H D q) (tl_EX b N xs) QB d i_Law_law 1293 [(0, .ref b), (1, .ref (ad 0)), (2, .ref m), (3, .ref ou), (4, .int (nI i))] [] L2 f2 kc ks) (hv0 : vp_in (nI i) N) (hv1 : vp_in (nI i + kI 1) N) (hv2 : vp_in (nI i + kI 2) N) (hv3 : vp_in (nI i + kI 3) N) (hv4 : vp_in (nI i + kI 4) N) (hv5 : vp_in (nI i + kI 5) N) (hv6 : vp_in (nI i + kI 6) N) (hv7 : vp_in (nI i + kI 7) N) (hv8 : vp_in (nI i + kI 8) N) : tf_W l (tf_H D q) (tl_EX b N xs) QB d i_Law_law 809 [(0, .ref b), (1, .ref (ad 0)), (2, .ref m), (3, .ref ou), (4, .int (nI i))] [] L f K KS := by
  obtain ⟨hx, fx⟩ := tc_c0 hS
  have hT : tm_at q adm m f L J A R f := ⟨hM, fun _ _ => rfl⟩
  have hBL := lw_BL hM hou
  have hn : S.n ≤ 40 := hR.2.1.1
  have h4 := lw_mm hR
  rcases g_or (n := S.n) (xs (nI i + kI 2).toNatClampNeg) with ⟨gi, hgi, e1⟩ | hg
  · refine tf_blk _ b_Law_law_809 rfl ?_
    refine tl_sld (fun _ _ h => h.2.1) 816 d_Law_law_815 rfl (hv1) ?_
    refine tf_blk _ b_Law_law_816 rfl ?_
    refine tl_sld (fun _ _ h => h.2.1) 822 d_Law_law_821 rfl (hv2) ?_
    refine tf_blk _ b_Law_law_822 rfl ?_
    refine tl_sld (fun _ _ h => h.2.1) 828 d_Law_law_827 rfl (hv3) ?_
    rw [e1]
    refine tf_cV (tf_gok _ _) (c_Tf_sort l D q (d - 1) _ _ (by omega) hS hn hgi _ _) 831 d_Law_law_828 rfl lk_Law_107 cw_Tf_sort (by rfl) in_Tf_sort se_Tf_sort (by exact hx) (by exact fx) (by rfl) (by rfl) (by omega) (by exact Nat.le_of_ble_eq_true rfl) rfl ?_
    rintro v828 L828 f828 ⟨rfl, rfl, hS2, hB2⟩
    have hT : tm_at q adm m f828 _ J A R f828 := tm_mv9 hM (fun _ z => z) (fun z _ hz => hB2 z (Or.inl hz))
    refine tf_blk _ b_Law_law_831 rfl ?_
    refine tl_sld (fun _ _ h => h.2.1) 838 d_Law_law_837 rfl (hv1) ?_
    refine tf_blk _ b_Law_law_838 rfl ?_
    refine tl_sld (fun _ _ h => h.2.1) 844 d_Law_law_843 rfl (hv2) ?_
    refine tf_blk _ b_Law_law_844 rfl ?_
    refine tl_sld (fun _ _ h => h.2.1) 850 d_Law_law_849 rfl (hv3) ?_
    rw [e1]
    refine tf_cV (tf_gok _ _) (c_Mod_sort l D q (d - 1) _ _ (by omega) hT _ _ _ (lw_vg hR _)) 853 d_Law_law_850 rfl lk_Law_110 cw_Mod_sort (by rfl) in_Mod_sort se_Mod_sort (by exact hT.1.1) (by exact hT.1.2.1) (by rfl) (by rfl) (by omega) (by exact Nat.le_of_ble_eq_true rfl) rfl ?_
    rintro v850 L850 f850 ⟨rfl, rfl, hT⟩
    refine tf_ic_eq 1293 856 d_Law_law_853 rfl rfl (fun h853 => ?_) (fun h853 => absurd ((q_sort hR hgi _ _).1) h853)
    refine tf_less (kc2 := kc) (ks2 := ks) (by omega) (by omega) ?_
    refine tf_drop [0, 1, 2, 3, 4] rfl ?_
    exact hK (ad) _ _ _ _ _ _ (_) (rfl) (lw_cS (hS2) hT) hT.1 ((q_sort hR hgi _ _).2) (hou) (by rw [hT.2 ou hno]; exact (hB2 ou (Or.inr rfl)).trans fou)
  · refine tf_blk _ b_Law_law_809 rfl ?_
    refine tl_sld (fun _ _ h => h.2.1) 816 d_Law_law_815 rfl (hv1) ?_
    refine tf_blk _ b_Law_law_816 rfl ?_
    refine tl_sld (fun _ _ h => h.2.1) 822 d_Law_law_821 rfl (hv2) ?_
    refine tf_blk _ b_Law_law_822 rfl ?_
    refine tl_sld (fun _ _ h => h.2.1) 828 d_Law_law_827 rfl (hv3) ?_
    refine tf_cV (tf_gok _ _) (c_Tf_sort_n l D q (d - 1) _ _ (by omega) hS hn hg _ _) 831 d_Law_law_828 rfl lk_Law_107 cw_Tf_sort (by rfl) in_Tf_sort se_Tf_sort (by exact hx) (by exact fx) (by rfl) (by rfl) (by omega) (by exact Nat.le_of_ble_eq_true rfl) rfl ?_
    rintro v828 L828 f828 ⟨rfl, rfl, rfl⟩
    refine tf_blk _ b_Law_law_831 rfl ?_
    refine tl_sld (fun _ _ h => h.2.1) 838 d_Law_law_837 rfl (hv1) ?_
    refine tf_blk _ b_Law_law_838 rfl ?_
    refine tl_sld (fun _ _ h => h.2.1) 844 d_Law_law_843 rfl (hv2) ?_
    refine tf_blk _ b_Law_law_844 rfl ?_
    refine tl_sld (fun _ _ h => h.2.1) 850 d_Law_law_849 rfl (hv3) ?_
    refine tf_cV (tf_gok _ _) (c_Mod_sort l D q (d - 1) _ _ (by omega) hT _ _ _ (lw_vg hR _)) 853 d_Law_law_850 rfl lk_Law_110 cw_Mod_sort (by rfl) in_Mod_sort se_Mod_sort (by exact hT.1.1) (by exact hT.1.2.1) (by rfl) (by rfl) (by omega) (by exact Nat.le_of_ble_eq_true rfl) rfl ?_
    rintro v850 L850 f850 ⟨rfl, rfl, hT⟩
    refine tf_ic_eq 1293 856 d_Law_law_853 rfl rfl (fun h853 => ?_) (fun h853 => absurd (by rw [q_sort_n hR hg]; rfl) h853)
    refine tf_less (kc2 := kc) (ks2 := ks) (by omega) (by omega) ?_
    refine tf_drop [0, 1, 2, 3, 4] rfl ?_
    exact hK (ad) _ _ _ _ _ _ (_) (rfl) (lw_cS (hS) hT) hT.1 (by rw [q_sort_n hR hg]; exact hR) (hou) (by rw [hT.2 ou hno]; exact fou)
set_option maxHeartbeats 4000000 in
set_option maxRecDepth 100000 in
theorem lw_k12 {QB : tf_B} {kc ks K KS : Nat} (hk1 : kc + 20 ≤ K) (hk2 : ks + 1000 ≤ KS) {m ou b N i : Nat} {xs : Nat → Int32} {ad adm : Nat → Nat} {S : tc_S} {J : Nat → Int32} {A : Nat → Nat → Int32} {R : Nat → Int64} {g : Nat → Int64} (hl : l.stackTraces = false) (hd : 14 ≤ d) (hS : tc_at q ad S (lw_B adm m ou) L f) (hM : tm_ok q adm m J A R L f) (hR : RR S J A R) (hou : ou ∈ L) (fou : f ou = tj q 1 g) (hno : ¬ tm_own adm m ou) (hK : ∀ (ad2 : Nat → Nat) (S2 : tc_S) (J2 : Nat → Int32) (A2 : Nat → Nat → Int32) (R2 : Nat → Int64) (L2 : List Nat) (f2 : tf_F) (g2 : Nat → Int64), ad2 0 = ad 0 → tc_at q ad2 S2 (lw_B adm m ou) L2 f2 → tm_ok q adm m J2 A2 R2 L2 f2 → RR S2 J2 A2 R2 → ou ∈ L2 → f2 ou = tj q 1 g2 → tf_W l (tf_H D q) (tl_EX b N xs) QB d i_Law_law 1293 [(0, .ref b), (1, .ref (ad 0)), (2, .ref m), (3, .ref ou), (4, .int (nI i))] [] L2 f2 kc ks) (hv0 : vp_in (nI i) N) (hv1 : vp_in (nI i + kI 1) N) (hv2 : vp_in (nI i + kI 2) N) (hv3 : vp_in (nI i + kI 3) N) (hv4 : vp_in (nI i + kI 4) N) (hv5 : vp_in (nI i + kI 5) N) (hv6 : vp_in (nI i + kI 6) N) (hv7 : vp_in (nI i + kI 7) N) (hv8 : vp_in (nI i + kI 8) N) : tf_W l (tf_H D q) (tl_EX b N xs) QB d i_Law_law 858 [(0, .ref b), (1, .ref (ad 0)), (2, .ref m), (3, .ref ou), (4, .int (nI i))] [] L f K KS := by
  obtain ⟨hx, fx⟩ := tc_c0 hS
  have hT : tm_at q adm m f L J A R f := ⟨hM, fun _ _ => rfl⟩
  have hBL := lw_BL hM hou
  have hn : S.n ≤ 40 := hR.2.1.1
  have h4 := lw_mm hR
  refine tf_blk _ b_Law_law_858 rfl ?_
  refine tl_sld (fun _ _ h => h.2.1) 865 d_Law_law_864 rfl (hv1) ?_
  refine tf_blk _ b_Law_law_865 rfl ?_
  refine tl_sld (fun _ _ h => h.2.1) 871 d_Law_law_870 rfl (hv2) ?_
  refine tf_blk _ b_Law_law_871 rfl ?_
  refine tl_sld (fun _ _ h => h.2.1) 877 d_Law_law_876 rfl (hv3) ?_
  refine tf_cV (tf_gok _ _) (c_Tf_kern l D q (d - 1) _ _ (by omega) hS _ _ _) 880 d_Law_law_877 rfl lk_Law_111 cw_Tf_kern (by rfl) in_Tf_kern se_Tf_kern (by exact hx) (by exact fx) (by rfl) (by rfl) (by omega) (by exact Nat.le_of_ble_eq_true rfl) rfl ?_
  rintro v877 L877 f877 ⟨rfl, rfl, hS2, hB2⟩
  have hT : tm_at q adm m f877 _ J A R f877 := tm_mv9 hM (fun _ z => z) (fun z _ hz => hB2 z (Or.inl hz))
  refine tf_blk _ b_Law_law_880 rfl ?_
  refine tl_sld (fun _ _ h => h.2.1) 887 d_Law_law_886 rfl (hv1) ?_
  refine tf_blk _ b_Law_law_887 rfl ?_
  refine tl_sld (fun _ _ h => h.2.1) 893 d_Law_law_892 rfl (hv2) ?_
  refine tf_blk _ b_Law_law_893 rfl ?_
  refine tl_sld (fun _ _ h => h.2.1) 899 d_Law_law_898 rfl (hv3) ?_
  refine tf_cV (tf_gok _ _) (c_Mod_kern l D q (d - 1) _ _ (by omega) hT _ _ _ lw_kv) 902 d_Law_law_899 rfl lk_Law_114 cw_Mod_kern (by rfl) in_Mod_kern se_Mod_kern (by exact hT.1.1) (by exact hT.1.2.1) (by rfl) (by rfl) (by omega) (by exact Nat.le_of_ble_eq_true rfl) rfl ?_
  rintro v899 L899 f899 ⟨rfl, rfl, hT⟩
  refine tf_ic_eq 1293 905 d_Law_law_902 rfl rfl (fun h902 => ?_) (fun h902 => absurd ((q_kern hR _ _ _).1) h902)
  refine tf_less (kc2 := kc) (ks2 := ks) (by omega) (by omega) ?_
  refine tf_drop [0, 1, 2, 3, 4] rfl ?_
  exact hK (ad) _ _ _ _ _ _ (_) (rfl) (lw_cS (hS2) hT) hT.1 ((q_kern hR _ _ _).2) (hou) (by rw [hT.2 ou hno]; exact (hB2 ou (Or.inr rfl)).trans fou)
set_option maxHeartbeats 4000000 in
set_option maxRecDepth 100000 in
theorem lw_k15 {QB : tf_B} {kc ks K KS : Nat} (hk1 : kc + 20 ≤ K) (hk2 : ks + 1000 ≤ KS) {m ou b N i : Nat} {xs : Nat → Int32} {ad adm : Nat → Nat} {S : tc_S} {J : Nat → Int32} {A : Nat → Nat → Int32} {R : Nat → Int64} {g : Nat → Int64} (hl : l.stackTraces = false) (hd : 14 ≤ d) (hS : tc_at q ad S (lw_B adm m ou) L f) (hM : tm_ok q adm m J A R L f) (hR : RR S J A R) (hou : ou ∈ L) (fou : f ou = tj q 1 g) (hno : ¬ tm_own adm m ou) (hK : ∀ (ad2 : Nat → Nat) (S2 : tc_S) (J2 : Nat → Int32) (A2 : Nat → Nat → Int32) (R2 : Nat → Int64) (L2 : List Nat) (f2 : tf_F) (g2 : Nat → Int64), ad2 0 = ad 0 → tc_at q ad2 S2 (lw_B adm m ou) L2 f2 → tm_ok q adm m J2 A2 R2 L2 f2 → RR S2 J2 A2 R2 → ou ∈ L2 → f2 ou = tj q 1 g2 → tf_W l (tf_H D q) (tl_EX b N xs) QB d i_Law_law 1293 [(0, .ref b), (1, .ref (ad 0)), (2, .ref m), (3, .ref ou), (4, .int (nI i))] [] L2 f2 kc ks) (hv0 : vp_in (nI i) N) (hv1 : vp_in (nI i + kI 1) N) (hv2 : vp_in (nI i + kI 2) N) (hv3 : vp_in (nI i + kI 3) N) (hv4 : vp_in (nI i + kI 4) N) (hv5 : vp_in (nI i + kI 5) N) (hv6 : vp_in (nI i + kI 6) N) (hv7 : vp_in (nI i + kI 7) N) (hv8 : vp_in (nI i + kI 8) N) : tf_W l (tf_H D q) (tl_EX b N xs) QB d i_Law_law 1162 [(0, .ref b), (1, .ref (ad 0)), (2, .ref m), (3, .ref ou), (4, .int (nI i))] [] L f K KS := by
  obtain ⟨hx, fx⟩ := tc_c0 hS
  have hT : tm_at q adm m f L J A R f := ⟨hM, fun _ _ => rfl⟩
  have hBL := lw_BL hM hou
  have hn : S.n ≤ 40 := hR.2.1.1
  have h4 := lw_mm hR
  rcases g_or (n := S.n) (xs (nI i + kI 1).toNatClampNeg) with ⟨gi, hgi, e1⟩ | hg
  · refine tf_blk _ b_Law_law_1162 rfl ?_
    refine tl_sld (fun _ _ h => h.2.1) 1169 d_Law_law_1168 rfl (hv1) ?_
    rw [e1]
    refine tf_cV (tf_gok _ _) (c_Tf_type l D q (d - 1) _ _ (by omega) hS hn hgi hR.2.2.2.2.2.2.2.1.1) 1172 d_Law_law_1169 rfl lk_Law_125 cw_Tf_type (by rfl) in_Tf_type se_Tf_type (by exact hx) (by exact fx) (by rfl) (by rfl) (by omega) (by exact Nat.le_of_ble_eq_true rfl) rfl ?_
    rintro v1169 L1169 f1169 ⟨rfl, rfl, hS2, hB2⟩
    have hT : tm_at q adm m f1169 _ J A R f1169 := tm_mv9 hM (fun _ z => z) (fun z _ hz => hB2 z (Or.inl hz))
    refine tf_blk _ b_Law_law_1172 rfl ?_
    refine tl_sld (fun _ _ h => h.2.1) 1179 d_Law_law_1178 rfl (hv1) ?_
    rw [e1]
    refine tf_cV (tf_gok _ _) (c_Mod_type l D q (d - 1) _ _ (by omega) hT _ (lw_vt hR)) 1182 d_Law_law_1179 rfl lk_Law_128 cw_Mod_type (by rfl) in_Mod_type se_Mod_type (by exact hT.1.1) (by exact hT.1.2.1) (by rfl) (by rfl) (by omega) (by exact Nat.le_of_ble_eq_true rfl) rfl ?_
    rintro v1179 L1179 f1179 ⟨rfl, rfl, hT⟩
    refine tf_ic_eq 1293 1185 d_Law_law_1182 rfl rfl (fun h1182 => ?_) (fun h1182 => absurd ((q_type hR hgi).1) h1182)
    refine tf_less (kc2 := kc) (ks2 := ks) (by omega) (by omega) ?_
    refine tf_drop [0, 1, 2, 3, 4] rfl ?_
    exact hK (ad) _ _ _ _ _ _ (_) (rfl) (lw_cS (hS2) hT) hT.1 ((q_type hR hgi).2) (hou) (by rw [hT.2 ou hno]; exact (hB2 ou (Or.inr rfl)).trans fou)
  · refine tf_blk _ b_Law_law_1162 rfl ?_
    refine tl_sld (fun _ _ h => h.2.1) 1169 d_Law_law_1168 rfl (hv1) ?_
    refine tf_cV (tf_gok _ _) (c_Tf_type_n l D q (d - 1) _ _ (by omega) hS hn hg) 1172 d_Law_law_1169 rfl lk_Law_125 cw_Tf_type (by rfl) in_Tf_type se_Tf_type (by exact hx) (by exact fx) (by rfl) (by rfl) (by omega) (by exact Nat.le_of_ble_eq_true rfl) rfl ?_
    rintro v1169 L1169 f1169 ⟨rfl, rfl, rfl⟩
    refine tf_blk _ b_Law_law_1172 rfl ?_
    refine tl_sld (fun _ _ h => h.2.1) 1179 d_Law_law_1178 rfl (hv1) ?_
    refine tf_cV (tf_gok _ _) (c_Mod_type l D q (d - 1) _ _ (by omega) hT _ (fun _ => lw_vt hR ‹_›)) 1182 d_Law_law_1179 rfl lk_Law_128 cw_Mod_type (by rfl) in_Mod_type se_Mod_type (by exact hT.1.1) (by exact hT.1.2.1) (by rfl) (by rfl) (by omega) (by exact Nat.le_of_ble_eq_true rfl) rfl ?_
    rintro v1179 L1179 f1179 ⟨rfl, rfl, hT⟩
    refine tf_ic_eq 1293 1185 d_Law_law_1182 rfl rfl (fun h1182 => ?_) (fun h1182 => absurd (by rw [q_type_n hR hg]; rfl) h1182)
    refine tf_less (kc2 := kc) (ks2 := ks) (by omega) (by omega) ?_
    refine tf_drop [0, 1, 2, 3, 4] rfl ?_
    exact hK (ad) _ _ _ _ _ _ (_) (rfl) (lw_cS (hS) hT) hT.1 (by rw [q_type_n hR hg]; exact hR) (hou) (by rw [hT.2 ou hno]; exact fou)
set_option maxHeartbeats 4000000 in
set_option maxRecDepth 100000 in
theorem lw_k16 {QB : tf_B} {kc ks K KS : Nat} (hk1 : kc + 20 ≤ K) (hk2 : ks + 1000 ≤ KS) {m ou b N i : Nat} {xs : Nat → Int32} {ad adm : Nat → Nat} {S : tc_S} {J : Nat → Int32} {A : Nat → Nat → Int32} {R : Nat → Int64} {g : Nat → Int64} (hl : l.stackTraces = false) (hd : 14 ≤ d) (hS : tc_at q ad S (lw_B adm m ou) L f) (hM : tm_ok q adm m J A R L f) (hR : RR S J A R) (hou : ou ∈ L) (fou : f ou = tj q 1 g) (hno : ¬ tm_own adm m ou) (hK : ∀ (ad2 : Nat → Nat) (S2 : tc_S) (J2 : Nat → Int32) (A2 : Nat → Nat → Int32) (R2 : Nat → Int64) (L2 : List Nat) (f2 : tf_F) (g2 : Nat → Int64), ad2 0 = ad 0 → tc_at q ad2 S2 (lw_B adm m ou) L2 f2 → tm_ok q adm m J2 A2 R2 L2 f2 → RR S2 J2 A2 R2 → ou ∈ L2 → f2 ou = tj q 1 g2 → tf_W l (tf_H D q) (tl_EX b N xs) QB d i_Law_law 1293 [(0, .ref b), (1, .ref (ad 0)), (2, .ref m), (3, .ref ou), (4, .int (nI i))] [] L2 f2 kc ks) (hv0 : vp_in (nI i) N) (hv1 : vp_in (nI i + kI 1) N) (hv2 : vp_in (nI i + kI 2) N) (hv3 : vp_in (nI i + kI 3) N) (hv4 : vp_in (nI i + kI 4) N) (hv5 : vp_in (nI i + kI 5) N) (hv6 : vp_in (nI i + kI 6) N) (hv7 : vp_in (nI i + kI 7) N) (hv8 : vp_in (nI i + kI 8) N) : tf_W l (tf_H D q) (tl_EX b N xs) QB d i_Law_law 1187 [(0, .ref b), (1, .ref (ad 0)), (2, .ref m), (3, .ref ou), (4, .int (nI i))] [] L f K KS := by
  obtain ⟨hx, fx⟩ := tc_c0 hS
  have hT : tm_at q adm m f L J A R f := ⟨hM, fun _ _ => rfl⟩
  have hBL := lw_BL hM hou
  have hn : S.n ≤ 40 := hR.2.1.1
  have h4 := lw_mm hR
  obtain ⟨rr, hrr⟩ : ∃ rr, rr = tm_rows A R S.rn 8 0 (tm_cp (A 49) S.ts 0 (A 51), S.ts, kI 0) := ⟨_, rfl⟩
  refine tf_blk _ b_Law_law_1187 rfl ?_
  refine tf_cV (tf_gok _ _) (c_Tf_shape l D q (d - 1) _ _ (by omega) hS hR.2.2.2.2.2.2.2.1.1 hR.2.2.2.2.2.2.2.2.1.1 hR.2.2.2.2.2.2.1.1 (fun j hj => (hR.2.2.2.2.2.2.1.2.2 j hj).2.2.2.2.2.1)) 1191 d_Law_law_1188 rfl lk_Law_129 cw_Tf_shape (by rfl) in_Tf_shape se_Tf_shape (by exact hx) (by exact fx) (by rfl) (by rfl) (by omega) (by exact Nat.le_of_ble_eq_true rfl) rfl ?_
  rintro v1188 L1188 f1188 ⟨rfl, rfl, hS2, hB2⟩
  have hT : tm_at q adm m f1188 _ J A R f1188 := tm_mv9 hM (fun _ z => z) (fun z _ hz => hB2 z (Or.inl hz))
  refine tf_blk _ b_Law_law_1191 rfl ?_
  refine tf_cV (tf_gok _ _) (c_Mod_shape l D q (d - 1) _ _ (by omega) hT hR.2.2.2.2.2.2.2.1.1 hR.2.2.2.2.2.2.2.1.2.1 hR.2.2.2.2.2.2.1.1 hR.2.2.2.2.2.2.1.2.1 hrr) 1195 d_Law_law_1192 rfl lk_Law_132 cw_Mod_shape (by rfl) in_Mod_shape se_Mod_shape (by exact hT.1.1) (by exact hT.1.2.1) (by rfl) (by rfl) (by omega) (by exact Nat.le_of_ble_eq_true rfl) rfl ?_
  rintro v1192 L1192 f1192 ⟨rfl, rfl, hT⟩
  refine tf_ic_eq 1293 1198 d_Law_law_1195 rfl rfl (fun h1195 => ?_) (fun h1195 => absurd ((q_shape hR hrr).1) h1195)
  refine tf_less (kc2 := kc) (ks2 := ks) (by omega) (by omega) ?_
  refine tf_drop [0, 1, 2, 3, 4] rfl ?_
  exact hK (ad) _ _ _ _ _ _ (_) (rfl) (lw_cS (hS2) hT) hT.1 ((q_shape hR hrr).2) (hou) (by rw [hT.2 ou hno]; exact (hB2 ou (Or.inr rfl)).trans fou)
set_option maxHeartbeats 4000000 in
set_option maxRecDepth 100000 in
theorem lw_k18 {QB : tf_B} {kc ks K KS : Nat} (hk1 : kc + 20 ≤ K) (hk2 : ks + 1000 ≤ KS) {m ou b N i : Nat} {xs : Nat → Int32} {ad adm : Nat → Nat} {S : tc_S} {J : Nat → Int32} {A : Nat → Nat → Int32} {R : Nat → Int64} {g : Nat → Int64} (hl : l.stackTraces = false) (hd : 14 ≤ d) (hS : tc_at q ad S (lw_B adm m ou) L f) (hM : tm_ok q adm m J A R L f) (hR : RR S J A R) (hou : ou ∈ L) (fou : f ou = tj q 1 g) (hno : ¬ tm_own adm m ou) (hK : ∀ (ad2 : Nat → Nat) (S2 : tc_S) (J2 : Nat → Int32) (A2 : Nat → Nat → Int32) (R2 : Nat → Int64) (L2 : List Nat) (f2 : tf_F) (g2 : Nat → Int64), ad2 0 = ad 0 → tc_at q ad2 S2 (lw_B adm m ou) L2 f2 → tm_ok q adm m J2 A2 R2 L2 f2 → RR S2 J2 A2 R2 → ou ∈ L2 → f2 ou = tj q 1 g2 → tf_W l (tf_H D q) (tl_EX b N xs) QB d i_Law_law 1293 [(0, .ref b), (1, .ref (ad 0)), (2, .ref m), (3, .ref ou), (4, .int (nI i))] [] L2 f2 kc ks) (hv0 : vp_in (nI i) N) (hv1 : vp_in (nI i + kI 1) N) (hv2 : vp_in (nI i + kI 2) N) (hv3 : vp_in (nI i + kI 3) N) (hv4 : vp_in (nI i + kI 4) N) (hv5 : vp_in (nI i + kI 5) N) (hv6 : vp_in (nI i + kI 6) N) (hv7 : vp_in (nI i + kI 7) N) (hv8 : vp_in (nI i + kI 8) N) : tf_W l (tf_H D q) (tl_EX b N xs) QB d i_Law_law 1268 [(0, .ref b), (1, .ref (ad 0)), (2, .ref m), (3, .ref ou), (4, .int (nI i))] [] L f K KS := by
  obtain ⟨hx, fx⟩ := tc_c0 hS
  have hT : tm_at q adm m f L J A R f := ⟨hM, fun _ _ => rfl⟩
  have hBL := lw_BL hM hou
  have hn : S.n ≤ 40 := hR.2.1.1
  have h4 := lw_mm hR
  refine tf_blk _ b_Law_law_1268 rfl ?_
  refine tl_sld (fun _ _ h => h.2.1) 1275 d_Law_law_1274 rfl (hv1) ?_
  refine tf_cV (tf_gok _ _) (c_Tf_count l D q (d - 1) _ _ hS _) 1278 d_Law_law_1275 rfl lk_Law_137 cw_Tf_count (by rfl) in_Tf_count se_Tf_count (by exact hx) (by exact fx) (by rfl) (by rfl) (by omega) (by exact Nat.le_of_ble_eq_true rfl) rfl ?_
  rintro v1275 L1275 f1275 ⟨rfl, rfl, rfl⟩
  refine tf_blk _ b_Law_law_1278 rfl ?_
  refine tl_sld (fun _ _ h => h.2.1) 1285 d_Law_law_1284 rfl (hv1) ?_
  refine tf_cV (tf_gok _ _) (c_Mod_count l D q (d - 1) _ _ hT _) 1288 d_Law_law_1285 rfl lk_Law_141 cw_Mod_count (by rfl) in_Mod_count se_Mod_count (by exact hT.1.1) (by exact hT.1.2.1) (by rfl) (by rfl) (by omega) (by exact Nat.le_of_ble_eq_true rfl) rfl ?_
  rintro v1285 L1285 f1285 ⟨rfl, rfl, hT⟩
  refine tf_ic_eq 1293 1291 d_Law_law_1288 rfl rfl (fun h1288 => ?_) (fun h1288 => absurd ((q_count hR _).1) h1288)
  refine tf_less (kc2 := kc) (ks2 := ks) (by omega) (by omega) ?_
  refine tf_drop [0, 1, 2, 3, 4] rfl ?_
  exact hK (ad) _ _ _ _ _ _ (_) (rfl) (lw_cS (hS) hT) hT.1 (hR.t _) (hou) (by rw [hT.2 ou hno]; exact fou)
set_option maxHeartbeats 4000000 in
set_option maxRecDepth 100000 in
theorem lw_k13 {QB : tf_B} {kc ks K KS : Nat} (hk1 : kc + 20 ≤ K) (hk2 : ks + 1000 ≤ KS) {m ou b N i : Nat} {xs : Nat → Int32} {ad adm : Nat → Nat} {S : tc_S} {J : Nat → Int32} {A : Nat → Nat → Int32} {R : Nat → Int64} {g : Nat → Int64} (hl : l.stackTraces = false) (hd : 14 ≤ d) (hS : tc_at q ad S (lw_B adm m ou) L f) (hM : tm_ok q adm m J A R L f) (hR : RR S J A R) (hou : ou ∈ L) (fou : f ou = tj q 1 g) (hno : ¬ tm_own adm m ou) (hK : ∀ (ad2 : Nat → Nat) (S2 : tc_S) (J2 : Nat → Int32) (A2 : Nat → Nat → Int32) (R2 : Nat → Int64) (L2 : List Nat) (f2 : tf_F) (g2 : Nat → Int64), ad2 0 = ad 0 → tc_at q ad2 S2 (lw_B adm m ou) L2 f2 → tm_ok q adm m J2 A2 R2 L2 f2 → RR S2 J2 A2 R2 → ou ∈ L2 → f2 ou = tj q 1 g2 → tf_W l (tf_H D q) (tl_EX b N xs) QB d i_Law_law 1293 [(0, .ref b), (1, .ref (ad 0)), (2, .ref m), (3, .ref ou), (4, .int (nI i))] [] L2 f2 kc ks) (hv0 : vp_in (nI i) N) (hv1 : vp_in (nI i + kI 1) N) (hv2 : vp_in (nI i + kI 2) N) (hv3 : vp_in (nI i + kI 3) N) (hv4 : vp_in (nI i + kI 4) N) (hv5 : vp_in (nI i + kI 5) N) (hv6 : vp_in (nI i + kI 6) N) (hv7 : vp_in (nI i + kI 7) N) (hv8 : vp_in (nI i + kI 8) N) : tf_W l (tf_H D q) (tl_EX b N xs) QB d i_Law_law 907 [(0, .ref b), (1, .ref (ad 0)), (2, .ref m), (3, .ref ou), (4, .int (nI i))] [] L f K KS := by
  obtain ⟨hx, fx⟩ := tc_c0 hS
  have hT : tm_at q adm m f L J A R f := ⟨hM, fun _ _ => rfl⟩
  have hBL := lw_BL hM hou
  have hn : S.n ≤ 40 := hR.2.1.1
  have h4 := lw_mm hR
  rcases g_or (n := S.n) (xs (nI i + kI 1).toNatClampNeg) with ⟨gi, hgi, e1⟩ | hg
  · rcases g_or (n := S.n) (xs (nI i + kI 2).toNatClampNeg) with ⟨gj, hgj, e2⟩ | hg
    · rcases isK_or (xs (nI i + kI 3).toNatClampNeg) with hk | hk
      · rcases pair_at hR hgi hgj with ⟨p1, p2⟩ | ⟨p1, p2, p3⟩
        · refine tf_blk _ b_Law_law_907 rfl ?_
          refine tl_sld (fun _ _ h => h.2.1) 914 d_Law_law_913 rfl (hv1) ?_
          refine tf_blk _ b_Law_law_914 rfl ?_
          refine tl_sld (fun _ _ h => h.2.1) 920 d_Law_law_919 rfl (hv2) ?_
          refine tf_blk _ b_Law_law_920 rfl ?_
          refine tl_sld (fun _ _ h => h.2.1) 926 d_Law_law_925 rfl (hv3) ?_
          rw [e1, e2]
          refine tf_cV (tf_gok _ _) (c_Tf_pair l D q (d - 1) _ _ (by omega) hS hn hR.2.2.2.2.2.1.1 hgi hgj _) 929 d_Law_law_926 rfl lk_Law_115 cw_Tf_pair (by rfl) in_Tf_pair se_Tf_pair (by exact hx) (by exact fx) (by rfl) (by rfl) (by omega) (by exact Nat.le_of_ble_eq_true rfl) rfl ?_
          rintro v926 L926 f926 ⟨rfl, rfl, hS2, hB2⟩
          have hT : tm_at q adm m f926 _ J A R f926 := tm_mv9 hM (fun _ z => z) (fun z _ hz => hB2 z (Or.inl hz))
          refine tf_blk _ b_Law_law_929 rfl ?_
          refine tl_sld (fun _ _ h => h.2.1) 936 d_Law_law_935 rfl (hv1) ?_
          refine tf_blk _ b_Law_law_936 rfl ?_
          refine tl_sld (fun _ _ h => h.2.1) 942 d_Law_law_941 rfl (hv2) ?_
          refine tf_blk _ b_Law_law_942 rfl ?_
          refine tl_sld (fun _ _ h => h.2.1) 948 d_Law_law_947 rfl (hv3) ?_
          rw [e1, e2]
          refine tf_cV (tf_gok _ _) (c_Mod_pair_old l D q (d - 1) _ _ (by omega) hT hR.2.2.2.2.2.1.1 (show tm_J0 J 41 = nI S.kp from hR.2.2.2.2.2.1.2.1) _ _ _ (lw_G (J := tm_J0 J) hR hgi) (lw_G (J := tm_J0 J) hR hgj) (by rw [isK_in]; exact hk) p1 p2) 951 d_Law_law_948 rfl lk_Law_118 cw_Mod_pair (by rfl) in_Mod_pair se_Mod_pair (by exact hT.1.1) (by exact hT.1.2.1) (by rfl) (by rfl) (by omega) (by exact Nat.le_of_ble_eq_true rfl) rfl ?_
          rintro v948 L948 f948 ⟨rfl, rfl, hT⟩
          refine tf_ic_eq 1293 954 d_Law_law_951 rfl rfl (fun h951 => ?_) (fun h951 => absurd ((q_pair_old hR hgi hgj hk p1).1) h951)
          refine tf_less (kc2 := kc) (ks2 := ks) (by omega) (by omega) ?_
          refine tf_drop [0, 1, 2, 3, 4] rfl ?_
          exact hK (ad) _ _ _ _ _ _ (_) (rfl) (lw_cS (hS2) hT) hT.1 ((q_pair_old hR hgi hgj hk p1).2) (hou) (by rw [hT.2 ou hno]; exact (hB2 ou (Or.inr rfl)).trans fou)
        · by_cases k40 : S.kp = 40
          · refine tf_blk _ b_Law_law_907 rfl ?_
            refine tl_sld (fun _ _ h => h.2.1) 914 d_Law_law_913 rfl (hv1) ?_
            refine tf_blk _ b_Law_law_914 rfl ?_
            refine tl_sld (fun _ _ h => h.2.1) 920 d_Law_law_919 rfl (hv2) ?_
            refine tf_blk _ b_Law_law_920 rfl ?_
            refine tl_sld (fun _ _ h => h.2.1) 926 d_Law_law_925 rfl (hv3) ?_
            rw [e1, e2]
            refine tf_cV (tf_gok _ _) (c_Tf_pair l D q (d - 1) _ _ (by omega) hS hn hR.2.2.2.2.2.1.1 hgi hgj _) 929 d_Law_law_926 rfl lk_Law_115 cw_Tf_pair (by rfl) in_Tf_pair se_Tf_pair (by exact hx) (by exact fx) (by rfl) (by rfl) (by omega) (by exact Nat.le_of_ble_eq_true rfl) rfl ?_
            rintro v926 L926 f926 ⟨rfl, rfl, hS2, hB2⟩
            have hT : tm_at q adm m f926 _ J A R f926 := tm_mv9 hM (fun _ z => z) (fun z _ hz => hB2 z (Or.inl hz))
            refine tf_blk _ b_Law_law_929 rfl ?_
            refine tl_sld (fun _ _ h => h.2.1) 936 d_Law_law_935 rfl (hv1) ?_
            refine tf_blk _ b_Law_law_936 rfl ?_
            refine tl_sld (fun _ _ h => h.2.1) 942 d_Law_law_941 rfl (hv2) ?_
            refine tf_blk _ b_Law_law_942 rfl ?_
            refine tl_sld (fun _ _ h => h.2.1) 948 d_Law_law_947 rfl (hv3) ?_
            rw [e1, e2]
            refine tf_cV (tf_gok _ _) (c_Mod_pair_40 l D q (d - 1) _ _ (by omega) hT hR.2.2.2.2.2.1.1 (show tm_J0 J 41 = nI S.kp from hR.2.2.2.2.2.1.2.1) _ _ _ (lw_G (J := tm_J0 J) hR hgi) (lw_G (J := tm_J0 J) hR hgj) (by rw [isK_in]; exact hk) p2 k40) 951 d_Law_law_948 rfl lk_Law_118 cw_Mod_pair (by rfl) in_Mod_pair se_Mod_pair (by exact hT.1.1) (by exact hT.1.2.1) (by rfl) (by rfl) (by omega) (by exact Nat.le_of_ble_eq_true rfl) rfl ?_
            rintro v948 L948 f948 ⟨rfl, rfl, hT⟩
            refine tf_ic_eq 1293 954 d_Law_law_951 rfl rfl (fun h951 => ?_) (fun h951 => absurd (by rw [q_pair_40 p1 k40]) h951)
            refine tf_less (kc2 := kc) (ks2 := ks) (by omega) (by omega) ?_
            refine tf_drop [0, 1, 2, 3, 4] rfl ?_
            exact hK (ad) _ _ _ _ _ _ (_) (rfl) (lw_cS (hS2) hT) hT.1 (by rw [q_pair_40 p1 k40]; exact hR) (hou) (by rw [hT.2 ou hno]; exact (hB2 ou (Or.inr rfl)).trans fou)
          have k40b : S.kp < 40 := by have := hR.2.2.2.2.2.1.1; omega
          refine tf_blk _ b_Law_law_907 rfl ?_
          refine tl_sld (fun _ _ h => h.2.1) 914 d_Law_law_913 rfl (hv1) ?_
          refine tf_blk _ b_Law_law_914 rfl ?_
          refine tl_sld (fun _ _ h => h.2.1) 920 d_Law_law_919 rfl (hv2) ?_
          refine tf_blk _ b_Law_law_920 rfl ?_
          refine tl_sld (fun _ _ h => h.2.1) 926 d_Law_law_925 rfl (hv3) ?_
          rw [e1, e2]
          refine tf_cV (tf_gok _ _) (c_Tf_pair l D q (d - 1) _ _ (by omega) hS hn hR.2.2.2.2.2.1.1 hgi hgj _) 929 d_Law_law_926 rfl lk_Law_115 cw_Tf_pair (by rfl) in_Tf_pair se_Tf_pair (by exact hx) (by exact fx) (by rfl) (by rfl) (by omega) (by exact Nat.le_of_ble_eq_true rfl) rfl ?_
          rintro v926 L926 f926 ⟨rfl, rfl, hS2, hB2⟩
          have hT : tm_at q adm m f926 _ J A R f926 := tm_mv9 hM (fun _ z => z) (fun z _ hz => hB2 z (Or.inl hz))
          refine tf_blk _ b_Law_law_929 rfl ?_
          refine tl_sld (fun _ _ h => h.2.1) 936 d_Law_law_935 rfl (hv1) ?_
          refine tf_blk _ b_Law_law_936 rfl ?_
          refine tl_sld (fun _ _ h => h.2.1) 942 d_Law_law_941 rfl (hv2) ?_
          refine tf_blk _ b_Law_law_942 rfl ?_
          refine tl_sld (fun _ _ h => h.2.1) 948 d_Law_law_947 rfl (hv3) ?_
          rw [e1, e2]
          refine tf_cV (tf_gok _ _) (c_Mod_pair_new l D q (d - 1) _ _ (by omega) hT hR.2.2.2.2.2.1.1 (show tm_J0 J 41 = nI S.kp from hR.2.2.2.2.2.1.2.1) _ _ _ (lw_G (J := tm_J0 J) hR hgi) (lw_G (J := tm_J0 J) hR hgj) (by rw [isK_in]; exact hk) p2 k40b) 951 d_Law_law_948 rfl lk_Law_118 cw_Mod_pair (by rfl) in_Mod_pair se_Mod_pair (by exact hT.1.1) (by exact hT.1.2.1) (by rfl) (by rfl) (by omega) (by exact Nat.le_of_ble_eq_true rfl) rfl ?_
          rintro v948 L948 f948 ⟨rfl, rfl, hT⟩
          refine tf_ic_eq 1293 954 d_Law_law_951 rfl rfl (fun h951 => ?_) (fun h951 => absurd ((q_pair_new hR hgi hgj hk p1 p3 k40b).1) h951)
          refine tf_less (kc2 := kc) (ks2 := ks) (by omega) (by omega) ?_
          refine tf_drop [0, 1, 2, 3, 4] rfl ?_
          exact hK (ad) _ _ _ _ _ _ (_) (rfl) (lw_cS (hS2) hT) hT.1 ((q_pair_new hR hgi hgj hk p1 p3 k40b).2) (hou) (by rw [hT.2 ou hno]; exact (hB2 ou (Or.inr rfl)).trans fou)
      · refine tf_blk _ b_Law_law_907 rfl ?_
        refine tl_sld (fun _ _ h => h.2.1) 914 d_Law_law_913 rfl (hv1) ?_
        refine tf_blk _ b_Law_law_914 rfl ?_
        refine tl_sld (fun _ _ h => h.2.1) 920 d_Law_law_919 rfl (hv2) ?_
        refine tf_blk _ b_Law_law_920 rfl ?_
        refine tl_sld (fun _ _ h => h.2.1) 926 d_Law_law_925 rfl (hv3) ?_
        rw [e1, e2]
        refine tf_cV (tf_gok _ _) (c_Tf_pair l D q (d - 1) _ _ (by omega) hS hn hR.2.2.2.2.2.1.1 hgi hgj _) 929 d_Law_law_926 rfl lk_Law_115 cw_Tf_pair (by rfl) in_Tf_pair se_Tf_pair (by exact hx) (by exact fx) (by rfl) (by rfl) (by omega) (by exact Nat.le_of_ble_eq_true rfl) rfl ?_
        rintro v926 L926 f926 ⟨rfl, rfl, hS2, hB2⟩
        have hT : tm_at q adm m f926 _ J A R f926 := tm_mv9 hM (fun _ z => z) (fun z _ hz => hB2 z (Or.inl hz))
        refine tf_blk _ b_Law_law_929 rfl ?_
        refine tl_sld (fun _ _ h => h.2.1) 936 d_Law_law_935 rfl (hv1) ?_
        refine tf_blk _ b_Law_law_936 rfl ?_
        refine tl_sld (fun _ _ h => h.2.1) 942 d_Law_law_941 rfl (hv2) ?_
        refine tf_blk _ b_Law_law_942 rfl ?_
        refine tl_sld (fun _ _ h => h.2.1) 948 d_Law_law_947 rfl (hv3) ?_
        rw [e1, e2]
        refine tf_cV (tf_gok _ _) (c_Mod_pair_f l D q (d - 1) _ _ (by omega) hT _ _ _ (fun z => by rw [isK_in, hk] at z; exact absurd z.2.2 (by decide))) 951 d_Law_law_948 rfl lk_Law_118 cw_Mod_pair (by rfl) in_Mod_pair se_Mod_pair (by exact hT.1.1) (by exact hT.1.2.1) (by rfl) (by rfl) (by omega) (by exact Nat.le_of_ble_eq_true rfl) rfl ?_
        rintro v948 L948 f948 ⟨rfl, rfl, hT⟩
        refine tf_ic_eq 1293 954 d_Law_law_951 rfl rfl (fun h951 => ?_) (fun h951 => absurd (by rw [q_pair_f hk]) h951)
        refine tf_less (kc2 := kc) (ks2 := ks) (by omega) (by omega) ?_
        refine tf_drop [0, 1, 2, 3, 4] rfl ?_
        exact hK (ad) _ _ _ _ _ _ (_) (rfl) (lw_cS (hS2) hT) hT.1 (by rw [q_pair_f hk]; exact hR) (hou) (by rw [hT.2 ou hno]; exact (hB2 ou (Or.inr rfl)).trans fou)
    · refine tf_blk _ b_Law_law_907 rfl ?_
      refine tl_sld (fun _ _ h => h.2.1) 914 d_Law_law_913 rfl (hv1) ?_
      refine tf_blk _ b_Law_law_914 rfl ?_
      refine tl_sld (fun _ _ h => h.2.1) 920 d_Law_law_919 rfl (hv2) ?_
      refine tf_blk _ b_Law_law_920 rfl ?_
      refine tl_sld (fun _ _ h => h.2.1) 926 d_Law_law_925 rfl (hv3) ?_
      rw [e1]
      refine tf_cV (tf_gok _ _) (c_Tf_pair_n2 l D q (d - 1) _ _ (by omega) hS hn hgi hg _) 929 d_Law_law_926 rfl lk_Law_115 cw_Tf_pair (by rfl) in_Tf_pair se_Tf_pair (by exact hx) (by exact fx) (by rfl) (by rfl) (by omega) (by exact Nat.le_of_ble_eq_true rfl) rfl ?_
      rintro v926 L926 f926 ⟨rfl, rfl, rfl⟩
      refine tf_blk _ b_Law_law_929 rfl ?_
      refine tl_sld (fun _ _ h => h.2.1) 936 d_Law_law_935 rfl (hv1) ?_
      refine tf_blk _ b_Law_law_936 rfl ?_
      refine tl_sld (fun _ _ h => h.2.1) 942 d_Law_law_941 rfl (hv2) ?_
      refine tf_blk _ b_Law_law_942 rfl ?_
      refine tl_sld (fun _ _ h => h.2.1) 948 d_Law_law_947 rfl (hv3) ?_
      rw [e1]
      refine tf_cV (tf_gok _ _) (c_Mod_pair_f l D q (d - 1) _ _ (by omega) hT _ _ _ (fun z => by rw [lw_Gn (J := tm_J0 J) hR hg] at z; exact absurd z.2.1 (by decide))) 951 d_Law_law_948 rfl lk_Law_118 cw_Mod_pair (by rfl) in_Mod_pair se_Mod_pair (by exact hT.1.1) (by exact hT.1.2.1) (by rfl) (by rfl) (by omega) (by exact Nat.le_of_ble_eq_true rfl) rfl ?_
      rintro v948 L948 f948 ⟨rfl, rfl, hT⟩
      refine tf_ic_eq 1293 954 d_Law_law_951 rfl rfl (fun h951 => ?_) (fun h951 => absurd (rfl) h951)
      refine tf_less (kc2 := kc) (ks2 := ks) (by omega) (by omega) ?_
      refine tf_drop [0, 1, 2, 3, 4] rfl ?_
      exact hK (ad) _ _ _ _ _ _ (_) (rfl) (lw_cS (hS) hT) hT.1 (hR) (hou) (by rw [hT.2 ou hno]; exact fou)
  · refine tf_blk _ b_Law_law_907 rfl ?_
    refine tl_sld (fun _ _ h => h.2.1) 914 d_Law_law_913 rfl (hv1) ?_
    refine tf_blk _ b_Law_law_914 rfl ?_
    refine tl_sld (fun _ _ h => h.2.1) 920 d_Law_law_919 rfl (hv2) ?_
    refine tf_blk _ b_Law_law_920 rfl ?_
    refine tl_sld (fun _ _ h => h.2.1) 926 d_Law_law_925 rfl (hv3) ?_
    refine tf_cV (tf_gok _ _) (c_Tf_pair_n1 l D q (d - 1) _ _ (by omega) hS hn hg _ _) 929 d_Law_law_926 rfl lk_Law_115 cw_Tf_pair (by rfl) in_Tf_pair se_Tf_pair (by exact hx) (by exact fx) (by rfl) (by rfl) (by omega) (by exact Nat.le_of_ble_eq_true rfl) rfl ?_
    rintro v926 L926 f926 ⟨rfl, rfl, rfl⟩
    refine tf_blk _ b_Law_law_929 rfl ?_
    refine tl_sld (fun _ _ h => h.2.1) 936 d_Law_law_935 rfl (hv1) ?_
    refine tf_blk _ b_Law_law_936 rfl ?_
    refine tl_sld (fun _ _ h => h.2.1) 942 d_Law_law_941 rfl (hv2) ?_
    refine tf_blk _ b_Law_law_942 rfl ?_
    refine tl_sld (fun _ _ h => h.2.1) 948 d_Law_law_947 rfl (hv3) ?_
    refine tf_cV (tf_gok _ _) (c_Mod_pair_f l D q (d - 1) _ _ (by omega) hT _ _ _ (fun z => by rw [lw_Gn (J := tm_J0 J) hR hg] at z; exact absurd z.1 (by decide))) 951 d_Law_law_948 rfl lk_Law_118 cw_Mod_pair (by rfl) in_Mod_pair se_Mod_pair (by exact hT.1.1) (by exact hT.1.2.1) (by rfl) (by rfl) (by omega) (by exact Nat.le_of_ble_eq_true rfl) rfl ?_
    rintro v948 L948 f948 ⟨rfl, rfl, hT⟩
    refine tf_ic_eq 1293 954 d_Law_law_951 rfl rfl (fun h951 => ?_) (fun h951 => absurd (rfl) h951)
    refine tf_less (kc2 := kc) (ks2 := ks) (by omega) (by omega) ?_
    refine tf_drop [0, 1, 2, 3, 4] rfl ?_
    exact hK (ad) _ _ _ _ _ _ (_) (rfl) (lw_cS (hS) hT) hT.1 (hR) (hou) (by rw [hT.2 ou hno]; exact fou)
end
