/-! the law over both states: calls that throw, on -/
section
variable (l : Launch) (D : va_G) (q : Nat → ClassId) (d : Nat) (L : List Nat) (f : tf_F)
end
theorem lw_t7 {t : Int32} (h : tw_in t (kI 0) (kI 7) = false) (h0 : ¬ t < 0) (h1 : ¬ kI 8 ≤ t) : False := by
  rw [show kI 7 = nI 8 - kI 1 from by decide] at h
  exact in_n (n := 8) (by decide) (by decide) h h0 (Int32.not_le.mp h1)
theorem lw_t8 {t : Int32} (h : tw_in t (kI 0) (kI 7) = true) : ∃ r, r < 8 ∧ t = nI r := tw_inN (n := 8) (by decide) (by rw [show nI 8 - kI 1 = kI 7 from by decide]; exact h)
theorem lw_inj {a b : Nat} (ha : a ≤ 40) (hb : b ≤ 40) (h : nI a = nI b) : a = b := by
  have := congrArg Int32.toInt h
  rw [nI_toInt (by omega), nI_toInt (by omega)] at this
  omega
theorem lw_4000 {x : Int32} (h : tm_isS x = true) : iB 4000 x := by
  unfold tm_isS at h
  rw [Bool.and_eq_true, decide_eq_true_eq, decide_eq_true_eq, Int32.lt_iff_toInt_lt, Int32.lt_iff_toInt_lt, show (kI (-4000)).toInt = -4000 from by decide, show (kI 4000).toInt = 4000 from by decide] at h
  exact ⟨by omega, by omega⟩
theorem lw_13 {S : tc_S} {J : Nat → Int32} {A : Nat → Nat → Int32} {R : Nat → Int64} (hR : RR S J A R) {i : Nat} (hi : i < S.n) : (S.T i).pc ≤ 4 ∧ (S.T i).dp ≤ 4 ∧ ∀ k, k < (S.T i).pc → vp_in (A 13 (4 * i + k)) 40 := by
  have h1 := (hR.2.1.2.2.1 i hi).2.2.1
  have hn := hR.2.1.1
  obtain ⟨_, o2, o3, _⟩ := (hR.2.1.2.2.1 i hi).2.2.2.2
  refine ⟨o2.1, o3, fun k hk => ?_⟩
  rw [(h1 k hk).1]
  have := (o2.2.1 k hk).1
  exact vp_in_nI (by omega) (by omega)
section
variable (l : Launch) (D : va_G) (q : Nat → ClassId) (d : Nat) (L : List Nat) (f : tf_F)
set_option maxHeartbeats 4000000 in
set_option maxRecDepth 100000 in
theorem lw_k4 {QB : tf_B} {kc ks K KS : Nat} (hk1 : kc + 20 ≤ K) (hk2 : ks + 1000 ≤ KS) {m ou b N i : Nat} {xs : Nat → Int32} {ad adm : Nat → Nat} {S : tc_S} {J : Nat → Int32} {A : Nat → Nat → Int32} {R : Nat → Int64} {g : Nat → Int64} (hl : l.stackTraces = false) (hd : 14 ≤ d) (hS : tc_at q ad S (lw_B adm m ou) L f) (hM : tm_ok q adm m J A R L f) (hR : RR S J A R) (hou : ou ∈ L) (fou : f ou = tj q 1 g) (hno : ¬ tm_own adm m ou) (hK : ∀ (ad2 : Nat → Nat) (S2 : tc_S) (J2 : Nat → Int32) (A2 : Nat → Nat → Int32) (R2 : Nat → Int64) (L2 : List Nat) (f2 : tf_F) (g2 : Nat → Int64), ad2 0 = ad 0 → tc_at q ad2 S2 (lw_B adm m ou) L2 f2 → tm_ok q adm m J2 A2 R2 L2 f2 → RR S2 J2 A2 R2 → ou ∈ L2 → f2 ou = tj q 1 g2 → tf_W l (tf_H D q) (tl_EX b N xs) QB d i_Law_law 1293 [(0, .ref b), (1, .ref (ad 0)), (2, .ref m), (3, .ref ou), (4, .int (nI i))] [] L2 f2 kc ks) (hv0 : vp_in (nI i) N) (hv1 : vp_in (nI i + kI 1) N) (hv2 : vp_in (nI i + kI 2) N) (hv3 : vp_in (nI i + kI 3) N) (hv4 : vp_in (nI i + kI 4) N) (hv5 : vp_in (nI i + kI 5) N) (hv6 : vp_in (nI i + kI 6) N) (hv7 : vp_in (nI i + kI 7) N) (hv8 : vp_in (nI i + kI 8) N) : tf_W l (tf_H D q) (tl_EX b N xs) QB d i_Law_law 401 [(0, .ref b), (1, .ref (ad 0)), (2, .ref m), (3, .ref ou), (4, .int (nI i))] [] L f K KS := by
  obtain ⟨hx, fx⟩ := tc_c0 hS
  have hT : tm_at q adm m f L J A R f := ⟨hM, fun _ _ => rfl⟩
  have hBL := lw_BL hM hou
  have hn : S.n ≤ 40 := hR.2.1.1
  have h4 := lw_mm hR
  rcases g_or (n := S.n) (xs (nI i + kI 1).toNatClampNeg) with ⟨gi, hgi, e1⟩ | hg
  · rcases g_or (n := S.n) (xs (nI i + kI 2).toNatClampNeg) with ⟨gj, hgj, e2⟩ | hg
    · by_cases hij : gi = gj
      · subst hij
        refine tf_blk _ b_Law_law_401 rfl ?_
        refine tl_sld (fun _ _ h => h.2.1) 408 d_Law_law_407 rfl (hv1) ?_
        refine tf_blk _ b_Law_law_408 rfl ?_
        refine tl_sld (fun _ _ h => h.2.1) 414 d_Law_law_413 rfl (hv2) ?_
        refine tf_blk _ b_Law_law_414 rfl ?_
        refine tl_sld (fun _ _ h => h.2.1) 420 d_Law_law_419 rfl (hv3) ?_
        refine tf_blk _ b_Law_law_420 rfl ?_
        refine tl_sld (fun _ _ h => h.2.1) 426 d_Law_law_425 rfl (hv4) ?_
        refine tf_blk _ b_Law_law_426 rfl ?_
        refine tl_sld (fun _ _ h => h.2.1) 432 d_Law_law_431 rfl (hv5) ?_
        rw [e1, e2]
        refine tf_less (kc2 := kc + (0 + 1)) (ks2 := ks + (0 + 6)) (by omega) (by omega) ?_
        refine tl_cS (tf_gok _ _) tg_EL (fun _ _ h => h.1) (hl_component_x1 l D q (d - 1) _ _ (by omega) (ou := 0) _ _ _ _ _ hx fx (c_Tf_component_e l D q (d - 1 - 1) _ _ hl (by omega) hS hn hgi _ _ _) (fun _ _ _ z => z) (fun _ _ _ z => z.1)) 435 d_Law_law_432 rfl lk_Law_78 tlw_component (by rfl) sal_component (by omega) (by exact Nat.le_of_ble_eq_true rfl) rfl ?_
        rintro v432 L432 f432 ⟨rfl, -, rfl, rfl⟩
        refine tf_blk _ b_Law_law_435 rfl ?_
        refine tl_sld (fun _ _ h => h.2.1) 444 d_Law_law_443 rfl (hv1) ?_
        refine tf_blk _ b_Law_law_444 rfl ?_
        refine tl_sld (fun _ _ h => h.2.1) 450 d_Law_law_449 rfl (hv2) ?_
        refine tf_blk _ b_Law_law_450 rfl ?_
        refine tl_sld (fun _ _ h => h.2.1) 456 d_Law_law_455 rfl (hv3) ?_
        refine tf_blk _ b_Law_law_456 rfl ?_
        refine tl_sld (fun _ _ h => h.2.1) 462 d_Law_law_461 rfl (hv4) ?_
        refine tf_blk _ b_Law_law_462 rfl ?_
        refine tl_sld (fun _ _ h => h.2.1) 468 d_Law_law_467 rfl (hv5) ?_
        rw [e1, e2]
        refine tf_cV (tf_gok _ _) (c_Mod_component_1 l D q (d - 1) _ _ (by omega) hT (show gi < 40 by omega) _ _ _ _ (fun z => z.2.2.1 rfl)) 471 d_Law_law_468 rfl lk_Law_80 cw_Mod_component (by rfl) in_Mod_component se_Mod_component (by exact hT.1.1) (by exact hT.1.2.1) (by rfl) (by rfl) (by omega) (by exact Nat.le_of_ble_eq_true rfl) rfl ?_
        rintro v468 L468 f468 ⟨rfl, rfl, hT⟩
        refine tf_blk _ b_Law_law_471 rfl ?_
        refine tf_cV (tf_gok _ _) (c_Mod_thrown l D q (d - 1) _ _ hT) 475 d_Law_law_472 rfl lk_Law_62 cw_Mod_thrown (by rfl) in_Mod_thrown se_Mod_thrown (by exact hT.1.1) (by exact hT.1.2.1) (by rfl) (by rfl) (by omega) (by exact Nat.le_of_ble_eq_true rfl) rfl ?_
        rintro v472 L472 f472 ⟨rfl, rfl, rfl⟩
        refine tf_blk _ b_Law_law_475 rfl ?_
        refine tf_ic_eq 482 480 d_Law_law_477 rfl rfl (fun h477 => ?_) (fun h477 => absurd (rfl) h477)
        refine tf_goto 1293 d_Law_law_482 rfl ?_
        refine tf_less (kc2 := kc) (ks2 := ks) (by omega) (by omega) ?_
        refine tf_drop [0, 1, 2, 3, 4] rfl ?_
        exact hK (ad) _ _ _ _ _ _ (_) (rfl) (lw_cS (hS) hT) hT.1 (hR) (hou) (by rw [hT.2 ou hno]; exact fou)
      rcases bool_or (tw_isShift (xs (nI i + kI 3).toNatClampNeg) (xs (nI i + kI 4).toNatClampNeg)) with hs | hs
      · have hsx : tm_isS (xs (nI i + kI 3).toNatClampNeg) = true ∧ tm_isS (xs (nI i + kI 4).toNatClampNeg) = true := by rw [isS_i, Bool.and_eq_true] at hs; exact hs
        rcases bool_or (tw_in (xs (nI i + kI 5).toNatClampNeg) (kI 0) (kI 7)) with ht | ht
        · obtain ⟨tt, htt, e5⟩ := lw_t8 ht
          rw [e5] at ht
          rcases bool_or (tc_roomB (S.T gi) (S.T gj)) with hr | hr
          · have hrm := (room_eq hR hgi hgj).mp hr
            by_cases hq : A 10 gj + kI 1 ≤ A 10 gi
            · refine tf_blk _ b_Law_law_401 rfl ?_
              refine tl_sld (fun _ _ h => h.2.1) 408 d_Law_law_407 rfl (hv1) ?_
              refine tf_blk _ b_Law_law_408 rfl ?_
              refine tl_sld (fun _ _ h => h.2.1) 414 d_Law_law_413 rfl (hv2) ?_
              refine tf_blk _ b_Law_law_414 rfl ?_
              refine tl_sld (fun _ _ h => h.2.1) 420 d_Law_law_419 rfl (hv3) ?_
              refine tf_blk _ b_Law_law_420 rfl ?_
              refine tl_sld (fun _ _ h => h.2.1) 426 d_Law_law_425 rfl (hv4) ?_
              refine tf_blk _ b_Law_law_426 rfl ?_
              refine tl_sld (fun _ _ h => h.2.1) 432 d_Law_law_431 rfl (hv5) ?_
              rw [e1, e2, e5]
              refine tf_less (kc2 := kc + (0 + 1)) (ks2 := ks + (0 + 6)) (by omega) (by omega) ?_
              refine tl_cS (tf_gok _ _) tg_EL (fun _ _ h => h.1) (hl_component_r l D q (d - 1) _ _ (by omega) (ou := 0) _ _ _ _ _ hx fx (c_Tf_component_t l D q (d - 1 - 1) _ _ hl (by omega) hS hn hgi hgj hij _ _ (lw_cl hR) hBL (lw_13 hR hgi).2.1 (lw_13 hR hgj).2.1 (by have := (lw_13 hR hgi).1; have := hrm.2.1; omega) hs ht hr) (fun _ _ _ z => z) (fun _ _ _ z => z.1)) 435 d_Law_law_432 rfl lk_Law_78 tlw_component (by rfl) sal_component (by omega) (by exact Nat.le_of_ble_eq_true rfl) rfl ?_
              rintro v432 L432 f432 ⟨rfl, -, na, hna, rfl, hS2, hB2⟩
              have hT := tm_mv9 (f2 := f432) hM (fun z hz => List.mem_append_left [na] hz) (fun z _ hz => hB2 z (Or.inl hz))
              refine tf_blk _ b_Law_law_435 rfl ?_
              refine tl_sld (fun _ _ h => h.2.1) 444 d_Law_law_443 rfl (hv1) ?_
              refine tf_blk _ b_Law_law_444 rfl ?_
              refine tl_sld (fun _ _ h => h.2.1) 450 d_Law_law_449 rfl (hv2) ?_
              refine tf_blk _ b_Law_law_450 rfl ?_
              refine tl_sld (fun _ _ h => h.2.1) 456 d_Law_law_455 rfl (hv3) ?_
              refine tf_blk _ b_Law_law_456 rfl ?_
              refine tl_sld (fun _ _ h => h.2.1) 462 d_Law_law_461 rfl (hv4) ?_
              refine tf_blk _ b_Law_law_462 rfl ?_
              refine tl_sld (fun _ _ h => h.2.1) 468 d_Law_law_467 rfl (hv5) ?_
              rw [e1, e2, e5]
              refine tf_cV (tf_gok _ _) (c_Mod_component_t0 l D q (d - 1) _ _ (by omega) hT (show gi < 40 by omega) (show gj < 40 by omega) (lw_13 hR hgi).1 (lw_N hR hgi).2.2.2 (lw_13 hR hgi).2.2 _ _ _ ⟨lw_G hR hgi, lw_G hR hgj, fun z => hij (lw_inj (by omega) (by omega) z), hsx.1, hsx.2, nI_pos (by omega), nI_ge htt (by decide)⟩ hrm hq) 471 d_Law_law_468 rfl lk_Law_80 cw_Mod_component (by rfl) in_Mod_component se_Mod_component (by exact hT.1.1) (by exact hT.1.2.1) (by rfl) (by rfl) (by omega) (by exact Nat.le_of_ble_eq_true rfl) rfl ?_
              rintro v468 L468 f468 ⟨rfl, rfl, hT⟩
              refine tf_blk _ b_Law_law_471 rfl ?_
              refine tf_cV (tf_gok _ _) (c_Mod_thrown l D q (d - 1) _ _ hT) 475 d_Law_law_472 rfl lk_Law_62 cw_Mod_thrown (by rfl) in_Mod_thrown se_Mod_thrown (by exact hT.1.1) (by exact hT.1.2.1) (by rfl) (by rfl) (by omega) (by exact Nat.le_of_ble_eq_true rfl) rfl ?_
              rintro v472 L472 f472 ⟨rfl, rfl, rfl⟩
              refine tf_blk _ b_Law_law_475 rfl ?_
              refine tf_ic_eq 482 480 d_Law_law_477 rfl rfl (fun h477 => ?_) (fun h477 => absurd (rfl) h477)
              refine tf_goto 1293 d_Law_law_482 rfl ?_
              refine tf_less (kc2 := kc) (ks2 := ks) (by omega) (by omega) ?_
              refine tf_drop [0, 1, 2, 3, 4] rfl ?_
              exact hK (va_up ad (tc_k gi (8 + (S.T gi).pc)) na) _ _ _ _ _ _ (_) (va_up_ne _ _ (by unfold tc_k; omega)) (lw_cS (hS2) hT) hT.1 (q_comp hR hgi hgj hij htt (lw_4000 hsx.1) (lw_4000 hsx.2) hr) (List.mem_append_left _ hou) (by rw [hT.2 ou hno]; exact (hB2 ou (Or.inr rfl)).trans fou)
            · refine tf_blk _ b_Law_law_401 rfl ?_
              refine tl_sld (fun _ _ h => h.2.1) 408 d_Law_law_407 rfl (hv1) ?_
              refine tf_blk _ b_Law_law_408 rfl ?_
              refine tl_sld (fun _ _ h => h.2.1) 414 d_Law_law_413 rfl (hv2) ?_
              refine tf_blk _ b_Law_law_414 rfl ?_
              refine tl_sld (fun _ _ h => h.2.1) 420 d_Law_law_419 rfl (hv3) ?_
              refine tf_blk _ b_Law_law_420 rfl ?_
              refine tl_sld (fun _ _ h => h.2.1) 426 d_Law_law_425 rfl (hv4) ?_
              refine tf_blk _ b_Law_law_426 rfl ?_
              refine tl_sld (fun _ _ h => h.2.1) 432 d_Law_law_431 rfl (hv5) ?_
              rw [e1, e2, e5]
              refine tf_less (kc2 := kc + (0 + 1)) (ks2 := ks + (0 + 6)) (by omega) (by omega) ?_
              refine tl_cS (tf_gok _ _) tg_EL (fun _ _ h => h.1) (hl_component_r l D q (d - 1) _ _ (by omega) (ou := 0) _ _ _ _ _ hx fx (c_Tf_component_t l D q (d - 1 - 1) _ _ hl (by omega) hS hn hgi hgj hij _ _ (lw_cl hR) hBL (lw_13 hR hgi).2.1 (lw_13 hR hgj).2.1 (by have := (lw_13 hR hgi).1; have := hrm.2.1; omega) hs ht hr) (fun _ _ _ z => z) (fun _ _ _ z => z.1)) 435 d_Law_law_432 rfl lk_Law_78 tlw_component (by rfl) sal_component (by omega) (by exact Nat.le_of_ble_eq_true rfl) rfl ?_
              rintro v432 L432 f432 ⟨rfl, -, na, hna, rfl, hS2, hB2⟩
              have hT := tm_mv9 (f2 := f432) hM (fun z hz => List.mem_append_left [na] hz) (fun z _ hz => hB2 z (Or.inl hz))
              refine tf_blk _ b_Law_law_435 rfl ?_
              refine tl_sld (fun _ _ h => h.2.1) 444 d_Law_law_443 rfl (hv1) ?_
              refine tf_blk _ b_Law_law_444 rfl ?_
              refine tl_sld (fun _ _ h => h.2.1) 450 d_Law_law_449 rfl (hv2) ?_
              refine tf_blk _ b_Law_law_450 rfl ?_
              refine tl_sld (fun _ _ h => h.2.1) 456 d_Law_law_455 rfl (hv3) ?_
              refine tf_blk _ b_Law_law_456 rfl ?_
              refine tl_sld (fun _ _ h => h.2.1) 462 d_Law_law_461 rfl (hv4) ?_
              refine tf_blk _ b_Law_law_462 rfl ?_
              refine tl_sld (fun _ _ h => h.2.1) 468 d_Law_law_467 rfl (hv5) ?_
              rw [e1, e2, e5]
              refine tf_cV (tf_gok _ _) (c_Mod_component_t1 l D q (d - 1) _ _ (by omega) hT (show gi < 40 by omega) (show gj < 40 by omega) (lw_13 hR hgi).1 (lw_N hR hgi).2.2.2 (lw_13 hR hgi).2.2 _ _ _ ⟨lw_G hR hgi, lw_G hR hgj, fun z => hij (lw_inj (by omega) (by omega) z), hsx.1, hsx.2, nI_pos (by omega), nI_ge htt (by decide)⟩ hrm hq) 471 d_Law_law_468 rfl lk_Law_80 cw_Mod_component (by rfl) in_Mod_component se_Mod_component (by exact hT.1.1) (by exact hT.1.2.1) (by rfl) (by rfl) (by omega) (by exact Nat.le_of_ble_eq_true rfl) rfl ?_
              rintro v468 L468 f468 ⟨rfl, rfl, hT⟩
              refine tf_blk _ b_Law_law_471 rfl ?_
              refine tf_cV (tf_gok _ _) (c_Mod_thrown l D q (d - 1) _ _ hT) 475 d_Law_law_472 rfl lk_Law_62 cw_Mod_thrown (by rfl) in_Mod_thrown se_Mod_thrown (by exact hT.1.1) (by exact hT.1.2.1) (by rfl) (by rfl) (by omega) (by exact Nat.le_of_ble_eq_true rfl) rfl ?_
              rintro v472 L472 f472 ⟨rfl, rfl, rfl⟩
              refine tf_blk _ b_Law_law_475 rfl ?_
              refine tf_ic_eq 482 480 d_Law_law_477 rfl rfl (fun h477 => ?_) (fun h477 => absurd (rfl) h477)
              refine tf_goto 1293 d_Law_law_482 rfl ?_
              refine tf_less (kc2 := kc) (ks2 := ks) (by omega) (by omega) ?_
              refine tf_drop [0, 1, 2, 3, 4] rfl ?_
              exact hK (va_up ad (tc_k gi (8 + (S.T gi).pc)) na) _ _ _ _ _ _ (_) (va_up_ne _ _ (by unfold tc_k; omega)) (lw_cS (hS2) hT) hT.1 (q_comp hR hgi hgj hij htt (lw_4000 hsx.1) (lw_4000 hsx.2) hr) (List.mem_append_left _ hou) (by rw [hT.2 ou hno]; exact (hB2 ou (Or.inr rfl)).trans fou)
          · refine tf_blk _ b_Law_law_401 rfl ?_
            refine tl_sld (fun _ _ h => h.2.1) 408 d_Law_law_407 rfl (hv1) ?_
            refine tf_blk _ b_Law_law_408 rfl ?_
            refine tl_sld (fun _ _ h => h.2.1) 414 d_Law_law_413 rfl (hv2) ?_
            refine tf_blk _ b_Law_law_414 rfl ?_
            refine tl_sld (fun _ _ h => h.2.1) 420 d_Law_law_419 rfl (hv3) ?_
            refine tf_blk _ b_Law_law_420 rfl ?_
            refine tl_sld (fun _ _ h => h.2.1) 426 d_Law_law_425 rfl (hv4) ?_
            refine tf_blk _ b_Law_law_426 rfl ?_
            refine tl_sld (fun _ _ h => h.2.1) 432 d_Law_law_431 rfl (hv5) ?_
            rw [e1, e2, e5]
            refine tf_less (kc2 := kc + (0 + 1)) (ks2 := ks + (0 + 6)) (by omega) (by omega) ?_
            refine tl_cS (tf_gok _ _) tg_EL (fun _ _ h => h.1) (hl_component_x2 l D q (d - 1) _ _ (by omega) (ou := 0) _ _ _ _ _ hx fx (c_Tf_component_r l D q (d - 1 - 1) _ _ hl (by omega) hS hn hgi hgj hij _ _ _ hs ht hr) (fun _ _ _ z => z) (fun _ _ _ z => z.1)) 435 d_Law_law_432 rfl lk_Law_78 tlw_component (by rfl) sal_component (by omega) (by exact Nat.le_of_ble_eq_true rfl) rfl ?_
            rintro v432 L432 f432 ⟨rfl, -, rfl, rfl⟩
            refine tf_blk _ b_Law_law_435 rfl ?_
            refine tl_sld (fun _ _ h => h.2.1) 444 d_Law_law_443 rfl (hv1) ?_
            refine tf_blk _ b_Law_law_444 rfl ?_
            refine tl_sld (fun _ _ h => h.2.1) 450 d_Law_law_449 rfl (hv2) ?_
            refine tf_blk _ b_Law_law_450 rfl ?_
            refine tl_sld (fun _ _ h => h.2.1) 456 d_Law_law_455 rfl (hv3) ?_
            refine tf_blk _ b_Law_law_456 rfl ?_
            refine tl_sld (fun _ _ h => h.2.1) 462 d_Law_law_461 rfl (hv4) ?_
            refine tf_blk _ b_Law_law_462 rfl ?_
            refine tl_sld (fun _ _ h => h.2.1) 468 d_Law_law_467 rfl (hv5) ?_
            rw [e1, e2, e5]
            refine tf_cV (tf_gok _ _) (c_Mod_component_2 l D q (d - 1) _ _ (by omega) hT (show gi < 40 by omega) (show gj < 40 by omega) (lw_13 hR hgi).1 (lw_N hR hgi).2.2.2 (lw_13 hR hgi).2.2 _ _ _ ⟨lw_G hR hgi, lw_G hR hgj, fun z => hij (lw_inj (by omega) (by omega) z), hsx.1, hsx.2, nI_pos (by omega), nI_ge htt (by decide)⟩ (fun z => by rw [(room_eq hR hgi hgj).mpr z] at hr; cases hr)) 471 d_Law_law_468 rfl lk_Law_80 cw_Mod_component (by rfl) in_Mod_component se_Mod_component (by exact hT.1.1) (by exact hT.1.2.1) (by rfl) (by rfl) (by omega) (by exact Nat.le_of_ble_eq_true rfl) rfl ?_
            rintro v468 L468 f468 ⟨rfl, rfl, hT⟩
            refine tf_blk _ b_Law_law_471 rfl ?_
            refine tf_cV (tf_gok _ _) (c_Mod_thrown l D q (d - 1) _ _ hT) 475 d_Law_law_472 rfl lk_Law_62 cw_Mod_thrown (by rfl) in_Mod_thrown se_Mod_thrown (by exact hT.1.1) (by exact hT.1.2.1) (by rfl) (by rfl) (by omega) (by exact Nat.le_of_ble_eq_true rfl) rfl ?_
            rintro v472 L472 f472 ⟨rfl, rfl, rfl⟩
            refine tf_blk _ b_Law_law_475 rfl ?_
            refine tf_ic_eq 482 480 d_Law_law_477 rfl rfl (fun h477 => ?_) (fun h477 => absurd (rfl) h477)
            refine tf_goto 1293 d_Law_law_482 rfl ?_
            refine tf_less (kc2 := kc) (ks2 := ks) (by omega) (by omega) ?_
            refine tf_drop [0, 1, 2, 3, 4] rfl ?_
            exact hK (ad) _ _ _ _ _ _ (_) (rfl) (lw_cS (hS) hT) hT.1 (hR) (hou) (by rw [hT.2 ou hno]; exact fou)
        · refine tf_blk _ b_Law_law_401 rfl ?_
          refine tl_sld (fun _ _ h => h.2.1) 408 d_Law_law_407 rfl (hv1) ?_
          refine tf_blk _ b_Law_law_408 rfl ?_
          refine tl_sld (fun _ _ h => h.2.1) 414 d_Law_law_413 rfl (hv2) ?_
          refine tf_blk _ b_Law_law_414 rfl ?_
          refine tl_sld (fun _ _ h => h.2.1) 420 d_Law_law_419 rfl (hv3) ?_
          refine tf_blk _ b_Law_law_420 rfl ?_
          refine tl_sld (fun _ _ h => h.2.1) 426 d_Law_law_425 rfl (hv4) ?_
          refine tf_blk _ b_Law_law_426 rfl ?_
          refine tl_sld (fun _ _ h => h.2.1) 432 d_Law_law_431 rfl (hv5) ?_
          rw [e1, e2]
          refine tf_less (kc2 := kc + (0 + 1)) (ks2 := ks + (0 + 6)) (by omega) (by omega) ?_
          refine tl_cS (tf_gok _ _) tg_EL (fun _ _ h => h.1) (hl_component_x1 l D q (d - 1) _ _ (by omega) (ou := 0) _ _ _ _ _ hx fx (c_Tf_component_u l D q (d - 1 - 1) _ _ hl (by omega) hS hn hgi hgj hij _ _ _ hs ht) (fun _ _ _ z => z) (fun _ _ _ z => z.1)) 435 d_Law_law_432 rfl lk_Law_78 tlw_component (by rfl) sal_component (by omega) (by exact Nat.le_of_ble_eq_true rfl) rfl ?_
          rintro v432 L432 f432 ⟨rfl, -, rfl, rfl⟩
          refine tf_blk _ b_Law_law_435 rfl ?_
          refine tl_sld (fun _ _ h => h.2.1) 444 d_Law_law_443 rfl (hv1) ?_
          refine tf_blk _ b_Law_law_444 rfl ?_
          refine tl_sld (fun _ _ h => h.2.1) 450 d_Law_law_449 rfl (hv2) ?_
          refine tf_blk _ b_Law_law_450 rfl ?_
          refine tl_sld (fun _ _ h => h.2.1) 456 d_Law_law_455 rfl (hv3) ?_
          refine tf_blk _ b_Law_law_456 rfl ?_
          refine tl_sld (fun _ _ h => h.2.1) 462 d_Law_law_461 rfl (hv4) ?_
          refine tf_blk _ b_Law_law_462 rfl ?_
          refine tl_sld (fun _ _ h => h.2.1) 468 d_Law_law_467 rfl (hv5) ?_
          rw [e1, e2]
          refine tf_cV (tf_gok _ _) (c_Mod_component_1 l D q (d - 1) _ _ (by omega) hT (show gi < 40 by omega) _ _ _ _ (fun z => lw_t7 ht z.2.2.2.2.2.1 z.2.2.2.2.2.2)) 471 d_Law_law_468 rfl lk_Law_80 cw_Mod_component (by rfl) in_Mod_component se_Mod_component (by exact hT.1.1) (by exact hT.1.2.1) (by rfl) (by rfl) (by omega) (by exact Nat.le_of_ble_eq_true rfl) rfl ?_
          rintro v468 L468 f468 ⟨rfl, rfl, hT⟩
          refine tf_blk _ b_Law_law_471 rfl ?_
          refine tf_cV (tf_gok _ _) (c_Mod_thrown l D q (d - 1) _ _ hT) 475 d_Law_law_472 rfl lk_Law_62 cw_Mod_thrown (by rfl) in_Mod_thrown se_Mod_thrown (by exact hT.1.1) (by exact hT.1.2.1) (by rfl) (by rfl) (by omega) (by exact Nat.le_of_ble_eq_true rfl) rfl ?_
          rintro v472 L472 f472 ⟨rfl, rfl, rfl⟩
          refine tf_blk _ b_Law_law_475 rfl ?_
          refine tf_ic_eq 482 480 d_Law_law_477 rfl rfl (fun h477 => ?_) (fun h477 => absurd (rfl) h477)
          refine tf_goto 1293 d_Law_law_482 rfl ?_
          refine tf_less (kc2 := kc) (ks2 := ks) (by omega) (by omega) ?_
          refine tf_drop [0, 1, 2, 3, 4] rfl ?_
          exact hK (ad) _ _ _ _ _ _ (_) (rfl) (lw_cS (hS) hT) hT.1 (hR) (hou) (by rw [hT.2 ou hno]; exact fou)
      · refine tf_blk _ b_Law_law_401 rfl ?_
        refine tl_sld (fun _ _ h => h.2.1) 408 d_Law_law_407 rfl (hv1) ?_
        refine tf_blk _ b_Law_law_408 rfl ?_
        refine tl_sld (fun _ _ h => h.2.1) 414 d_Law_law_413 rfl (hv2) ?_
        refine tf_blk _ b_Law_law_414 rfl ?_
        refine tl_sld (fun _ _ h => h.2.1) 420 d_Law_law_419 rfl (hv3) ?_
        refine tf_blk _ b_Law_law_420 rfl ?_
        refine tl_sld (fun _ _ h => h.2.1) 426 d_Law_law_425 rfl (hv4) ?_
        refine tf_blk _ b_Law_law_426 rfl ?_
        refine tl_sld (fun _ _ h => h.2.1) 432 d_Law_law_431 rfl (hv5) ?_
        rw [e1, e2]
        refine tf_less (kc2 := kc + (0 + 1)) (ks2 := ks + (0 + 6)) (by omega) (by omega) ?_
        refine tl_cS (tf_gok _ _) tg_EL (fun _ _ h => h.1) (hl_component_x1 l D q (d - 1) _ _ (by omega) (ou := 0) _ _ _ _ _ hx fx (c_Tf_component_s l D q (d - 1 - 1) _ _ hl (by omega) hS hn hgi hgj hij _ _ _ hs) (fun _ _ _ z => z) (fun _ _ _ z => z.1)) 435 d_Law_law_432 rfl lk_Law_78 tlw_component (by rfl) sal_component (by omega) (by exact Nat.le_of_ble_eq_true rfl) rfl ?_
        rintro v432 L432 f432 ⟨rfl, -, rfl, rfl⟩
        refine tf_blk _ b_Law_law_435 rfl ?_
        refine tl_sld (fun _ _ h => h.2.1) 444 d_Law_law_443 rfl (hv1) ?_
        refine tf_blk _ b_Law_law_444 rfl ?_
        refine tl_sld (fun _ _ h => h.2.1) 450 d_Law_law_449 rfl (hv2) ?_
        refine tf_blk _ b_Law_law_450 rfl ?_
        refine tl_sld (fun _ _ h => h.2.1) 456 d_Law_law_455 rfl (hv3) ?_
        refine tf_blk _ b_Law_law_456 rfl ?_
        refine tl_sld (fun _ _ h => h.2.1) 462 d_Law_law_461 rfl (hv4) ?_
        refine tf_blk _ b_Law_law_462 rfl ?_
        refine tl_sld (fun _ _ h => h.2.1) 468 d_Law_law_467 rfl (hv5) ?_
        rw [e1, e2]
        refine tf_cV (tf_gok _ _) (c_Mod_component_1 l D q (d - 1) _ _ (by omega) hT (show gi < 40 by omega) _ _ _ _ (fun z => by rw [isS_i, z.2.2.2.1, z.2.2.2.2.1] at hs; cases hs)) 471 d_Law_law_468 rfl lk_Law_80 cw_Mod_component (by rfl) in_Mod_component se_Mod_component (by exact hT.1.1) (by exact hT.1.2.1) (by rfl) (by rfl) (by omega) (by exact Nat.le_of_ble_eq_true rfl) rfl ?_
        rintro v468 L468 f468 ⟨rfl, rfl, hT⟩
        refine tf_blk _ b_Law_law_471 rfl ?_
        refine tf_cV (tf_gok _ _) (c_Mod_thrown l D q (d - 1) _ _ hT) 475 d_Law_law_472 rfl lk_Law_62 cw_Mod_thrown (by rfl) in_Mod_thrown se_Mod_thrown (by exact hT.1.1) (by exact hT.1.2.1) (by rfl) (by rfl) (by omega) (by exact Nat.le_of_ble_eq_true rfl) rfl ?_
        rintro v472 L472 f472 ⟨rfl, rfl, rfl⟩
        refine tf_blk _ b_Law_law_475 rfl ?_
        refine tf_ic_eq 482 480 d_Law_law_477 rfl rfl (fun h477 => ?_) (fun h477 => absurd (rfl) h477)
        refine tf_goto 1293 d_Law_law_482 rfl ?_
        refine tf_less (kc2 := kc) (ks2 := ks) (by omega) (by omega) ?_
        refine tf_drop [0, 1, 2, 3, 4] rfl ?_
        exact hK (ad) _ _ _ _ _ _ (_) (rfl) (lw_cS (hS) hT) hT.1 (hR) (hou) (by rw [hT.2 ou hno]; exact fou)
    · refine tf_blk _ b_Law_law_401 rfl ?_
      refine tl_sld (fun _ _ h => h.2.1) 408 d_Law_law_407 rfl (hv1) ?_
      refine tf_blk _ b_Law_law_408 rfl ?_
      refine tl_sld (fun _ _ h => h.2.1) 414 d_Law_law_413 rfl (hv2) ?_
      refine tf_blk _ b_Law_law_414 rfl ?_
      refine tl_sld (fun _ _ h => h.2.1) 420 d_Law_law_419 rfl (hv3) ?_
      refine tf_blk _ b_Law_law_420 rfl ?_
      refine tl_sld (fun _ _ h => h.2.1) 426 d_Law_law_425 rfl (hv4) ?_
      refine tf_blk _ b_Law_law_426 rfl ?_
      refine tl_sld (fun _ _ h => h.2.1) 432 d_Law_law_431 rfl (hv5) ?_
      rw [e1]
      refine tf_less (kc2 := kc + (0 + 1)) (ks2 := ks + (0 + 6)) (by omega) (by omega) ?_
      refine tl_cS (tf_gok _ _) tg_EL (fun _ _ h => h.1) (hl_component_x1 l D q (d - 1) _ _ (by omega) (ou := 0) _ _ _ _ _ hx fx (c_Tf_component_2 l D q (d - 1 - 1) _ _ hl (by omega) hS hn hgi hg _ _ _) (fun _ _ _ z => z) (fun _ _ _ z => z.1)) 435 d_Law_law_432 rfl lk_Law_78 tlw_component (by rfl) sal_component (by omega) (by exact Nat.le_of_ble_eq_true rfl) rfl ?_
      rintro v432 L432 f432 ⟨rfl, -, rfl, rfl⟩
      refine tf_blk _ b_Law_law_435 rfl ?_
      refine tl_sld (fun _ _ h => h.2.1) 444 d_Law_law_443 rfl (hv1) ?_
      refine tf_blk _ b_Law_law_444 rfl ?_
      refine tl_sld (fun _ _ h => h.2.1) 450 d_Law_law_449 rfl (hv2) ?_
      refine tf_blk _ b_Law_law_450 rfl ?_
      refine tl_sld (fun _ _ h => h.2.1) 456 d_Law_law_455 rfl (hv3) ?_
      refine tf_blk _ b_Law_law_456 rfl ?_
      refine tl_sld (fun _ _ h => h.2.1) 462 d_Law_law_461 rfl (hv4) ?_
      refine tf_blk _ b_Law_law_462 rfl ?_
      refine tl_sld (fun _ _ h => h.2.1) 468 d_Law_law_467 rfl (hv5) ?_
      rw [e1]
      refine tf_cV (tf_gok _ _) (c_Mod_component_1 l D q (d - 1) _ _ (by omega) hT (show gi < 40 by omega) _ _ _ _ (fun z => by rw [lw_Gn hR hg] at z; exact absurd z.2.1 (by decide))) 471 d_Law_law_468 rfl lk_Law_80 cw_Mod_component (by rfl) in_Mod_component se_Mod_component (by exact hT.1.1) (by exact hT.1.2.1) (by rfl) (by rfl) (by omega) (by exact Nat.le_of_ble_eq_true rfl) rfl ?_
      rintro v468 L468 f468 ⟨rfl, rfl, hT⟩
      refine tf_blk _ b_Law_law_471 rfl ?_
      refine tf_cV (tf_gok _ _) (c_Mod_thrown l D q (d - 1) _ _ hT) 475 d_Law_law_472 rfl lk_Law_62 cw_Mod_thrown (by rfl) in_Mod_thrown se_Mod_thrown (by exact hT.1.1) (by exact hT.1.2.1) (by rfl) (by rfl) (by omega) (by exact Nat.le_of_ble_eq_true rfl) rfl ?_
      rintro v472 L472 f472 ⟨rfl, rfl, rfl⟩
      refine tf_blk _ b_Law_law_475 rfl ?_
      refine tf_ic_eq 482 480 d_Law_law_477 rfl rfl (fun h477 => ?_) (fun h477 => absurd (rfl) h477)
      refine tf_goto 1293 d_Law_law_482 rfl ?_
      refine tf_less (kc2 := kc) (ks2 := ks) (by omega) (by omega) ?_
      refine tf_drop [0, 1, 2, 3, 4] rfl ?_
      exact hK (ad) _ _ _ _ _ _ (_) (rfl) (lw_cS (hS) hT) hT.1 (hR) (hou) (by rw [hT.2 ou hno]; exact fou)
  · refine tf_blk _ b_Law_law_401 rfl ?_
    refine tl_sld (fun _ _ h => h.2.1) 408 d_Law_law_407 rfl (hv1) ?_
    refine tf_blk _ b_Law_law_408 rfl ?_
    refine tl_sld (fun _ _ h => h.2.1) 414 d_Law_law_413 rfl (hv2) ?_
    refine tf_blk _ b_Law_law_414 rfl ?_
    refine tl_sld (fun _ _ h => h.2.1) 420 d_Law_law_419 rfl (hv3) ?_
    refine tf_blk _ b_Law_law_420 rfl ?_
    refine tl_sld (fun _ _ h => h.2.1) 426 d_Law_law_425 rfl (hv4) ?_
    refine tf_blk _ b_Law_law_426 rfl ?_
    refine tl_sld (fun _ _ h => h.2.1) 432 d_Law_law_431 rfl (hv5) ?_
    refine tf_less (kc2 := kc + (0 + 1)) (ks2 := ks + (0 + 6)) (by omega) (by omega) ?_
    refine tl_cS (tf_gok _ _) tg_EL (fun _ _ h => h.1) (hl_component_x1 l D q (d - 1) _ _ (by omega) (ou := 0) _ _ _ _ _ hx fx (c_Tf_component_1 l D q (d - 1 - 1) _ _ hl (by omega) hS hn hg _ _ _ _) (fun _ _ _ z => z) (fun _ _ _ z => z.1)) 435 d_Law_law_432 rfl lk_Law_78 tlw_component (by rfl) sal_component (by omega) (by exact Nat.le_of_ble_eq_true rfl) rfl ?_
    rintro v432 L432 f432 ⟨rfl, -, rfl, rfl⟩
    refine tf_blk _ b_Law_law_435 rfl ?_
    refine tl_sld (fun _ _ h => h.2.1) 444 d_Law_law_443 rfl (hv1) ?_
    refine tf_blk _ b_Law_law_444 rfl ?_
    refine tl_sld (fun _ _ h => h.2.1) 450 d_Law_law_449 rfl (hv2) ?_
    refine tf_blk _ b_Law_law_450 rfl ?_
    refine tl_sld (fun _ _ h => h.2.1) 456 d_Law_law_455 rfl (hv3) ?_
    refine tf_blk _ b_Law_law_456 rfl ?_
    refine tl_sld (fun _ _ h => h.2.1) 462 d_Law_law_461 rfl (hv4) ?_
    refine tf_blk _ b_Law_law_462 rfl ?_
    refine tl_sld (fun _ _ h => h.2.1) 468 d_Law_law_467 rfl (hv5) ?_
    refine tf_cV (tf_gok _ _) (c_Mod_component_n l D q (d - 1) _ _ (by omega) hT _ _ _ _ _ (lw_Gn hR hg)) 471 d_Law_law_468 rfl lk_Law_80 cw_Mod_component (by rfl) in_Mod_component se_Mod_component (by exact hT.1.1) (by exact hT.1.2.1) (by rfl) (by rfl) (by omega) (by exact Nat.le_of_ble_eq_true rfl) rfl ?_
    rintro v468 L468 f468 ⟨rfl, rfl, hT⟩
    refine tf_blk _ b_Law_law_471 rfl ?_
    refine tf_cV (tf_gok _ _) (c_Mod_thrown l D q (d - 1) _ _ hT) 475 d_Law_law_472 rfl lk_Law_62 cw_Mod_thrown (by rfl) in_Mod_thrown se_Mod_thrown (by exact hT.1.1) (by exact hT.1.2.1) (by rfl) (by rfl) (by omega) (by exact Nat.le_of_ble_eq_true rfl) rfl ?_
    rintro v472 L472 f472 ⟨rfl, rfl, rfl⟩
    refine tf_blk _ b_Law_law_475 rfl ?_
    refine tf_ic_eq 482 480 d_Law_law_477 rfl rfl (fun h477 => ?_) (fun h477 => absurd (rfl) h477)
    refine tf_goto 1293 d_Law_law_482 rfl ?_
    refine tf_less (kc2 := kc) (ks2 := ks) (by omega) (by omega) ?_
    refine tf_drop [0, 1, 2, 3, 4] rfl ?_
    exact hK (ad) _ _ _ _ _ _ (_) (rfl) (lw_cS (hS) hT) hT.1 (hR) (hou) (by rw [hT.2 ou hno]; exact fou)
end
theorem lw_pm1 (x : Int32) : x = x + kI 1 - kI 1 := (Int32.add_sub_cancel x (kI 1)).symm
theorem lw_sn {n : Nat} (hn : n ≤ 64) {x : Int32} (h : tw_in x (kI 0) (nI n - kI 1) = false) (h0 : ¬ x < 0) : ¬ x < nI n := by
  intro z
  obtain ⟨k, hk, e⟩ := nI_of h0
  rw [e, nI_ltI hk (by omega)] at z
  rw [e, tw_inI hn z] at h
  cases h
theorem lw_s1 (n : Nat) : nI n = nI (n + 1) - kI 1 := by
  rw [← nI_add]
  exact lw_pm1 _
theorem lw_sl {n : Nat} (hn : n ≤ 60) {x : Int32} (h : tw_in x (kI 0) (nI n) = false) (h0 : ¬ x < 0) (h1 : ¬ nI n < x) : False := by
  rw [lw_s1] at h
  obtain ⟨k, hk, e⟩ := nI_of h0
  rw [e, nI_ltI (by omega) hk] at h1
  rw [e, tw_inI (by omega) (by omega)] at h
  cases h
theorem lw_sN {n : Nat} (hn : n ≤ 60) {x : Int32} (h : tw_in x (kI 0) (nI n) = true) : ∃ r, r ≤ n ∧ x = nI r := by
  rw [lw_s1] at h
  obtain ⟨r, hr, e⟩ := tw_inN (by omega) h
  exact ⟨r, by omega, e⟩
section
variable (l : Launch) (D : va_G) (q : Nat → ClassId) (d : Nat) (L : List Nat) (f : tf_F)
set_option maxHeartbeats 4000000 in
set_option maxRecDepth 100000 in
theorem lw_k17 {QB : tf_B} {kc ks K KS : Nat} (hk1 : kc + 20 ≤ K) (hk2 : ks + 1000 ≤ KS) {m ou b N i : Nat} {xs : Nat → Int32} {ad adm : Nat → Nat} {S : tc_S} {J : Nat → Int32} {A : Nat → Nat → Int32} {R : Nat → Int64} {g : Nat → Int64} (hl : l.stackTraces = false) (hd : 14 ≤ d) (hS : tc_at q ad S (lw_B adm m ou) L f) (hM : tm_ok q adm m J A R L f) (hR : RR S J A R) (hou : ou ∈ L) (fou : f ou = tj q 1 g) (hno : ¬ tm_own adm m ou) (hK : ∀ (ad2 : Nat → Nat) (S2 : tc_S) (J2 : Nat → Int32) (A2 : Nat → Nat → Int32) (R2 : Nat → Int64) (L2 : List Nat) (f2 : tf_F) (g2 : Nat → Int64), ad2 0 = ad 0 → tc_at q ad2 S2 (lw_B adm m ou) L2 f2 → tm_ok q adm m J2 A2 R2 L2 f2 → RR S2 J2 A2 R2 → ou ∈ L2 → f2 ou = tj q 1 g2 → tf_W l (tf_H D q) (tl_EX b N xs) QB d i_Law_law 1293 [(0, .ref b), (1, .ref (ad 0)), (2, .ref m), (3, .ref ou), (4, .int (nI i))] [] L2 f2 kc ks) (hv0 : vp_in (nI i) N) (hv1 : vp_in (nI i + kI 1) N) (hv2 : vp_in (nI i + kI 2) N) (hv3 : vp_in (nI i + kI 3) N) (hv4 : vp_in (nI i + kI 4) N) (hv5 : vp_in (nI i + kI 5) N) (hv6 : vp_in (nI i + kI 6) N) (hv7 : vp_in (nI i + kI 7) N) (hv8 : vp_in (nI i + kI 8) N) : tf_W l (tf_H D q) (tl_EX b N xs) QB d i_Law_law 1200 [(0, .ref b), (1, .ref (ad 0)), (2, .ref m), (3, .ref ou), (4, .int (nI i))] [] L f K KS := by
  obtain ⟨hx, fx⟩ := tc_c0 hS
  have hT : tm_at q adm m f L J A R f := ⟨hM, fun _ _ => rfl⟩
  have hBL := lw_BL hM hou
  have hn : S.n ≤ 40 := hR.2.1.1
  have h4 := lw_mm hR
  by_cases w0 : xs (nI i + kI 2).toNatClampNeg = 0
  · rcases bool_or (tw_in (xs (nI i + kI 1).toNatClampNeg) (kI 0) (nI S.rs - kI 1)) with hi | hi
    · obtain ⟨c, hc, e1⟩ := tw_inN (by have := hR.2.2.2.2.2.2.2.2.1.1; omega) hi
      rw [e1] at hi
      refine tf_blk _ b_Law_law_1200 rfl ?_
      refine tl_sld (fun _ _ h => h.2.1) 1207 d_Law_law_1206 rfl (hv1) ?_
      refine tf_blk _ b_Law_law_1207 rfl ?_
      refine tl_sld (fun _ _ h => h.2.1) 1213 d_Law_law_1212 rfl (hv2) ?_
      refine tf_blk _ b_Law_law_1213 rfl ?_
      rw [e1, w0]
      refine tf_less (kc2 := kc + (0 + 1)) (ks2 := ks + (0 + 6)) (by omega) (by omega) ?_
      refine tl_cS (tf_gok _ _) tg_EL (fun _ _ h => h.1) (hl_shaped_r l D q (d - 1) _ _ (by omega) _ _ hx fx (c_Tf_shaped_t0 l D q (d - 1 - 1) _ _ hl (by omega) hS _ _ rfl hi hR.2.2.2.2.2.2.2.2.1.1) (fun _ _ _ z => z) (fun v L2 f2 z => ⟨_, z.1, z.2.1 ▸ hou, g, (z.2.2.2 ou (Or.inr rfl)).trans fou⟩)) 1217 d_Law_law_1214 rfl lk_Law_133 tlw_shaped (by rfl) sal_shaped (by omega) (by exact Nat.le_of_ble_eq_true rfl) rfl ?_
      rintro v1214 L1214 f1214 ⟨rfl, a, f1, g1, ⟨ea, rfl, hS2, hB2⟩, fo, rfl⟩
      have ea2 := Value.int.inj (Option.some.inj ea)
      have hT := tm_mv9 (f2 := va_up f1 ou (tj q 1 (va_upJ g1 a))) hM (fun _ z => z) (fun z hz ho => (va_up_ne _ _ (fun e => hno (by rw [← e]; exact ho))).trans (hB2 z (Or.inl ho)))
      refine tf_blk _ b_Law_law_1217 rfl ?_
      refine tl_sld (fun _ _ h => h.2.1) 1226 d_Law_law_1225 rfl (hv1) ?_
      refine tf_blk _ b_Law_law_1226 rfl ?_
      refine tl_sld (fun _ _ h => h.2.1) 1232 d_Law_law_1231 rfl (hv2) ?_
      rw [e1, w0]
      refine tf_cV (tf_gok _ _) (c_Mod_shaped_0 l D q (d - 1) _ _ hT hR.2.2.2.2.2.2.2.2.1.1 hR.2.2.2.2.2.2.2.2.1.2.1 hc) 1235 d_Law_law_1232 rfl lk_Law_136 cw_Mod_shaped (by rfl) in_Mod_shaped se_Mod_shaped (by exact hT.1.1) (by exact hT.1.2.1) (by rfl) (by rfl) (by omega) (by exact Nat.le_of_ble_eq_true rfl) rfl ?_
      rintro v1232 L1232 f1232 ⟨rfl, rfl, hT⟩
      refine tf_blk _ b_Law_law_1235 rfl ?_
      refine tf_cV (tf_gok _ _) (c_Mod_thrown l D q (d - 1) _ _ hT) 1241 d_Law_law_1238 rfl lk_Law_62 cw_Mod_thrown (by rfl) in_Mod_thrown se_Mod_thrown (by exact hT.1.1) (by exact hT.1.2.1) (by rfl) (by rfl) (by omega) (by exact Nat.le_of_ble_eq_true rfl) rfl ?_
      rintro v1238 L1238 f1238 ⟨rfl, rfl, rfl⟩
      refine tf_blk _ b_Law_law_1241 rfl ?_
      refine tf_ic_eq 1248 1246 d_Law_law_1243 rfl rfl (fun h1243 => ?_) (fun h1243 => absurd (rfl) h1243)
      refine tf_blk _ b_Law_law_1248 rfl ?_
      refine tf_if_ne 1265 1253 d_Law_law_1250 rfl rfl (fun h1250 => absurd h1250 (not_not_intro rfl)) (fun h1250 => ?_)
      refine tf_blk _ b_Law_law_1253 rfl ?_
      refine tf_lald (n := ?n_1255_133) (g := ?g_1255_133) 1256 2 d_Law_law_1255 rfl rfl ?ha_1255_133 ?hf_1255_133 ?hi_1255_133 ?kk_1255_133
      case ha_1255_133 => exact hou
      case hf_1255_133 => rw [hT.2 ou hno]; exact va_up_self _ _ _
      case hi_1255_133 => exact (show vp_in (nI 0) 1 from vp_in_nI (by decide) (by decide))
      refine tf_blk _ b_Law_law_1256 rfl ?_
      refine tf_if_eq 1265 1263 d_Law_law_1260 rfl rfl (fun h1260 => ?_) (fun h1260 => absurd (lw_cmp0 (ea2.trans (by rw [nI_clamp (by have := hR.2.2.2.2.2.2.2.2.1.1; omega)]; exact (hR.2.2.2.2.2.2.2.2.1.2.2 c hc).1.symm))) h1260)
      refine tf_goto 1293 d_Law_law_1265 rfl ?_
      refine tf_less (kc2 := kc) (ks2 := ks) (by omega) (by omega) ?_
      refine tf_drop [0, 1, 2, 3, 4] rfl ?_
      exact hK (ad) _ _ _ _ _ _ (va_upJ g1 a) (rfl) (lw_cS (lw_cO hS2 _) hT) hT.1 (hR.t _) (hou) (by rw [hT.2 ou hno]; exact va_up_self _ _ _)
    · refine tf_blk _ b_Law_law_1200 rfl ?_
      refine tl_sld (fun _ _ h => h.2.1) 1207 d_Law_law_1206 rfl (hv1) ?_
      refine tf_blk _ b_Law_law_1207 rfl ?_
      refine tl_sld (fun _ _ h => h.2.1) 1213 d_Law_law_1212 rfl (hv2) ?_
      refine tf_blk _ b_Law_law_1213 rfl ?_
      refine tf_less (kc2 := kc + (0 + 1)) (ks2 := ks + (0 + 6)) (by omega) (by omega) ?_
      refine tl_cS (tf_gok _ _) tg_EL (fun _ _ h => h.1) (hl_shaped_x1 l D q (d - 1) _ _ (by omega) _ _ hx fx (c_Tf_shaped_0 l D q (d - 1 - 1) _ _ hl (by omega) hS _ _ w0 hi) (fun _ _ _ z => z) (fun _ _ _ z => z.1)) 1217 d_Law_law_1214 rfl lk_Law_133 tlw_shaped (by rfl) sal_shaped (by omega) (by exact Nat.le_of_ble_eq_true rfl) rfl ?_
      rintro v1214 L1214 f1214 ⟨rfl, -, rfl, rfl⟩
      refine tf_blk _ b_Law_law_1217 rfl ?_
      refine tl_sld (fun _ _ h => h.2.1) 1226 d_Law_law_1225 rfl (hv1) ?_
      refine tf_blk _ b_Law_law_1226 rfl ?_
      refine tl_sld (fun _ _ h => h.2.1) 1232 d_Law_law_1231 rfl (hv2) ?_
      refine tf_cV (tf_gok _ _) (c_Mod_shaped_n l D q (d - 1) _ _ hT _ _ (fun z => z.2.elim (fun y => lw_sn (by have := hR.2.2.2.2.2.2.2.2.1.1; omega) hi z.1 (by rw [← hR.2.2.2.2.2.2.2.2.1.2.1]; exact y.2)) (fun y => absurd (w0.symm.trans y.1) (by decide)))) 1235 d_Law_law_1232 rfl lk_Law_136 cw_Mod_shaped (by rfl) in_Mod_shaped se_Mod_shaped (by exact hT.1.1) (by exact hT.1.2.1) (by rfl) (by rfl) (by omega) (by exact Nat.le_of_ble_eq_true rfl) rfl ?_
      rintro v1232 L1232 f1232 ⟨rfl, rfl, hT⟩
      refine tf_blk _ b_Law_law_1235 rfl ?_
      refine tf_cV (tf_gok _ _) (c_Mod_thrown l D q (d - 1) _ _ hT) 1241 d_Law_law_1238 rfl lk_Law_62 cw_Mod_thrown (by rfl) in_Mod_thrown se_Mod_thrown (by exact hT.1.1) (by exact hT.1.2.1) (by rfl) (by rfl) (by omega) (by exact Nat.le_of_ble_eq_true rfl) rfl ?_
      rintro v1238 L1238 f1238 ⟨rfl, rfl, rfl⟩
      refine tf_blk _ b_Law_law_1241 rfl ?_
      refine tf_ic_eq 1248 1246 d_Law_law_1243 rfl rfl (fun h1243 => ?_) (fun h1243 => absurd (rfl) h1243)
      refine tf_blk _ b_Law_law_1248 rfl ?_
      refine tf_if_ne 1265 1253 d_Law_law_1250 rfl rfl (fun h1250 => ?_) (fun h1250 => absurd h1250 (show ¬ kI 1 = 0 by decide))
      refine tf_goto 1293 d_Law_law_1265 rfl ?_
      refine tf_less (kc2 := kc) (ks2 := ks) (by omega) (by omega) ?_
      refine tf_drop [0, 1, 2, 3, 4] rfl ?_
      exact hK (ad) _ _ _ _ _ _ (_) (rfl) (lw_cS (hS) hT) hT.1 (hR) (hou) (by rw [hT.2 ou hno]; exact fou)
  by_cases w1 : xs (nI i + kI 2).toNatClampNeg = kI 1
  · rcases bool_or (tw_in (xs (nI i + kI 1).toNatClampNeg) (kI 0) (nI S.rs)) with hi | hi
    · obtain ⟨c, hc, e1⟩ := lw_sN hR.2.2.2.2.2.2.2.2.1.1 hi
      rw [e1] at hi
      obtain ⟨gr, hg1, hg2⟩ := q_shaped_gr hR
      refine tf_blk _ b_Law_law_1200 rfl ?_
      refine tl_sld (fun _ _ h => h.2.1) 1207 d_Law_law_1206 rfl (hv1) ?_
      refine tf_blk _ b_Law_law_1207 rfl ?_
      refine tl_sld (fun _ _ h => h.2.1) 1213 d_Law_law_1212 rfl (hv2) ?_
      refine tf_blk _ b_Law_law_1213 rfl ?_
      rw [e1, w1]
      refine tf_less (kc2 := kc + (0 + 1)) (ks2 := ks + (0 + 6)) (by omega) (by omega) ?_
      refine tl_cS (tf_gok _ _) tg_EL (fun _ _ h => h.1) (hl_shaped_r l D q (d - 1) _ _ (by omega) _ _ hx fx (c_Tf_shaped_t1 l D q (d - 1 - 1) _ _ hl (by omega) hS (row_ok hR) hc _ rfl) (fun _ _ _ z => z) (fun v L2 f2 z => ⟨_, z.1, z.2.1 ▸ hou, g, (z.2.2.2 ou (Or.inr rfl)).trans fou⟩)) 1217 d_Law_law_1214 rfl lk_Law_133 tlw_shaped (by rfl) sal_shaped (by omega) (by exact Nat.le_of_ble_eq_true rfl) rfl ?_
      rintro v1214 L1214 f1214 ⟨rfl, a, f1, g1, ⟨ea, rfl, hS2, hB2⟩, fo, rfl⟩
      have ea2 := Value.int.inj (Option.some.inj ea)
      have hT := tm_mv9 (f2 := va_up f1 ou (tj q 1 (va_upJ g1 a))) hM (fun _ z => z) (fun z hz ho => (va_up_ne _ _ (fun e => hno (by rw [← e]; exact ho))).trans (hB2 z (Or.inl ho)))
      refine tf_blk _ b_Law_law_1217 rfl ?_
      refine tl_sld (fun _ _ h => h.2.1) 1226 d_Law_law_1225 rfl (hv1) ?_
      refine tf_blk _ b_Law_law_1226 rfl ?_
      refine tl_sld (fun _ _ h => h.2.1) 1232 d_Law_law_1231 rfl (hv2) ?_
      rw [e1, w1]
      refine tf_cV (tf_gok _ _) (c_Mod_shaped_1 l D q (d - 1) _ _ (by omega) hT hR.2.2.2.2.2.1.1 hR.2.2.2.2.2.1.2.1 hR.2.2.2.2.2.2.2.2.1.1 hR.2.2.2.2.2.2.2.2.1.2.1 hg1 (q_cv hR) hc) 1235 d_Law_law_1232 rfl lk_Law_136 cw_Mod_shaped (by rfl) in_Mod_shaped se_Mod_shaped (by exact hT.1.1) (by exact hT.1.2.1) (by rfl) (by rfl) (by omega) (by exact Nat.le_of_ble_eq_true rfl) rfl ?_
      rintro v1232 L1232 f1232 ⟨rfl, rfl, hT⟩
      refine tf_blk _ b_Law_law_1235 rfl ?_
      refine tf_cV (tf_gok _ _) (c_Mod_thrown l D q (d - 1) _ _ hT) 1241 d_Law_law_1238 rfl lk_Law_62 cw_Mod_thrown (by rfl) in_Mod_thrown se_Mod_thrown (by exact hT.1.1) (by exact hT.1.2.1) (by rfl) (by rfl) (by omega) (by exact Nat.le_of_ble_eq_true rfl) rfl ?_
      rintro v1238 L1238 f1238 ⟨rfl, rfl, rfl⟩
      refine tf_blk _ b_Law_law_1241 rfl ?_
      refine tf_ic_eq 1248 1246 d_Law_law_1243 rfl rfl (fun h1243 => ?_) (fun h1243 => absurd (rfl) h1243)
      refine tf_blk _ b_Law_law_1248 rfl ?_
      refine tf_if_ne 1265 1253 d_Law_law_1250 rfl rfl (fun h1250 => absurd h1250 (not_not_intro rfl)) (fun h1250 => ?_)
      refine tf_blk _ b_Law_law_1253 rfl ?_
      refine tf_lald (n := ?n_1255_141) (g := ?g_1255_141) 1256 2 d_Law_law_1255 rfl rfl ?ha_1255_141 ?hf_1255_141 ?hi_1255_141 ?kk_1255_141
      case ha_1255_141 => exact hou
      case hf_1255_141 => rw [hT.2 ou hno]; exact va_up_self _ _ _
      case hi_1255_141 => exact (show vp_in (nI 0) 1 from vp_in_nI (by decide) (by decide))
      refine tf_blk _ b_Law_law_1256 rfl ?_
      refine tf_if_eq 1265 1263 d_Law_law_1260 rfl rfl (fun h1260 => ?_) (fun h1260 => absurd (lw_cmp0 (ea2.trans (hg2 c hc))) h1260)
      refine tf_goto 1293 d_Law_law_1265 rfl ?_
      refine tf_less (kc2 := kc) (ks2 := ks) (by omega) (by omega) ?_
      refine tf_drop [0, 1, 2, 3, 4] rfl ?_
      exact hK (ad) _ _ _ _ _ _ (va_upJ g1 a) (rfl) (lw_cS (lw_cO hS2 _) hT) hT.1 (hR.t _) (hou) (by rw [hT.2 ou hno]; exact va_up_self _ _ _)
    · refine tf_blk _ b_Law_law_1200 rfl ?_
      refine tl_sld (fun _ _ h => h.2.1) 1207 d_Law_law_1206 rfl (hv1) ?_
      refine tf_blk _ b_Law_law_1207 rfl ?_
      refine tl_sld (fun _ _ h => h.2.1) 1213 d_Law_law_1212 rfl (hv2) ?_
      refine tf_blk _ b_Law_law_1213 rfl ?_
      refine tf_less (kc2 := kc + (0 + 1)) (ks2 := ks + (0 + 6)) (by omega) (by omega) ?_
      refine tl_cS (tf_gok _ _) tg_EL (fun _ _ h => h.1) (hl_shaped_x1 l D q (d - 1) _ _ (by omega) _ _ hx fx (c_Tf_shaped_1 l D q (d - 1 - 1) _ _ hl (by omega) hS _ _ w1 hi) (fun _ _ _ z => z) (fun _ _ _ z => z.1)) 1217 d_Law_law_1214 rfl lk_Law_133 tlw_shaped (by rfl) sal_shaped (by omega) (by exact Nat.le_of_ble_eq_true rfl) rfl ?_
      rintro v1214 L1214 f1214 ⟨rfl, -, rfl, rfl⟩
      refine tf_blk _ b_Law_law_1217 rfl ?_
      refine tl_sld (fun _ _ h => h.2.1) 1226 d_Law_law_1225 rfl (hv1) ?_
      refine tf_blk _ b_Law_law_1226 rfl ?_
      refine tl_sld (fun _ _ h => h.2.1) 1232 d_Law_law_1231 rfl (hv2) ?_
      refine tf_cV (tf_gok _ _) (c_Mod_shaped_n l D q (d - 1) _ _ hT _ _ (fun z => z.2.elim (fun y => w0 y.1) (fun y => lw_sl hR.2.2.2.2.2.2.2.2.1.1 hi z.1 (by rw [← hR.2.2.2.2.2.2.2.2.1.2.1]; exact y.2)))) 1235 d_Law_law_1232 rfl lk_Law_136 cw_Mod_shaped (by rfl) in_Mod_shaped se_Mod_shaped (by exact hT.1.1) (by exact hT.1.2.1) (by rfl) (by rfl) (by omega) (by exact Nat.le_of_ble_eq_true rfl) rfl ?_
      rintro v1232 L1232 f1232 ⟨rfl, rfl, hT⟩
      refine tf_blk _ b_Law_law_1235 rfl ?_
      refine tf_cV (tf_gok _ _) (c_Mod_thrown l D q (d - 1) _ _ hT) 1241 d_Law_law_1238 rfl lk_Law_62 cw_Mod_thrown (by rfl) in_Mod_thrown se_Mod_thrown (by exact hT.1.1) (by exact hT.1.2.1) (by rfl) (by rfl) (by omega) (by exact Nat.le_of_ble_eq_true rfl) rfl ?_
      rintro v1238 L1238 f1238 ⟨rfl, rfl, rfl⟩
      refine tf_blk _ b_Law_law_1241 rfl ?_
      refine tf_ic_eq 1248 1246 d_Law_law_1243 rfl rfl (fun h1243 => ?_) (fun h1243 => absurd (rfl) h1243)
      refine tf_blk _ b_Law_law_1248 rfl ?_
      refine tf_if_ne 1265 1253 d_Law_law_1250 rfl rfl (fun h1250 => ?_) (fun h1250 => absurd h1250 (show ¬ kI 1 = 0 by decide))
      refine tf_goto 1293 d_Law_law_1265 rfl ?_
      refine tf_less (kc2 := kc) (ks2 := ks) (by omega) (by omega) ?_
      refine tf_drop [0, 1, 2, 3, 4] rfl ?_
      exact hK (ad) _ _ _ _ _ _ (_) (rfl) (lw_cS (hS) hT) hT.1 (hR) (hou) (by rw [hT.2 ou hno]; exact fou)
  refine tf_blk _ b_Law_law_1200 rfl ?_
  refine tl_sld (fun _ _ h => h.2.1) 1207 d_Law_law_1206 rfl (hv1) ?_
  refine tf_blk _ b_Law_law_1207 rfl ?_
  refine tl_sld (fun _ _ h => h.2.1) 1213 d_Law_law_1212 rfl (hv2) ?_
  refine tf_blk _ b_Law_law_1213 rfl ?_
  refine tf_less (kc2 := kc + (0 + 1)) (ks2 := ks + (0 + 6)) (by omega) (by omega) ?_
  refine tl_cS (tf_gok _ _) tg_EL (fun _ _ h => h.1) (hl_shaped_x1 l D q (d - 1) _ _ (by omega) _ _ hx fx (c_Tf_shaped_w l D q (d - 1 - 1) _ _ hl (by omega) hS _ _ w0 w1) (fun _ _ _ z => z) (fun _ _ _ z => z.1)) 1217 d_Law_law_1214 rfl lk_Law_133 tlw_shaped (by rfl) sal_shaped (by omega) (by exact Nat.le_of_ble_eq_true rfl) rfl ?_
  rintro v1214 L1214 f1214 ⟨rfl, -, rfl, rfl⟩
  refine tf_blk _ b_Law_law_1217 rfl ?_
  refine tl_sld (fun _ _ h => h.2.1) 1226 d_Law_law_1225 rfl (hv1) ?_
  refine tf_blk _ b_Law_law_1226 rfl ?_
  refine tl_sld (fun _ _ h => h.2.1) 1232 d_Law_law_1231 rfl (hv2) ?_
  refine tf_cV (tf_gok _ _) (c_Mod_shaped_n l D q (d - 1) _ _ hT _ _ (fun z => z.2.elim (fun y => w0 y.1) (fun y => w1 y.1))) 1235 d_Law_law_1232 rfl lk_Law_136 cw_Mod_shaped (by rfl) in_Mod_shaped se_Mod_shaped (by exact hT.1.1) (by exact hT.1.2.1) (by rfl) (by rfl) (by omega) (by exact Nat.le_of_ble_eq_true rfl) rfl ?_
  rintro v1232 L1232 f1232 ⟨rfl, rfl, hT⟩
  refine tf_blk _ b_Law_law_1235 rfl ?_
  refine tf_cV (tf_gok _ _) (c_Mod_thrown l D q (d - 1) _ _ hT) 1241 d_Law_law_1238 rfl lk_Law_62 cw_Mod_thrown (by rfl) in_Mod_thrown se_Mod_thrown (by exact hT.1.1) (by exact hT.1.2.1) (by rfl) (by rfl) (by omega) (by exact Nat.le_of_ble_eq_true rfl) rfl ?_
  rintro v1238 L1238 f1238 ⟨rfl, rfl, rfl⟩
  refine tf_blk _ b_Law_law_1241 rfl ?_
  refine tf_ic_eq 1248 1246 d_Law_law_1243 rfl rfl (fun h1243 => ?_) (fun h1243 => absurd (rfl) h1243)
  refine tf_blk _ b_Law_law_1248 rfl ?_
  refine tf_if_ne 1265 1253 d_Law_law_1250 rfl rfl (fun h1250 => ?_) (fun h1250 => absurd h1250 (show ¬ kI 1 = 0 by decide))
  refine tf_goto 1293 d_Law_law_1265 rfl ?_
  refine tf_less (kc2 := kc) (ks2 := ks) (by omega) (by omega) ?_
  refine tf_drop [0, 1, 2, 3, 4] rfl ?_
  exact hK (ad) _ _ _ _ _ _ (_) (rfl) (lw_cS (hS) hT) hT.1 (hR) (hou) (by rw [hT.2 ou hno]; exact fou)
set_option maxHeartbeats 4000000 in
set_option maxRecDepth 100000 in
theorem lw_k14 {QB : tf_B} {kc ks K KS : Nat} (hk1 : kc + 20 ≤ K) (hk2 : ks + 1000 ≤ KS) {m ou b N i : Nat} {xs : Nat → Int32} {ad adm : Nat → Nat} {S : tc_S} {J : Nat → Int32} {A : Nat → Nat → Int32} {R : Nat → Int64} {g : Nat → Int64} (hl : l.stackTraces = false) (hd : 14 ≤ d) (hS : tc_at q ad S (lw_B adm m ou) L f) (hM : tm_ok q adm m J A R L f) (hR : RR S J A R) (hou : ou ∈ L) (fou : f ou = tj q 1 g) (hno : ¬ tm_own adm m ou) (hK : ∀ (ad2 : Nat → Nat) (S2 : tc_S) (J2 : Nat → Int32) (A2 : Nat → Nat → Int32) (R2 : Nat → Int64) (L2 : List Nat) (f2 : tf_F) (g2 : Nat → Int64), ad2 0 = ad 0 → tc_at q ad2 S2 (lw_B adm m ou) L2 f2 → tm_ok q adm m J2 A2 R2 L2 f2 → RR S2 J2 A2 R2 → ou ∈ L2 → f2 ou = tj q 1 g2 → tf_W l (tf_H D q) (tl_EX b N xs) QB d i_Law_law 1293 [(0, .ref b), (1, .ref (ad 0)), (2, .ref m), (3, .ref ou), (4, .int (nI i))] [] L2 f2 kc ks) (hv0 : vp_in (nI i) N) (hv1 : vp_in (nI i + kI 1) N) (hv2 : vp_in (nI i + kI 2) N) (hv3 : vp_in (nI i + kI 3) N) (hv4 : vp_in (nI i + kI 4) N) (hv5 : vp_in (nI i + kI 5) N) (hv6 : vp_in (nI i + kI 6) N) (hv7 : vp_in (nI i + kI 7) N) (hv8 : vp_in (nI i + kI 8) N) : tf_W l (tf_H D q) (tl_EX b N xs) QB d i_Law_law 956 [(0, .ref b), (1, .ref (ad 0)), (2, .ref m), (3, .ref ou), (4, .int (nI i))] [] L f K KS := by
  obtain ⟨hx, fx⟩ := tc_c0 hS
  have hT : tm_at q adm m f L J A R f := ⟨hM, fun _ _ => rfl⟩
  have hBL := lw_BL hM hou
  have hn : S.n ≤ 40 := hR.2.1.1
  have h4 := lw_mm hR
  obtain ⟨be, hbe⟩ : ∃ x, x = ((xs (nI i + kI 2).toNatClampNeg).toInt64 <<< ((kI 32).toInt64 &&& 63) ||| (xs (nI i + kI 3).toNatClampNeg).toInt64 &&& 4294967295) := ⟨_, rfl⟩
  obtain ⟨ip, hip⟩ : ∃ x, x = ((xs (nI i + kI 4).toNatClampNeg).toInt64 <<< ((kI 32).toInt64 &&& 63) ||| (xs (nI i + kI 5).toNatClampNeg).toInt64 &&& 4294967295) := ⟨_, rfl⟩
  obtain ⟨af, haf⟩ : ∃ x, x = ((xs (nI i + kI 6).toNatClampNeg).toInt64 <<< ((kI 32).toInt64 &&& 63) ||| (xs (nI i + kI 7).toNatClampNeg).toInt64 &&& 4294967295) := ⟨_, rfl⟩
  rcases bool_or (tw_in (xs (nI i + kI 1).toNatClampNeg) (kI 0) (kI 7)) with hlo | hlo
  · rcases bool_or (tc_made be ip af (xs (nI i + kI 8).toNatClampNeg) S) with hm | hm
    · have hmk := (made_eq hR _ _ _ _).mp hm
      obtain ⟨ll, hll, el⟩ := lw_t8 hlo
      by_cases h40 : S.rn = 40
      · refine tf_blk _ b_Law_law_956 rfl ?_
        refine tl_sld (fun _ _ h => h.2.1) 963 d_Law_law_962 rfl (hv1) ?_
        refine tf_blk _ b_Law_law_963 rfl ?_
        refine tl_sld (fun _ _ h => h.2.1) 969 d_Law_law_968 rfl (hv2) ?_
        refine tf_blk _ b_Law_law_969 rfl ?_
        refine tl_sld (fun _ _ h => h.2.1) 979 d_Law_law_978 rfl (hv3) ?_
        refine tf_blk _ b_Law_law_979 rfl ?_
        refine tf_ldc2 983 d_Law_law_980 rfl w_1513 ?_
        refine tf_blk _ b_Law_law_983 rfl ?_
        refine tl_sld (fun _ _ h => h.2.1) 991 d_Law_law_990 rfl (hv4) ?_
        refine tf_blk _ b_Law_law_991 rfl ?_
        refine tl_sld (fun _ _ h => h.2.1) 1001 d_Law_law_1000 rfl (hv5) ?_
        refine tf_blk _ b_Law_law_1001 rfl ?_
        refine tf_ldc2 1005 d_Law_law_1002 rfl w_1513 ?_
        refine tf_blk _ b_Law_law_1005 rfl ?_
        refine tl_sld (fun _ _ h => h.2.1) 1014 d_Law_law_1013 rfl (hv6) ?_
        refine tf_blk _ b_Law_law_1014 rfl ?_
        refine tl_sld (fun _ _ h => h.2.1) 1025 d_Law_law_1024 rfl (hv7) ?_
        refine tf_blk _ b_Law_law_1025 rfl ?_
        refine tf_ldc2 1029 d_Law_law_1026 rfl w_1513 ?_
        refine tf_blk _ b_Law_law_1029 rfl ?_
        refine tl_sld (fun _ _ h => h.2.1) 1038 d_Law_law_1037 rfl (hv8) ?_
        refine tf_blk _ b_Law_law_1038 rfl ?_
        rw [← hbe, ← hip, ← haf]
        refine tf_less (kc2 := kc + (0 + 2)) (ks2 := ks + (0 + 14)) (by omega) (by omega) ?_
        refine tl_cS (tf_gok _ _) tg_EL (fun _ _ h => h.1) (hl_rule_x2 l D q (d - 1) _ _ (by omega) _ _ _ _ _ hx fx (c_Tf_rule_40 l D q (d - 1 - 1) _ _ hl (by omega) hS _ _ _ _ _ hlo hm h40) (fun _ _ _ z => z) (fun _ _ _ z => z.1)) 1042 d_Law_law_1039 rfl lk_Law_121 tlw_rule (by rfl) sal_rule (by omega) (by exact Nat.le_of_ble_eq_true rfl) rfl ?_
        rintro v1039 L1039 f1039 ⟨rfl, -, hL2, hF2⟩
        have hT := tm_mv9 (f2 := f1039) hM hL2 (fun z hz _ => hF2 z hz)
        refine tf_blk _ b_Law_law_1042 rfl ?_
        refine tl_sld (fun _ _ h => h.2.1) 1051 d_Law_law_1050 rfl (hv1) ?_
        refine tf_blk _ b_Law_law_1051 rfl ?_
        refine tl_sld (fun _ _ h => h.2.1) 1057 d_Law_law_1056 rfl (hv2) ?_
        refine tf_blk _ b_Law_law_1057 rfl ?_
        refine tl_sld (fun _ _ h => h.2.1) 1067 d_Law_law_1066 rfl (hv3) ?_
        refine tf_blk _ b_Law_law_1067 rfl ?_
        refine tf_ldc2 1071 d_Law_law_1068 rfl w_1513 ?_
        refine tf_blk _ b_Law_law_1071 rfl ?_
        refine tl_sld (fun _ _ h => h.2.1) 1079 d_Law_law_1078 rfl (hv4) ?_
        refine tf_blk _ b_Law_law_1079 rfl ?_
        refine tl_sld (fun _ _ h => h.2.1) 1089 d_Law_law_1088 rfl (hv5) ?_
        refine tf_blk _ b_Law_law_1089 rfl ?_
        refine tf_ldc2 1093 d_Law_law_1090 rfl w_1513 ?_
        refine tf_blk _ b_Law_law_1093 rfl ?_
        refine tl_sld (fun _ _ h => h.2.1) 1102 d_Law_law_1101 rfl (hv6) ?_
        refine tf_blk _ b_Law_law_1102 rfl ?_
        refine tl_sld (fun _ _ h => h.2.1) 1113 d_Law_law_1112 rfl (hv7) ?_
        refine tf_blk _ b_Law_law_1113 rfl ?_
        refine tf_ldc2 1117 d_Law_law_1114 rfl w_1513 ?_
        refine tf_blk _ b_Law_law_1117 rfl ?_
        refine tl_sld (fun _ _ h => h.2.1) 1126 d_Law_law_1125 rfl (hv8) ?_
        rw [← hbe, ← hip, ← haf]
        refine tf_cV (tf_gok _ _) (c_Mod_rule_2 l D q (d - 1) _ _ (by omega) hT _ _ _ _ _ ⟨hmk.1, by rw [el]; exact nI_pos (by omega), by rw [el]; exact nI_ge hll (by decide), hmk.2⟩ (by rw [hR.2.2.2.2.2.2.1.2.1, h40]; rfl)) 1129 d_Law_law_1126 rfl lk_Law_124 cw_Mod_rule (by rfl) in_Mod_rule se_Mod_rule (by exact hT.1.1) (by exact hT.1.2.1) (by rfl) (by rfl) (by omega) (by exact Nat.le_of_ble_eq_true rfl) rfl ?_
        rintro v1126 L1126 f1126 ⟨rfl, rfl, hT⟩
        refine tf_blk _ b_Law_law_1129 rfl ?_
        refine tf_cV (tf_gok _ _) (c_Mod_thrown l D q (d - 1) _ _ hT) 1135 d_Law_law_1132 rfl lk_Law_62 cw_Mod_thrown (by rfl) in_Mod_thrown se_Mod_thrown (by exact hT.1.1) (by exact hT.1.2.1) (by rfl) (by rfl) (by omega) (by exact Nat.le_of_ble_eq_true rfl) rfl ?_
        rintro v1132 L1132 f1132 ⟨rfl, rfl, rfl⟩
        refine tf_blk _ b_Law_law_1135 rfl ?_
        refine tf_ic_eq 1142 1140 d_Law_law_1137 rfl rfl (fun h1137 => ?_) (fun h1137 => absurd (rfl) h1137)
        refine tf_blk _ b_Law_law_1142 rfl ?_
        refine tf_if_ne 1159 1147 d_Law_law_1144 rfl rfl (fun h1144 => ?_) (fun h1144 => absurd h1144 (show ¬ kI 2 = 0 by decide))
        refine tf_goto 1293 d_Law_law_1159 rfl ?_
        refine tf_less (kc2 := kc) (ks2 := ks) (by omega) (by omega) ?_
        refine tf_drop [0, 1, 2, 3, 4] rfl ?_
        exact hK (ad) _ _ _ _ _ _ (_) (rfl) (lw_cS (tc_more hS hL2 hF2) hT) hT.1 (hR) (hL2 ou hou) (by rw [hT.2 ou hno]; exact (hF2 ou hou).trans fou)
      have h39 : S.rn < 40 := by have := hR.2.2.2.2.2.2.1.1; omega
      refine tf_blk _ b_Law_law_956 rfl ?_
      refine tl_sld (fun _ _ h => h.2.1) 963 d_Law_law_962 rfl (hv1) ?_
      refine tf_blk _ b_Law_law_963 rfl ?_
      refine tl_sld (fun _ _ h => h.2.1) 969 d_Law_law_968 rfl (hv2) ?_
      refine tf_blk _ b_Law_law_969 rfl ?_
      refine tl_sld (fun _ _ h => h.2.1) 979 d_Law_law_978 rfl (hv3) ?_
      refine tf_blk _ b_Law_law_979 rfl ?_
      refine tf_ldc2 983 d_Law_law_980 rfl w_1513 ?_
      refine tf_blk _ b_Law_law_983 rfl ?_
      refine tl_sld (fun _ _ h => h.2.1) 991 d_Law_law_990 rfl (hv4) ?_
      refine tf_blk _ b_Law_law_991 rfl ?_
      refine tl_sld (fun _ _ h => h.2.1) 1001 d_Law_law_1000 rfl (hv5) ?_
      refine tf_blk _ b_Law_law_1001 rfl ?_
      refine tf_ldc2 1005 d_Law_law_1002 rfl w_1513 ?_
      refine tf_blk _ b_Law_law_1005 rfl ?_
      refine tl_sld (fun _ _ h => h.2.1) 1014 d_Law_law_1013 rfl (hv6) ?_
      refine tf_blk _ b_Law_law_1014 rfl ?_
      refine tl_sld (fun _ _ h => h.2.1) 1025 d_Law_law_1024 rfl (hv7) ?_
      refine tf_blk _ b_Law_law_1025 rfl ?_
      refine tf_ldc2 1029 d_Law_law_1026 rfl w_1513 ?_
      refine tf_blk _ b_Law_law_1029 rfl ?_
      refine tl_sld (fun _ _ h => h.2.1) 1038 d_Law_law_1037 rfl (hv8) ?_
      refine tf_blk _ b_Law_law_1038 rfl ?_
      rw [← hbe, ← hip, ← haf]
      refine tf_less (kc2 := kc + (0 + 2)) (ks2 := ks + (0 + 14)) (by omega) (by omega) ?_
      refine tl_cS (tf_gok _ _) tg_EL (fun _ _ h => h.1) (hl_rule_r l D q (d - 1) _ _ (by omega) _ _ _ _ _ hx fx (c_Tf_rule_t l D q (d - 1 - 1) _ _ hl (by omega) hS _ _ _ _ _ (lw_cl hR) hBL hlo hm h39) (fun _ _ _ z => z) (fun v L2 f2 z => by obtain ⟨na, k1, k2, k3, k4⟩ := z.2; exact ⟨_, z.1, k2 ▸ List.mem_append_left _ hou, g, (k4 ou (Or.inr rfl)).trans fou⟩)) 1042 d_Law_law_1039 rfl lk_Law_121 tlw_rule (by rfl) sal_rule (by omega) (by exact Nat.le_of_ble_eq_true rfl) rfl ?_
      rintro v1039 L1039 f1039 ⟨rfl, a, f1, g1, ⟨ea, na, hna, rfl, hS2, hB2⟩, fo, rfl⟩
      have ea2 := Value.int.inj (Option.some.inj ea)
      have hT := tm_mv9 (f2 := va_up f1 ou (tj q 1 (va_upJ g1 a))) hM (fun z hz => List.mem_append_left [na] hz) (fun z hz ho => (va_up_ne _ _ (fun e => hno (by rw [← e]; exact ho))).trans (hB2 z (Or.inl ho)))
      refine tf_blk _ b_Law_law_1042 rfl ?_
      refine tl_sld (fun _ _ h => h.2.1) 1051 d_Law_law_1050 rfl (hv1) ?_
      refine tf_blk _ b_Law_law_1051 rfl ?_
      refine tl_sld (fun _ _ h => h.2.1) 1057 d_Law_law_1056 rfl (hv2) ?_
      refine tf_blk _ b_Law_law_1057 rfl ?_
      refine tl_sld (fun _ _ h => h.2.1) 1067 d_Law_law_1066 rfl (hv3) ?_
      refine tf_blk _ b_Law_law_1067 rfl ?_
      refine tf_ldc2 1071 d_Law_law_1068 rfl w_1513 ?_
      refine tf_blk _ b_Law_law_1071 rfl ?_
      refine tl_sld (fun _ _ h => h.2.1) 1079 d_Law_law_1078 rfl (hv4) ?_
      refine tf_blk _ b_Law_law_1079 rfl ?_
      refine tl_sld (fun _ _ h => h.2.1) 1089 d_Law_law_1088 rfl (hv5) ?_
      refine tf_blk _ b_Law_law_1089 rfl ?_
      refine tf_ldc2 1093 d_Law_law_1090 rfl w_1513 ?_
      refine tf_blk _ b_Law_law_1093 rfl ?_
      refine tl_sld (fun _ _ h => h.2.1) 1102 d_Law_law_1101 rfl (hv6) ?_
      refine tf_blk _ b_Law_law_1102 rfl ?_
      refine tl_sld (fun _ _ h => h.2.1) 1113 d_Law_law_1112 rfl (hv7) ?_
      refine tf_blk _ b_Law_law_1113 rfl ?_
      refine tf_ldc2 1117 d_Law_law_1114 rfl w_1513 ?_
      refine tf_blk _ b_Law_law_1117 rfl ?_
      refine tl_sld (fun _ _ h => h.2.1) 1126 d_Law_law_1125 rfl (hv8) ?_
      rw [← hbe, ← hip, ← haf]
      refine tf_cV (tf_gok _ _) (c_Mod_rule_t l D q (d - 1) _ _ (by omega) hT _ _ _ _ _ h39 ⟨hmk.1, by rw [el]; exact nI_pos (by omega), by rw [el]; exact nI_ge hll (by decide), hmk.2⟩ hR.2.2.2.2.2.2.1.2.1) 1129 d_Law_law_1126 rfl lk_Law_124 cw_Mod_rule (by rfl) in_Mod_rule se_Mod_rule (by exact hT.1.1) (by exact hT.1.2.1) (by rfl) (by rfl) (by omega) (by exact Nat.le_of_ble_eq_true rfl) rfl ?_
      rintro v1126 L1126 f1126 ⟨rfl, rfl, hT⟩
      refine tf_blk _ b_Law_law_1129 rfl ?_
      refine tf_cV (tf_gok _ _) (c_Mod_thrown l D q (d - 1) _ _ hT) 1135 d_Law_law_1132 rfl lk_Law_62 cw_Mod_thrown (by rfl) in_Mod_thrown se_Mod_thrown (by exact hT.1.1) (by exact hT.1.2.1) (by rfl) (by rfl) (by omega) (by exact Nat.le_of_ble_eq_true rfl) rfl ?_
      rintro v1132 L1132 f1132 ⟨rfl, rfl, rfl⟩
      refine tf_blk _ b_Law_law_1135 rfl ?_
      refine tf_ic_eq 1142 1140 d_Law_law_1137 rfl rfl (fun h1137 => ?_) (fun h1137 => absurd (rfl) h1137)
      refine tf_blk _ b_Law_law_1142 rfl ?_
      refine tf_if_ne 1159 1147 d_Law_law_1144 rfl rfl (fun h1144 => absurd h1144 (not_not_intro rfl)) (fun h1144 => ?_)
      refine tf_blk _ b_Law_law_1147 rfl ?_
      refine tf_lald (n := ?n_1149_218) (g := ?g_1149_218) 1150 2 d_Law_law_1149 rfl rfl ?ha_1149_218 ?hf_1149_218 ?hi_1149_218 ?kk_1149_218
      case ha_1149_218 => exact List.mem_append_left _ hou
      case hf_1149_218 => rw [hT.2 ou hno]; exact va_up_self _ _ _
      case hi_1149_218 => exact (show vp_in (nI 0) 1 from vp_in_nI (by decide) (by decide))
      refine tf_blk _ b_Law_law_1150 rfl ?_
      refine tf_if_eq 1159 1157 d_Law_law_1154 rfl rfl (fun h1154 => ?_) (fun h1154 => absurd (lw_cmp0 (ea2.trans (lw_pm1 _))) h1154)
      refine tf_goto 1293 d_Law_law_1159 rfl ?_
      refine tf_less (kc2 := kc) (ks2 := ks) (by omega) (by omega) ?_
      refine tf_drop [0, 1, 2, 3, 4] rfl ?_
      exact hK (va_up ad (32 + S.rn) na) _ _ _ _ _ _ (va_upJ g1 a) (va_up_ne _ _ (by omega)) (lw_cS (lw_cO hS2 _) hT) hT.1 (q_rule hR _ hm h39) (List.mem_append_left _ hou) (by rw [hT.2 ou hno]; exact va_up_self _ _ _)
    · refine tf_blk _ b_Law_law_956 rfl ?_
      refine tl_sld (fun _ _ h => h.2.1) 963 d_Law_law_962 rfl (hv1) ?_
      refine tf_blk _ b_Law_law_963 rfl ?_
      refine tl_sld (fun _ _ h => h.2.1) 969 d_Law_law_968 rfl (hv2) ?_
      refine tf_blk _ b_Law_law_969 rfl ?_
      refine tl_sld (fun _ _ h => h.2.1) 979 d_Law_law_978 rfl (hv3) ?_
      refine tf_blk _ b_Law_law_979 rfl ?_
      refine tf_ldc2 983 d_Law_law_980 rfl w_1513 ?_
      refine tf_blk _ b_Law_law_983 rfl ?_
      refine tl_sld (fun _ _ h => h.2.1) 991 d_Law_law_990 rfl (hv4) ?_
      refine tf_blk _ b_Law_law_991 rfl ?_
      refine tl_sld (fun _ _ h => h.2.1) 1001 d_Law_law_1000 rfl (hv5) ?_
      refine tf_blk _ b_Law_law_1001 rfl ?_
      refine tf_ldc2 1005 d_Law_law_1002 rfl w_1513 ?_
      refine tf_blk _ b_Law_law_1005 rfl ?_
      refine tl_sld (fun _ _ h => h.2.1) 1014 d_Law_law_1013 rfl (hv6) ?_
      refine tf_blk _ b_Law_law_1014 rfl ?_
      refine tl_sld (fun _ _ h => h.2.1) 1025 d_Law_law_1024 rfl (hv7) ?_
      refine tf_blk _ b_Law_law_1025 rfl ?_
      refine tf_ldc2 1029 d_Law_law_1026 rfl w_1513 ?_
      refine tf_blk _ b_Law_law_1029 rfl ?_
      refine tl_sld (fun _ _ h => h.2.1) 1038 d_Law_law_1037 rfl (hv8) ?_
      refine tf_blk _ b_Law_law_1038 rfl ?_
      rw [← hbe, ← hip, ← haf]
      refine tf_less (kc2 := kc + (0 + 2)) (ks2 := ks + (0 + 14)) (by omega) (by omega) ?_
      refine tl_cS (tf_gok _ _) tg_EL (fun _ _ h => h.1) (hl_rule_x1 l D q (d - 1) _ _ (by omega) _ _ _ _ _ hx fx (c_Tf_rule_m l D q (d - 1 - 1) _ _ hl (by omega) hS _ _ _ _ _ hlo hm) (fun _ _ _ z => z) (fun _ _ _ z => z.1)) 1042 d_Law_law_1039 rfl lk_Law_121 tlw_rule (by rfl) sal_rule (by omega) (by exact Nat.le_of_ble_eq_true rfl) rfl ?_
      rintro v1039 L1039 f1039 ⟨rfl, -, hL2, hF2⟩
      have hT := tm_mv9 (f2 := f1039) hM hL2 (fun z hz _ => hF2 z hz)
      refine tf_blk _ b_Law_law_1042 rfl ?_
      refine tl_sld (fun _ _ h => h.2.1) 1051 d_Law_law_1050 rfl (hv1) ?_
      refine tf_blk _ b_Law_law_1051 rfl ?_
      refine tl_sld (fun _ _ h => h.2.1) 1057 d_Law_law_1056 rfl (hv2) ?_
      refine tf_blk _ b_Law_law_1057 rfl ?_
      refine tl_sld (fun _ _ h => h.2.1) 1067 d_Law_law_1066 rfl (hv3) ?_
      refine tf_blk _ b_Law_law_1067 rfl ?_
      refine tf_ldc2 1071 d_Law_law_1068 rfl w_1513 ?_
      refine tf_blk _ b_Law_law_1071 rfl ?_
      refine tl_sld (fun _ _ h => h.2.1) 1079 d_Law_law_1078 rfl (hv4) ?_
      refine tf_blk _ b_Law_law_1079 rfl ?_
      refine tl_sld (fun _ _ h => h.2.1) 1089 d_Law_law_1088 rfl (hv5) ?_
      refine tf_blk _ b_Law_law_1089 rfl ?_
      refine tf_ldc2 1093 d_Law_law_1090 rfl w_1513 ?_
      refine tf_blk _ b_Law_law_1093 rfl ?_
      refine tl_sld (fun _ _ h => h.2.1) 1102 d_Law_law_1101 rfl (hv6) ?_
      refine tf_blk _ b_Law_law_1102 rfl ?_
      refine tl_sld (fun _ _ h => h.2.1) 1113 d_Law_law_1112 rfl (hv7) ?_
      refine tf_blk _ b_Law_law_1113 rfl ?_
      refine tf_ldc2 1117 d_Law_law_1114 rfl w_1513 ?_
      refine tf_blk _ b_Law_law_1117 rfl ?_
      refine tl_sld (fun _ _ h => h.2.1) 1126 d_Law_law_1125 rfl (hv8) ?_
      rw [← hbe, ← hip, ← haf]
      refine tf_cV (tf_gok _ _) (c_Mod_rule_1 l D q (d - 1) _ _ (by omega) hT _ _ _ _ _ (fun z => by rw [(made_eq hR _ _ _ _).mpr ⟨z.1, z.2.2.2⟩] at hm; cases hm)) 1129 d_Law_law_1126 rfl lk_Law_124 cw_Mod_rule (by rfl) in_Mod_rule se_Mod_rule (by exact hT.1.1) (by exact hT.1.2.1) (by rfl) (by rfl) (by omega) (by exact Nat.le_of_ble_eq_true rfl) rfl ?_
      rintro v1126 L1126 f1126 ⟨rfl, rfl, hT⟩
      refine tf_blk _ b_Law_law_1129 rfl ?_
      refine tf_cV (tf_gok _ _) (c_Mod_thrown l D q (d - 1) _ _ hT) 1135 d_Law_law_1132 rfl lk_Law_62 cw_Mod_thrown (by rfl) in_Mod_thrown se_Mod_thrown (by exact hT.1.1) (by exact hT.1.2.1) (by rfl) (by rfl) (by omega) (by exact Nat.le_of_ble_eq_true rfl) rfl ?_
      rintro v1132 L1132 f1132 ⟨rfl, rfl, rfl⟩
      refine tf_blk _ b_Law_law_1135 rfl ?_
      refine tf_ic_eq 1142 1140 d_Law_law_1137 rfl rfl (fun h1137 => ?_) (fun h1137 => absurd (rfl) h1137)
      refine tf_blk _ b_Law_law_1142 rfl ?_
      refine tf_if_ne 1159 1147 d_Law_law_1144 rfl rfl (fun h1144 => ?_) (fun h1144 => absurd h1144 (show ¬ kI 1 = 0 by decide))
      refine tf_goto 1293 d_Law_law_1159 rfl ?_
      refine tf_less (kc2 := kc) (ks2 := ks) (by omega) (by omega) ?_
      refine tf_drop [0, 1, 2, 3, 4] rfl ?_
      exact hK (ad) _ _ _ _ _ _ (_) (rfl) (lw_cS (tc_more hS hL2 hF2) hT) hT.1 (hR) (hL2 ou hou) (by rw [hT.2 ou hno]; exact (hF2 ou hou).trans fou)
  · refine tf_blk _ b_Law_law_956 rfl ?_
    refine tl_sld (fun _ _ h => h.2.1) 963 d_Law_law_962 rfl (hv1) ?_
    refine tf_blk _ b_Law_law_963 rfl ?_
    refine tl_sld (fun _ _ h => h.2.1) 969 d_Law_law_968 rfl (hv2) ?_
    refine tf_blk _ b_Law_law_969 rfl ?_
    refine tl_sld (fun _ _ h => h.2.1) 979 d_Law_law_978 rfl (hv3) ?_
    refine tf_blk _ b_Law_law_979 rfl ?_
    refine tf_ldc2 983 d_Law_law_980 rfl w_1513 ?_
    refine tf_blk _ b_Law_law_983 rfl ?_
    refine tl_sld (fun _ _ h => h.2.1) 991 d_Law_law_990 rfl (hv4) ?_
    refine tf_blk _ b_Law_law_991 rfl ?_
    refine tl_sld (fun _ _ h => h.2.1) 1001 d_Law_law_1000 rfl (hv5) ?_
    refine tf_blk _ b_Law_law_1001 rfl ?_
    refine tf_ldc2 1005 d_Law_law_1002 rfl w_1513 ?_
    refine tf_blk _ b_Law_law_1005 rfl ?_
    refine tl_sld (fun _ _ h => h.2.1) 1014 d_Law_law_1013 rfl (hv6) ?_
    refine tf_blk _ b_Law_law_1014 rfl ?_
    refine tl_sld (fun _ _ h => h.2.1) 1025 d_Law_law_1024 rfl (hv7) ?_
    refine tf_blk _ b_Law_law_1025 rfl ?_
    refine tf_ldc2 1029 d_Law_law_1026 rfl w_1513 ?_
    refine tf_blk _ b_Law_law_1029 rfl ?_
    refine tl_sld (fun _ _ h => h.2.1) 1038 d_Law_law_1037 rfl (hv8) ?_
    refine tf_blk _ b_Law_law_1038 rfl ?_
    rw [← hbe, ← hip, ← haf]
    refine tf_less (kc2 := kc + (0 + 2)) (ks2 := ks + (0 + 14)) (by omega) (by omega) ?_
    refine tl_cS (tf_gok _ _) tg_EL (fun _ _ h => h.1) (hl_rule_x1 l D q (d - 1) _ _ (by omega) _ _ _ _ _ hx fx (c_Tf_rule_l l D q (d - 1 - 1) _ _ hl (by omega) hS _ _ _ _ _ hlo) (fun _ _ _ z => z) (fun _ _ _ z => z.1)) 1042 d_Law_law_1039 rfl lk_Law_121 tlw_rule (by rfl) sal_rule (by omega) (by exact Nat.le_of_ble_eq_true rfl) rfl ?_
    rintro v1039 L1039 f1039 ⟨rfl, -, hL2, hF2⟩
    have hT := tm_mv9 (f2 := f1039) hM hL2 (fun z hz _ => hF2 z hz)
    refine tf_blk _ b_Law_law_1042 rfl ?_
    refine tl_sld (fun _ _ h => h.2.1) 1051 d_Law_law_1050 rfl (hv1) ?_
    refine tf_blk _ b_Law_law_1051 rfl ?_
    refine tl_sld (fun _ _ h => h.2.1) 1057 d_Law_law_1056 rfl (hv2) ?_
    refine tf_blk _ b_Law_law_1057 rfl ?_
    refine tl_sld (fun _ _ h => h.2.1) 1067 d_Law_law_1066 rfl (hv3) ?_
    refine tf_blk _ b_Law_law_1067 rfl ?_
    refine tf_ldc2 1071 d_Law_law_1068 rfl w_1513 ?_
    refine tf_blk _ b_Law_law_1071 rfl ?_
    refine tl_sld (fun _ _ h => h.2.1) 1079 d_Law_law_1078 rfl (hv4) ?_
    refine tf_blk _ b_Law_law_1079 rfl ?_
    refine tl_sld (fun _ _ h => h.2.1) 1089 d_Law_law_1088 rfl (hv5) ?_
    refine tf_blk _ b_Law_law_1089 rfl ?_
    refine tf_ldc2 1093 d_Law_law_1090 rfl w_1513 ?_
    refine tf_blk _ b_Law_law_1093 rfl ?_
    refine tl_sld (fun _ _ h => h.2.1) 1102 d_Law_law_1101 rfl (hv6) ?_
    refine tf_blk _ b_Law_law_1102 rfl ?_
    refine tl_sld (fun _ _ h => h.2.1) 1113 d_Law_law_1112 rfl (hv7) ?_
    refine tf_blk _ b_Law_law_1113 rfl ?_
    refine tf_ldc2 1117 d_Law_law_1114 rfl w_1513 ?_
    refine tf_blk _ b_Law_law_1117 rfl ?_
    refine tl_sld (fun _ _ h => h.2.1) 1126 d_Law_law_1125 rfl (hv8) ?_
    rw [← hbe, ← hip, ← haf]
    refine tf_cV (tf_gok _ _) (c_Mod_rule_1 l D q (d - 1) _ _ (by omega) hT _ _ _ _ _ (fun z => lw_t7 hlo z.2.1 z.2.2.1)) 1129 d_Law_law_1126 rfl lk_Law_124 cw_Mod_rule (by rfl) in_Mod_rule se_Mod_rule (by exact hT.1.1) (by exact hT.1.2.1) (by rfl) (by rfl) (by omega) (by exact Nat.le_of_ble_eq_true rfl) rfl ?_
    rintro v1126 L1126 f1126 ⟨rfl, rfl, hT⟩
    refine tf_blk _ b_Law_law_1129 rfl ?_
    refine tf_cV (tf_gok _ _) (c_Mod_thrown l D q (d - 1) _ _ hT) 1135 d_Law_law_1132 rfl lk_Law_62 cw_Mod_thrown (by rfl) in_Mod_thrown se_Mod_thrown (by exact hT.1.1) (by exact hT.1.2.1) (by rfl) (by rfl) (by omega) (by exact Nat.le_of_ble_eq_true rfl) rfl ?_
    rintro v1132 L1132 f1132 ⟨rfl, rfl, rfl⟩
    refine tf_blk _ b_Law_law_1135 rfl ?_
    refine tf_ic_eq 1142 1140 d_Law_law_1137 rfl rfl (fun h1137 => ?_) (fun h1137 => absurd (rfl) h1137)
    refine tf_blk _ b_Law_law_1142 rfl ?_
    refine tf_if_ne 1159 1147 d_Law_law_1144 rfl rfl (fun h1144 => ?_) (fun h1144 => absurd h1144 (show ¬ kI 1 = 0 by decide))
    refine tf_goto 1293 d_Law_law_1159 rfl ?_
    refine tf_less (kc2 := kc) (ks2 := ks) (by omega) (by omega) ?_
    refine tf_drop [0, 1, 2, 3, 4] rfl ?_
    exact hK (ad) _ _ _ _ _ _ (_) (rfl) (lw_cS (tc_more hS hL2 hF2) hT) hT.1 (hR) (hL2 ou hou) (by rw [hT.2 ou hno]; exact (hF2 ou hou).trans fou)
end
