/-! the law over both states: outline, draw -/
section
variable (l : Launch) (D : va_G) (q : Nat → ClassId) (d : Nat) (L : List Nat) (f : tf_F)
end
theorem lw_t3 {t : Int32} (h : tw_in t (kI 0) (kI 3) = false) (h0 : ¬ t < 0) (h1 : ¬ kI 3 < t) : False := by
  rw [show kI 3 = nI 4 - kI 1 from by decide] at h
  obtain ⟨k, hk, e⟩ := nI_of h0
  rw [e, show kI 3 = nI 3 from rfl, nI_ltI (by decide) hk] at h1
  rw [e, tw_inI (n := 4) (by decide) (by omega)] at h
  cases h
theorem lw_t4 {t : Int32} (h : tw_in t (kI 0) (kI 3) = true) : ¬ t < 0 ∧ ¬ kI 3 < t := by
  obtain ⟨r, hr, e⟩ := tw_inN (n := 4) (x := t) (by decide) (by rw [show nI 4 - kI 1 = kI 3 from by decide]; exact h)
  rw [e]
  exact ⟨nI_pos (by omega), by rw [show kI 3 = nI 3 from rfl, nI_ltI (by decide) (by omega)]; omega⟩
theorem lw_opn {a b : Nat} (h : a + b ≤ 160) : (nI a + nI b - kI 1).toInt = (a + b : Int) - 1 := by
  rw [nI_add, Int32.toInt_sub, nI_toInt (by omega), show (kI 1).toInt = 1 from by decide]
  simp only [Int.bmod]
  omega
theorem lw_kt {k : Int32} {a b : Nat} (h : a + b ≤ 160) : tw_in k (kI (-1)) (nI a + nI b - kI 1) = true ↔ -1 ≤ k.toInt ∧ k.toInt ≤ (a + b : Int) - 1 := by
  unfold tw_in
  rw [Bool.and_eq_true, decide_eq_true_eq, decide_eq_true_eq, Int32.le_iff_toInt_le, Int32.le_iff_toInt_le, lw_opn h, show (kI (-1)).toInt = -1 from by decide]
theorem lw_kk {k : Int32} {a b : Nat} (h : a + b ≤ 160) (hk : tw_in k (kI (-1)) (nI a + nI b - kI 1) = true) : k = kI (-1) ∨ ∃ j, j < a + b ∧ k = nI j := by
  have := (lw_kt h).mp hk
  by_cases hm : k.toInt = -1
  · exact Or.inl (Int32.toInt_inj.mp (hm.trans (by decide)))
  · obtain ⟨j, hj, e⟩ := nI_of (x := k) (by rw [Int32.lt_iff_toInt_lt, show (0 : Int32).toInt = 0 from by decide]; omega)
    refine Or.inr ⟨j, ?_, e⟩
    rw [e, nI_toInt hj] at this
    omega
theorem lw_kf {k : Int32} {a b : Nat} (h : a + b ≤ 160) (hk : tw_in k (kI (-1)) (nI a + nI b - kI 1) = false) (h1 : ¬ k < kI (-1)) : ¬ k < nI (a + b) := by
  intro z
  rw [Int32.lt_iff_toInt_lt, nI_toInt (by omega)] at z
  rw [Int32.lt_iff_toInt_lt, show (kI (-1)).toInt = -1 from by decide] at h1
  rw [(lw_kt h).mpr ⟨by omega, by omega⟩] at hk
  cases hk
theorem lw_sd {s : Int32} (h : tw_isSide s = false) : ¬ (s = kI 32 ∨ s = kI 64 ∨ s = kI 128 ∨ s = kI 256) := by
  rintro (z | z | z | z) <;> (rw [z] at h; revert h; decide)
theorem lw_sa {s : Int32} (h : tw_isSide s = true) : ∃ n, tc_acr s n := by
  unfold tw_isSide at h
  rw [Bool.or_eq_true, Bool.or_eq_true, Bool.or_eq_true, decide_eq_true_eq, decide_eq_true_eq, decide_eq_true_eq, decide_eq_true_eq] at h
  rcases h with ((h | h) | h) | h
  · exact ⟨64, Or.inl ⟨h, rfl⟩⟩
  · exact ⟨32, Or.inr (Or.inl ⟨h, rfl⟩)⟩
  · exact ⟨16, Or.inr (Or.inr (Or.inl ⟨h, rfl⟩))⟩
  · exact ⟨8, Or.inr (Or.inr (Or.inr ⟨h, rfl⟩))⟩
theorem lw_s0 {s : Int32} {n : Nat} (h : tc_acr s n) : 0 < s.toInt ∧ s.toInt ≤ 256 := by
  rcases h with ⟨e, _⟩ | ⟨e, _⟩ | ⟨e, _⟩ | ⟨e, _⟩ <;> (rw [e]; decide)
theorem olen_ge : ∀ {L : oC}, oGood L → L.length ≤ olen L
  | [], _ => Nat.le_refl _
  | l :: L, h => by
    have h1 := (h l (List.mem_cons_self ..)).1
    have h2 := olen_ge (L := L) (fun x hx => h x (List.mem_cons_of_mem _ hx))
    show L.length + 1 ≤ l.length + olen L
    omega
theorem lw_oc {S : tc_S} {J : Nat → Int32} {A : Nat → Nat → Int32} {R : Nat → Int64} (hR : RR S J A R) {g : Nat} (hg : g < S.n) : tc_oc (S.T g) ≤ tc_op (S.T g) := by
  obtain ⟨o1, o2, o3⟩ := oL_i (rGl_G hR) (rGl_O hR) 4 g hg (lw_13 hR hg).2.1
  rw [← o2, ← o3]
  exact olen_ge o1
section
variable (l : Launch) (D : va_G) (q : Nat → ClassId) (d : Nat) (L : List Nat) (f : tf_F)
set_option maxHeartbeats 4000000 in
set_option maxRecDepth 100000 in
theorem lw_k7 {QB : tf_B} {kc ks K KS : Nat} (hk1 : kc + 20 ≤ K) (hk2 : ks + 1000 ≤ KS) {m ou b N i : Nat} {xs : Nat → Int32} {ad adm : Nat → Nat} {S : tc_S} {J : Nat → Int32} {A : Nat → Nat → Int32} {R : Nat → Int64} {g : Nat → Int64} (hl : l.stackTraces = false) (hd : 14 ≤ d) (hS : tc_at q ad S (lw_B adm m ou) L f) (hM : tm_ok q adm m J A R L f) (hR : RR S J A R) (hou : ou ∈ L) (fou : f ou = tj q 1 g) (hno : ¬ tm_own adm m ou) (hK : ∀ (ad2 : Nat → Nat) (S2 : tc_S) (J2 : Nat → Int32) (A2 : Nat → Nat → Int32) (R2 : Nat → Int64) (L2 : List Nat) (f2 : tf_F) (g2 : Nat → Int64), ad2 0 = ad 0 → tc_at q ad2 S2 (lw_B adm m ou) L2 f2 → tm_ok q adm m J2 A2 R2 L2 f2 → RR S2 J2 A2 R2 → ou ∈ L2 → f2 ou = tj q 1 g2 → tf_W l (tf_H D q) (tl_EX b N xs) QB d i_Law_law 1293 [(0, .ref b), (1, .ref (ad 0)), (2, .ref m), (3, .ref ou), (4, .int (nI i))] [] L2 f2 kc ks) (hv0 : vp_in (nI i) N) (hv1 : vp_in (nI i + kI 1) N) (hv2 : vp_in (nI i + kI 2) N) (hv3 : vp_in (nI i + kI 3) N) (hv4 : vp_in (nI i + kI 4) N) (hv5 : vp_in (nI i + kI 5) N) (hv6 : vp_in (nI i + kI 6) N) (hv7 : vp_in (nI i + kI 7) N) (hv8 : vp_in (nI i + kI 8) N) : tf_W l (tf_H D q) (tl_EX b N xs) QB d i_Law_law 571 [(0, .ref b), (1, .ref (ad 0)), (2, .ref m), (3, .ref ou), (4, .int (nI i))] [] L f K KS := by
  obtain ⟨hx, fx⟩ := tc_c0 hS
  have hT : tm_at q adm m f L J A R f := ⟨hM, fun _ _ => rfl⟩
  have hBL := lw_BL hM hou
  have hn : S.n ≤ 40 := hR.2.1.1
  have h4 := lw_mm hR
  rcases g_or (n := S.n) (xs (nI i + kI 1).toNatClampNeg) with ⟨gi, hgi, e1⟩ | hg
  · rcases bool_or (tw_in (xs (nI i + kI 3).toNatClampNeg) (kI 0) (kI 3)) with hw | hw
    · obtain ⟨xe, hxe⟩ : ∃ xe, xe = tm_sub (rPn S) (rPc S) (tm_tc J A (rTr S) (rKc S) (rCc S)) 5 0 (fun _ => gi) (fun _ => 0) (A 19, A 20, A 21, A 22, 0, 0) := ⟨_, rfl⟩
      have hq := q_out hR hgi hxe
      have hS1 : xe.2.2.2.2.1 = tc_op (S.T gi) := hq.1.trans hq.2.2.1
      have hS0 : xe.2.2.2.2.1 ≤ 160 := by rw [hS1]; exact hq.2.2.2.2.1
      have h160 : (S.T gi).cp + (S.T gi).pp ≤ 160 := hq.2.2.2.2.1
      rcases bool_or (tw_in (xs (nI i + kI 2).toNatClampNeg) (kI (-1)) (nI (S.T gi).cp + nI (S.T gi).pp - kI 1)) with hk | hk
      · rcases lw_kk h160 hk with e2 | ⟨kj, hkj, e2⟩
        · rw [e2] at hk
          refine tf_blk _ b_Law_law_571 rfl ?_
          refine tl_sld (fun _ _ h => h.2.1) 578 d_Law_law_577 rfl (hv1) ?_
          refine tf_blk _ b_Law_law_578 rfl ?_
          refine tl_sld (fun _ _ h => h.2.1) 584 d_Law_law_583 rfl (hv2) ?_
          refine tf_blk _ b_Law_law_584 rfl ?_
          refine tl_sld (fun _ _ h => h.2.1) 590 d_Law_law_589 rfl (hv3) ?_
          refine tf_blk _ b_Law_law_590 rfl ?_
          rw [e1, e2]
          refine tf_less (kc2 := kc + (0 + 1)) (ks2 := ks + (0 + 6)) (by omega) (by omega) ?_
          refine tl_cS (tf_gok _ _) tg_EL (fun _ _ h => h.1) (hl_outline_r l D q (d - 1) _ _ (by omega) _ _ _ hx fx (c_Tf_outline_t0 l D q (d - 1 - 1) _ _ hl (by omega) hS hn hgi hR.1.1 _ hw hk) (fun _ _ _ z => z) (fun v L2 f2 z => ⟨_, z.1, z.2.1 ▸ hou, g, (z.2.2.2 ou (Or.inr rfl)).trans fou⟩)) 594 d_Law_law_591 rfl lk_Law_91 tlw_outline (by rfl) sal_outline (by omega) (by exact Nat.le_of_ble_eq_true rfl) rfl ?_
          rintro v591 L591 f591 ⟨rfl, a, f1, g1, ⟨ea, rfl, hS2, hB2⟩, fo, rfl⟩
          have ea2 := Value.int.inj (Option.some.inj ea)
          have hT := tm_mv9 (f2 := va_up f1 ou (tj q 1 (va_upJ g1 a))) hM (fun _ z => z) (fun z hz ho => (va_up_ne _ _ (fun e => hno (by rw [← e]; exact ho))).trans (hB2 z (Or.inl ho)))
          refine tf_blk _ b_Law_law_594 rfl ?_
          refine tl_sld (fun _ _ h => h.2.1) 603 d_Law_law_602 rfl (hv1) ?_
          refine tf_blk _ b_Law_law_603 rfl ?_
          refine tl_sld (fun _ _ h => h.2.1) 609 d_Law_law_608 rfl (hv2) ?_
          refine tf_blk _ b_Law_law_609 rfl ?_
          refine tl_sld (fun _ _ h => h.2.1) 615 d_Law_law_614 rfl (hv3) ?_
          rw [e1, e2]
          refine tf_cV (tf_gok _ _) (c_Mod_outline_w l D q (d - 1) _ _ (by omega) hT (t_tree hR) (show gi < 40 by omega) hxe hS0 _ ⟨lw_G hR hgi, (lw_t4 hw).1, (lw_t4 hw).2, by decide⟩) 618 d_Law_law_615 rfl lk_Law_94 cw_Mod_outline (by rfl) in_Mod_outline se_Mod_outline (by exact hT.1.1) (by exact hT.1.2.1) (by rfl) (by rfl) (by omega) (by exact Nat.le_of_ble_eq_true rfl) rfl ?_
          rintro v615 L615 f615 ⟨rfl, rfl, J3, A3, hT, h30, ho3⟩
          refine tf_blk _ b_Law_law_618 rfl ?_
          refine tf_cV (tf_gok _ _) (c_Mod_thrown l D q (d - 1) _ _ hT) 624 d_Law_law_621 rfl lk_Law_62 cw_Mod_thrown (by rfl) in_Mod_thrown se_Mod_thrown (by exact hT.1.1) (by exact hT.1.2.1) (by rfl) (by rfl) (by omega) (by exact Nat.le_of_ble_eq_true rfl) rfl ?_
          rintro v621 L621 f621 ⟨rfl, rfl, rfl⟩
          refine tf_blk _ b_Law_law_624 rfl ?_
          refine tf_ic_eq 631 629 d_Law_law_626 rfl rfl (fun h626 => ?_) (fun h626 => absurd (h30) h626)
          refine tf_blk _ b_Law_law_631 rfl ?_
          refine tf_if_ne 648 636 d_Law_law_633 rfl rfl (fun h633 => absurd h633 (not_not_intro rfl)) (fun h633 => ?_)
          refine tf_blk _ b_Law_law_636 rfl ?_
          refine tf_lald (n := ?n_638_46) (g := ?g_638_46) 639 2 d_Law_law_638 rfl rfl ?ha_638_46 ?hf_638_46 ?hi_638_46 ?kk_638_46
          case ha_638_46 => exact hou
          case hf_638_46 => rw [hT.2 ou hno]; exact va_up_self _ _ _
          case hi_638_46 => exact (show vp_in (nI 0) 1 from vp_in_nI (by decide) (by decide))
          refine tf_blk _ b_Law_law_639 rfl ?_
          refine tf_if_eq 648 646 d_Law_law_643 rfl rfl (fun h643 => ?_) (fun h643 => absurd (lw_cmp0 (ea2.trans (outw_eq hR hgi hxe _))) h643)
          refine tf_goto 1293 d_Law_law_648 rfl ?_
          refine tf_less (kc2 := kc) (ks2 := ks) (by omega) (by omega) ?_
          refine tf_drop [0, 1, 2, 3, 4] rfl ?_
          exact hK (ad) _ _ _ _ _ _ (va_upJ g1 a) (rfl) (lw_cS (lw_cO hS2 _) hT) hT.1 ((RR_o3 hR ho3 (q_out3 hR hgi)).2) (hou) (by rw [hT.2 ou hno]; exact va_up_self _ _ _)
        · rw [e2] at hk
          refine tf_blk _ b_Law_law_571 rfl ?_
          refine tl_sld (fun _ _ h => h.2.1) 578 d_Law_law_577 rfl (hv1) ?_
          refine tf_blk _ b_Law_law_578 rfl ?_
          refine tl_sld (fun _ _ h => h.2.1) 584 d_Law_law_583 rfl (hv2) ?_
          refine tf_blk _ b_Law_law_584 rfl ?_
          refine tl_sld (fun _ _ h => h.2.1) 590 d_Law_law_589 rfl (hv3) ?_
          refine tf_blk _ b_Law_law_590 rfl ?_
          rw [e1, e2]
          refine tf_less (kc2 := kc + (0 + 1)) (ks2 := ks + (0 + 6)) (by omega) (by omega) ?_
          refine tl_cS (tf_gok _ _) tg_EL (fun _ _ h => h.1) (hl_outline_r l D q (d - 1) _ _ (by omega) _ _ _ hx fx (c_Tf_outline_t1 l D q (d - 1 - 1) _ _ hl (by omega) hS hn hgi hR.1.1 (rGl_G hR) (lw_13 hR hgi).2.1 hR.2.2.2.2.2.2.2.2.2.2 (show kj < 160 by omega) _ hw hk) (fun _ _ _ z => z) (fun v L2 f2 z => ⟨_, z.1, z.2.1 ▸ hou, g, (z.2.2.2 ou (Or.inr rfl)).trans fou⟩)) 594 d_Law_law_591 rfl lk_Law_91 tlw_outline (by rfl) sal_outline (by omega) (by exact Nat.le_of_ble_eq_true rfl) rfl ?_
          rintro v591 L591 f591 ⟨rfl, a, f1, g1, ⟨ea, rfl, hS2, hB2⟩, fo, rfl⟩
          have ea2 := Value.int.inj (Option.some.inj ea)
          have hT := tm_mv9 (f2 := va_up f1 ou (tj q 1 (va_upJ g1 a))) hM (fun _ z => z) (fun z hz ho => (va_up_ne _ _ (fun e => hno (by rw [← e]; exact ho))).trans (hB2 z (Or.inl ho)))
          refine tf_blk _ b_Law_law_594 rfl ?_
          refine tl_sld (fun _ _ h => h.2.1) 603 d_Law_law_602 rfl (hv1) ?_
          refine tf_blk _ b_Law_law_603 rfl ?_
          refine tl_sld (fun _ _ h => h.2.1) 609 d_Law_law_608 rfl (hv2) ?_
          refine tf_blk _ b_Law_law_609 rfl ?_
          refine tl_sld (fun _ _ h => h.2.1) 615 d_Law_law_614 rfl (hv3) ?_
          rw [e1, e2]
          refine tf_cV (tf_gok _ _) (c_Mod_outline_k l D q (d - 1) _ _ (by omega) hT (t_tree hR) (show gi < 40 by omega) hxe hS0 _ ⟨lw_G hR hgi, (lw_t4 hw).1, (lw_t4 hw).2, fun z => by have := nI_negl kj (by omega); rw [Int32.lt_iff_toInt_lt] at *; omega⟩ (by rw [hS1]; exact hkj)) 618 d_Law_law_615 rfl lk_Law_94 cw_Mod_outline (by rfl) in_Mod_outline se_Mod_outline (by exact hT.1.1) (by exact hT.1.2.1) (by rfl) (by rfl) (by omega) (by exact Nat.le_of_ble_eq_true rfl) rfl ?_
          rintro v615 L615 f615 ⟨rfl, rfl, J3, A3, hT, h30, ho3⟩
          refine tf_blk _ b_Law_law_618 rfl ?_
          refine tf_cV (tf_gok _ _) (c_Mod_thrown l D q (d - 1) _ _ hT) 624 d_Law_law_621 rfl lk_Law_62 cw_Mod_thrown (by rfl) in_Mod_thrown se_Mod_thrown (by exact hT.1.1) (by exact hT.1.2.1) (by rfl) (by rfl) (by omega) (by exact Nat.le_of_ble_eq_true rfl) rfl ?_
          rintro v621 L621 f621 ⟨rfl, rfl, rfl⟩
          refine tf_blk _ b_Law_law_624 rfl ?_
          refine tf_ic_eq 631 629 d_Law_law_626 rfl rfl (fun h626 => ?_) (fun h626 => absurd (h30) h626)
          refine tf_blk _ b_Law_law_631 rfl ?_
          refine tf_if_ne 648 636 d_Law_law_633 rfl rfl (fun h633 => absurd h633 (not_not_intro rfl)) (fun h633 => ?_)
          refine tf_blk _ b_Law_law_636 rfl ?_
          refine tf_lald (n := ?n_638_56) (g := ?g_638_56) 639 2 d_Law_law_638 rfl rfl ?ha_638_56 ?hf_638_56 ?hi_638_56 ?kk_638_56
          case ha_638_56 => exact hou
          case hf_638_56 => rw [hT.2 ou hno]; exact va_up_self _ _ _
          case hi_638_56 => exact (show vp_in (nI 0) 1 from vp_in_nI (by decide) (by decide))
          refine tf_blk _ b_Law_law_639 rfl ?_
          refine tf_if_eq 648 646 d_Law_law_643 rfl rfl (fun h643 => ?_) (fun h643 => absurd (lw_cmp0 (ea2.trans (outv_eq hR hgi hxe (by rw [hS1]; exact hkj) _))) h643)
          refine tf_goto 1293 d_Law_law_648 rfl ?_
          refine tf_less (kc2 := kc) (ks2 := ks) (by omega) (by omega) ?_
          refine tf_drop [0, 1, 2, 3, 4] rfl ?_
          exact hK (ad) _ _ _ _ _ _ (va_upJ g1 a) (rfl) (lw_cS (lw_cO hS2 _) hT) hT.1 ((RR_o3 hR ho3 (q_out3 hR hgi)).1) (hou) (by rw [hT.2 ou hno]; exact va_up_self _ _ _)
      · by_cases hlt : xs (nI i + kI 2).toNatClampNeg < kI (-1)
        · refine tf_blk _ b_Law_law_571 rfl ?_
          refine tl_sld (fun _ _ h => h.2.1) 578 d_Law_law_577 rfl (hv1) ?_
          refine tf_blk _ b_Law_law_578 rfl ?_
          refine tl_sld (fun _ _ h => h.2.1) 584 d_Law_law_583 rfl (hv2) ?_
          refine tf_blk _ b_Law_law_584 rfl ?_
          refine tl_sld (fun _ _ h => h.2.1) 590 d_Law_law_589 rfl (hv3) ?_
          refine tf_blk _ b_Law_law_590 rfl ?_
          rw [e1]
          refine tf_less (kc2 := kc + (0 + 1)) (ks2 := ks + (0 + 6)) (by omega) (by omega) ?_
          refine tl_cS (tf_gok _ _) tg_EL (fun _ _ h => h.1) (hl_outline_x1 l D q (d - 1) _ _ (by omega) _ _ _ hx fx (c_Tf_outline_k l D q (d - 1 - 1) _ _ hl (by omega) hS hn hgi _ _ hw hk) (fun _ _ _ z => z) (fun _ _ _ z => z.1)) 594 d_Law_law_591 rfl lk_Law_91 tlw_outline (by rfl) sal_outline (by omega) (by exact Nat.le_of_ble_eq_true rfl) rfl ?_
          rintro v591 L591 f591 ⟨rfl, -, rfl, rfl⟩
          refine tf_blk _ b_Law_law_594 rfl ?_
          refine tl_sld (fun _ _ h => h.2.1) 603 d_Law_law_602 rfl (hv1) ?_
          refine tf_blk _ b_Law_law_603 rfl ?_
          refine tl_sld (fun _ _ h => h.2.1) 609 d_Law_law_608 rfl (hv2) ?_
          refine tf_blk _ b_Law_law_609 rfl ?_
          refine tl_sld (fun _ _ h => h.2.1) 615 d_Law_law_614 rfl (hv3) ?_
          rw [e1]
          refine tf_cV (tf_gok _ _) (c_Mod_outline_1 l D q (d - 1) _ _ (by omega) hT _ _ _ (fun z => z.2.2.2 hlt)) 618 d_Law_law_615 rfl lk_Law_94 cw_Mod_outline (by rfl) in_Mod_outline se_Mod_outline (by exact hT.1.1) (by exact hT.1.2.1) (by rfl) (by rfl) (by omega) (by exact Nat.le_of_ble_eq_true rfl) rfl ?_
          rintro v615 L615 f615 ⟨rfl, rfl, hT⟩
          refine tf_blk _ b_Law_law_618 rfl ?_
          refine tf_cV (tf_gok _ _) (c_Mod_thrown l D q (d - 1) _ _ hT) 624 d_Law_law_621 rfl lk_Law_62 cw_Mod_thrown (by rfl) in_Mod_thrown se_Mod_thrown (by exact hT.1.1) (by exact hT.1.2.1) (by rfl) (by rfl) (by omega) (by exact Nat.le_of_ble_eq_true rfl) rfl ?_
          rintro v621 L621 f621 ⟨rfl, rfl, rfl⟩
          refine tf_blk _ b_Law_law_624 rfl ?_
          refine tf_ic_eq 631 629 d_Law_law_626 rfl rfl (fun h626 => ?_) (fun h626 => absurd (rfl) h626)
          refine tf_blk _ b_Law_law_631 rfl ?_
          refine tf_if_ne 648 636 d_Law_law_633 rfl rfl (fun h633 => ?_) (fun h633 => absurd h633 (show ¬ kI 1 = 0 by decide))
          refine tf_goto 1293 d_Law_law_648 rfl ?_
          refine tf_less (kc2 := kc) (ks2 := ks) (by omega) (by omega) ?_
          refine tf_drop [0, 1, 2, 3, 4] rfl ?_
          exact hK (ad) _ _ _ _ _ _ (_) (rfl) (lw_cS (hS) hT) hT.1 (hR) (hou) (by rw [hT.2 ou hno]; exact fou)
        · refine tf_blk _ b_Law_law_571 rfl ?_
          refine tl_sld (fun _ _ h => h.2.1) 578 d_Law_law_577 rfl (hv1) ?_
          refine tf_blk _ b_Law_law_578 rfl ?_
          refine tl_sld (fun _ _ h => h.2.1) 584 d_Law_law_583 rfl (hv2) ?_
          refine tf_blk _ b_Law_law_584 rfl ?_
          refine tl_sld (fun _ _ h => h.2.1) 590 d_Law_law_589 rfl (hv3) ?_
          refine tf_blk _ b_Law_law_590 rfl ?_
          rw [e1]
          refine tf_less (kc2 := kc + (0 + 1)) (ks2 := ks + (0 + 6)) (by omega) (by omega) ?_
          refine tl_cS (tf_gok _ _) tg_EL (fun _ _ h => h.1) (hl_outline_x1 l D q (d - 1) _ _ (by omega) _ _ _ hx fx (c_Tf_outline_k l D q (d - 1 - 1) _ _ hl (by omega) hS hn hgi _ _ hw hk) (fun _ _ _ z => z) (fun _ _ _ z => z.1)) 594 d_Law_law_591 rfl lk_Law_91 tlw_outline (by rfl) sal_outline (by omega) (by exact Nat.le_of_ble_eq_true rfl) rfl ?_
          rintro v591 L591 f591 ⟨rfl, -, rfl, rfl⟩
          refine tf_blk _ b_Law_law_594 rfl ?_
          refine tl_sld (fun _ _ h => h.2.1) 603 d_Law_law_602 rfl (hv1) ?_
          refine tf_blk _ b_Law_law_603 rfl ?_
          refine tl_sld (fun _ _ h => h.2.1) 609 d_Law_law_608 rfl (hv2) ?_
          refine tf_blk _ b_Law_law_609 rfl ?_
          refine tl_sld (fun _ _ h => h.2.1) 615 d_Law_law_614 rfl (hv3) ?_
          rw [e1]
          refine tf_cV (tf_gok _ _) (c_Mod_outline_2 l D q (d - 1) _ _ (by omega) hT (t_tree hR) (show gi < 40 by omega) hxe hS0 _ _ ⟨lw_G hR hgi, (lw_t4 hw).1, (lw_t4 hw).2, hlt⟩ (by rw [hS1]; exact lw_kf h160 hk hlt)) 618 d_Law_law_615 rfl lk_Law_94 cw_Mod_outline (by rfl) in_Mod_outline se_Mod_outline (by exact hT.1.1) (by exact hT.1.2.1) (by rfl) (by rfl) (by omega) (by exact Nat.le_of_ble_eq_true rfl) rfl ?_
          rintro v615 L615 f615 ⟨rfl, rfl, J3, A3, hT, h30, ho3⟩
          refine tf_blk _ b_Law_law_618 rfl ?_
          refine tf_cV (tf_gok _ _) (c_Mod_thrown l D q (d - 1) _ _ hT) 624 d_Law_law_621 rfl lk_Law_62 cw_Mod_thrown (by rfl) in_Mod_thrown se_Mod_thrown (by exact hT.1.1) (by exact hT.1.2.1) (by rfl) (by rfl) (by omega) (by exact Nat.le_of_ble_eq_true rfl) rfl ?_
          rintro v621 L621 f621 ⟨rfl, rfl, rfl⟩
          refine tf_blk _ b_Law_law_624 rfl ?_
          refine tf_ic_eq 631 629 d_Law_law_626 rfl rfl (fun h626 => ?_) (fun h626 => absurd (h30) h626)
          refine tf_blk _ b_Law_law_631 rfl ?_
          refine tf_if_ne 648 636 d_Law_law_633 rfl rfl (fun h633 => ?_) (fun h633 => absurd h633 (show ¬ kI 1 = 0 by decide))
          refine tf_goto 1293 d_Law_law_648 rfl ?_
          refine tf_less (kc2 := kc) (ks2 := ks) (by omega) (by omega) ?_
          refine tf_drop [0, 1, 2, 3, 4] rfl ?_
          exact hK (ad) _ _ _ _ _ _ (_) (rfl) (lw_cS (hS) hT) hT.1 ((RR_o3 hR ho3 (q_out3 hR hgi)).2) (hou) (by rw [hT.2 ou hno]; exact fou)
    · refine tf_blk _ b_Law_law_571 rfl ?_
      refine tl_sld (fun _ _ h => h.2.1) 578 d_Law_law_577 rfl (hv1) ?_
      refine tf_blk _ b_Law_law_578 rfl ?_
      refine tl_sld (fun _ _ h => h.2.1) 584 d_Law_law_583 rfl (hv2) ?_
      refine tf_blk _ b_Law_law_584 rfl ?_
      refine tl_sld (fun _ _ h => h.2.1) 590 d_Law_law_589 rfl (hv3) ?_
      refine tf_blk _ b_Law_law_590 rfl ?_
      rw [e1]
      refine tf_less (kc2 := kc + (0 + 1)) (ks2 := ks + (0 + 6)) (by omega) (by omega) ?_
      refine tl_cS (tf_gok _ _) tg_EL (fun _ _ h => h.1) (hl_outline_x1 l D q (d - 1) _ _ (by omega) _ _ _ hx fx (c_Tf_outline_w l D q (d - 1 - 1) _ _ hl (by omega) hS hn hgi _ _ hw) (fun _ _ _ z => z) (fun _ _ _ z => z.1)) 594 d_Law_law_591 rfl lk_Law_91 tlw_outline (by rfl) sal_outline (by omega) (by exact Nat.le_of_ble_eq_true rfl) rfl ?_
      rintro v591 L591 f591 ⟨rfl, -, rfl, rfl⟩
      refine tf_blk _ b_Law_law_594 rfl ?_
      refine tl_sld (fun _ _ h => h.2.1) 603 d_Law_law_602 rfl (hv1) ?_
      refine tf_blk _ b_Law_law_603 rfl ?_
      refine tl_sld (fun _ _ h => h.2.1) 609 d_Law_law_608 rfl (hv2) ?_
      refine tf_blk _ b_Law_law_609 rfl ?_
      refine tl_sld (fun _ _ h => h.2.1) 615 d_Law_law_614 rfl (hv3) ?_
      rw [e1]
      refine tf_cV (tf_gok _ _) (c_Mod_outline_1 l D q (d - 1) _ _ (by omega) hT _ _ _ (fun z => lw_t3 hw z.2.1 z.2.2.1)) 618 d_Law_law_615 rfl lk_Law_94 cw_Mod_outline (by rfl) in_Mod_outline se_Mod_outline (by exact hT.1.1) (by exact hT.1.2.1) (by rfl) (by rfl) (by omega) (by exact Nat.le_of_ble_eq_true rfl) rfl ?_
      rintro v615 L615 f615 ⟨rfl, rfl, hT⟩
      refine tf_blk _ b_Law_law_618 rfl ?_
      refine tf_cV (tf_gok _ _) (c_Mod_thrown l D q (d - 1) _ _ hT) 624 d_Law_law_621 rfl lk_Law_62 cw_Mod_thrown (by rfl) in_Mod_thrown se_Mod_thrown (by exact hT.1.1) (by exact hT.1.2.1) (by rfl) (by rfl) (by omega) (by exact Nat.le_of_ble_eq_true rfl) rfl ?_
      rintro v621 L621 f621 ⟨rfl, rfl, rfl⟩
      refine tf_blk _ b_Law_law_624 rfl ?_
      refine tf_ic_eq 631 629 d_Law_law_626 rfl rfl (fun h626 => ?_) (fun h626 => absurd (rfl) h626)
      refine tf_blk _ b_Law_law_631 rfl ?_
      refine tf_if_ne 648 636 d_Law_law_633 rfl rfl (fun h633 => ?_) (fun h633 => absurd h633 (show ¬ kI 1 = 0 by decide))
      refine tf_goto 1293 d_Law_law_648 rfl ?_
      refine tf_less (kc2 := kc) (ks2 := ks) (by omega) (by omega) ?_
      refine tf_drop [0, 1, 2, 3, 4] rfl ?_
      exact hK (ad) _ _ _ _ _ _ (_) (rfl) (lw_cS (hS) hT) hT.1 (hR) (hou) (by rw [hT.2 ou hno]; exact fou)
  · refine tf_blk _ b_Law_law_571 rfl ?_
    refine tl_sld (fun _ _ h => h.2.1) 578 d_Law_law_577 rfl (hv1) ?_
    refine tf_blk _ b_Law_law_578 rfl ?_
    refine tl_sld (fun _ _ h => h.2.1) 584 d_Law_law_583 rfl (hv2) ?_
    refine tf_blk _ b_Law_law_584 rfl ?_
    refine tl_sld (fun _ _ h => h.2.1) 590 d_Law_law_589 rfl (hv3) ?_
    refine tf_blk _ b_Law_law_590 rfl ?_
    refine tf_less (kc2 := kc + (0 + 1)) (ks2 := ks + (0 + 6)) (by omega) (by omega) ?_
    refine tl_cS (tf_gok _ _) tg_EL (fun _ _ h => h.1) (hl_outline_x1 l D q (d - 1) _ _ (by omega) _ _ _ hx fx (c_Tf_outline_n l D q (d - 1 - 1) _ _ hl (by omega) hS hn hg _ _) (fun _ _ _ z => z) (fun _ _ _ z => z.1)) 594 d_Law_law_591 rfl lk_Law_91 tlw_outline (by rfl) sal_outline (by omega) (by exact Nat.le_of_ble_eq_true rfl) rfl ?_
    rintro v591 L591 f591 ⟨rfl, -, rfl, rfl⟩
    refine tf_blk _ b_Law_law_594 rfl ?_
    refine tl_sld (fun _ _ h => h.2.1) 603 d_Law_law_602 rfl (hv1) ?_
    refine tf_blk _ b_Law_law_603 rfl ?_
    refine tl_sld (fun _ _ h => h.2.1) 609 d_Law_law_608 rfl (hv2) ?_
    refine tf_blk _ b_Law_law_609 rfl ?_
    refine tl_sld (fun _ _ h => h.2.1) 615 d_Law_law_614 rfl (hv3) ?_
    refine tf_cV (tf_gok _ _) (c_Mod_outline_n l D q (d - 1) _ _ (by omega) hT _ _ _ (lw_Gn hR hg)) 618 d_Law_law_615 rfl lk_Law_94 cw_Mod_outline (by rfl) in_Mod_outline se_Mod_outline (by exact hT.1.1) (by exact hT.1.2.1) (by rfl) (by rfl) (by omega) (by exact Nat.le_of_ble_eq_true rfl) rfl ?_
    rintro v615 L615 f615 ⟨rfl, rfl, hT⟩
    refine tf_blk _ b_Law_law_618 rfl ?_
    refine tf_cV (tf_gok _ _) (c_Mod_thrown l D q (d - 1) _ _ hT) 624 d_Law_law_621 rfl lk_Law_62 cw_Mod_thrown (by rfl) in_Mod_thrown se_Mod_thrown (by exact hT.1.1) (by exact hT.1.2.1) (by rfl) (by rfl) (by omega) (by exact Nat.le_of_ble_eq_true rfl) rfl ?_
    rintro v621 L621 f621 ⟨rfl, rfl, rfl⟩
    refine tf_blk _ b_Law_law_624 rfl ?_
    refine tf_ic_eq 631 629 d_Law_law_626 rfl rfl (fun h626 => ?_) (fun h626 => absurd (rfl) h626)
    refine tf_blk _ b_Law_law_631 rfl ?_
    refine tf_if_ne 648 636 d_Law_law_633 rfl rfl (fun h633 => ?_) (fun h633 => absurd h633 (show ¬ kI 1 = 0 by decide))
    refine tf_goto 1293 d_Law_law_648 rfl ?_
    refine tf_less (kc2 := kc) (ks2 := ks) (by omega) (by omega) ?_
    refine tf_drop [0, 1, 2, 3, 4] rfl ?_
    exact hK (ad) _ _ _ _ _ _ (_) (rfl) (lw_cS (hS) hT) hT.1 (hR) (hou) (by rw [hT.2 ou hno]; exact fou)
set_option maxHeartbeats 4000000 in
set_option maxRecDepth 100000 in
theorem lw_k9 {QB : tf_B} {kc ks K KS : Nat} (hk1 : kc + 20 ≤ K) (hk2 : ks + 1000 ≤ KS) {m ou b N i : Nat} {xs : Nat → Int32} {ad adm : Nat → Nat} {S : tc_S} {J : Nat → Int32} {A : Nat → Nat → Int32} {R : Nat → Int64} {g : Nat → Int64} (hl : l.stackTraces = false) (hd : 14 ≤ d) (hS : tc_at q ad S (lw_B adm m ou) L f) (hM : tm_ok q adm m J A R L f) (hR : RR S J A R) (hou : ou ∈ L) (fou : f ou = tj q 1 g) (hno : ¬ tm_own adm m ou) (hK : ∀ (ad2 : Nat → Nat) (S2 : tc_S) (J2 : Nat → Int32) (A2 : Nat → Nat → Int32) (R2 : Nat → Int64) (L2 : List Nat) (f2 : tf_F) (g2 : Nat → Int64), ad2 0 = ad 0 → tc_at q ad2 S2 (lw_B adm m ou) L2 f2 → tm_ok q adm m J2 A2 R2 L2 f2 → RR S2 J2 A2 R2 → ou ∈ L2 → f2 ou = tj q 1 g2 → tf_W l (tf_H D q) (tl_EX b N xs) QB d i_Law_law 1293 [(0, .ref b), (1, .ref (ad 0)), (2, .ref m), (3, .ref ou), (4, .int (nI i))] [] L2 f2 kc ks) (hv0 : vp_in (nI i) N) (hv1 : vp_in (nI i + kI 1) N) (hv2 : vp_in (nI i + kI 2) N) (hv3 : vp_in (nI i + kI 3) N) (hv4 : vp_in (nI i + kI 4) N) (hv5 : vp_in (nI i + kI 5) N) (hv6 : vp_in (nI i + kI 6) N) (hv7 : vp_in (nI i + kI 7) N) (hv8 : vp_in (nI i + kI 8) N) : tf_W l (tf_H D q) (tl_EX b N xs) QB d i_Law_law 676 [(0, .ref b), (1, .ref (ad 0)), (2, .ref m), (3, .ref ou), (4, .int (nI i))] [] L f K KS := by
  obtain ⟨hx, fx⟩ := tc_c0 hS
  have hT : tm_at q adm m f L J A R f := ⟨hM, fun _ _ => rfl⟩
  have hBL := lw_BL hM hou
  have hn : S.n ≤ 40 := hR.2.1.1
  have h4 := lw_mm hR
  by_cases c3 : xs (nI i + kI 3).toNatClampNeg = 0
  · rcases g_or (n := S.n) (xs (nI i + kI 1).toNatClampNeg) with ⟨gi, hgi, e1⟩ | hg
    · rcases bool_or (tw_isSide (xs (nI i + kI 2).toNatClampNeg)) with hs | hs
      · obtain ⟨xe, hxe⟩ : ∃ xe, xe = tm_sub (rPn S) (rPc S) (tm_tc J A (rTr S) (rKc S) (rCc S)) 5 0 (fun _ => gi) (fun _ => 0) (A 19, A 20, A 21, A 22, 0, 0) := ⟨_, rfl⟩
        have hq := q_out hR hgi hxe
        have hS1 : xe.2.2.2.2.1 = tc_op (S.T gi) := hq.1.trans hq.2.2.1
        have hS0 : xe.2.2.2.2.1 ≤ 160 := by rw [hS1]; exact hq.2.2.2.2.1
        have h160 : (S.T gi).cp + (S.T gi).pp ≤ 160 := hq.2.2.2.2.1
        obtain ⟨al, ha⟩ := lw_sa hs
        obtain ⟨S2, h2e⟩ : ∃ x, tc_wC (tc_wO S (tc_out S gi)) (xs (nI i + kI 2).toNatClampNeg) al = x := ⟨_, rfl⟩
        have hoc : xe.2.2.2.2.2 ≤ 160 := by rw [hq.2.1, hq.2.2.2.1]; exact Nat.le_trans (lw_oc hR hgi) h160
        have hF : ∀ y, iB 100000 y → iB 1000000 ((tm_fit (bI false) S.hn (A 29) (xs (nI i + kI 2).toNatClampNeg)) y) := fun y hy => fit_B hR.2.2.1.2.2 (lw_s0 ha).1 (lw_s0 ha).2 hy
        have hB : ∀ p, p < xe.2.2.2.2.1 → iB 100000 (xe.1 p) ∧ iB 100000 (xe.2.1 p) := fun p hp => by rw [hq.1] at hp; obtain ⟨w0, w1, _⟩ := hq.2.2.2.2.2 p hp; rw [w0, w1]; exact out_B hR hgi p hp
        obtain ⟨GD, hGD⟩ : ∃ x, x = tm_drc xe.1 xe.2.1 xe.2.2.1 xe.2.2.2.1 (tm_fit (bI false) S.hn (A 29) (xs (nI i + kI 2).toNatClampNeg)) al (xs (nI i + kI 2).toNatClampNeg) 7 1 xe.2.2.2.2.1 xe.2.2.2.2.2 0 0 (J 53, J 54, tw_fl (kI 0) (al * al) 0 (A 31)) := ⟨_, rfl⟩
        refine tf_blk _ b_Law_law_676 rfl ?_
        refine tl_sld (fun _ _ h => h.2.1) 683 d_Law_law_682 rfl (hv1) ?_
        refine tf_blk _ b_Law_law_683 rfl ?_
        refine tl_sld (fun _ _ h => h.2.1) 689 d_Law_law_688 rfl (hv2) ?_
        refine tf_blk _ b_Law_law_689 rfl ?_
        refine tl_sld (fun _ _ h => h.2.1) 695 d_Law_law_694 rfl (hv3) ?_
        refine tf_if_eq 702 698 d_Law_law_695 rfl rfl (fun h695 => ?_) (fun h695 => absurd (c3) h695)
        refine tf_blk _ b_Law_law_702 rfl ?_
        refine tf_blk _ b_Law_law_703 rfl ?_
        rw [e1]
        refine tf_less (kc2 := kc + (0 + 1)) (ks2 := ks + (0 + 6)) (by omega) (by omega) ?_
        refine tl_cS (tf_gok _ _) tg_EL (fun _ _ h => h.1) (hl_draw_r l D q (d - 1) _ _ (by omega) _ _ _ hx fx (c_Tf_draw_t l D q (d - 1 - 1) _ _ hl (by omega) hS hn hgi hR.1.1 (rGl_G hR) (lw_13 hR hgi).2.1 hR.2.2.2.2.2.2.2.2.2.2 hR.2.2.1.1 ha (bI false) (tc_out S gi) rfl S2 h2e) (fun _ _ _ z => z) (fun v L2 f2 z => ⟨_, z.1, z.2.1 ▸ hou, g, (z.2.2.2 ou (Or.inr rfl)).trans fou⟩)) 707 d_Law_law_704 rfl lk_Law_99 tlw_draw (by rfl) sal_draw (by omega) (by exact Nat.le_of_ble_eq_true rfl) rfl ?_
        rintro v704 L704 f704 ⟨rfl, a, f1, g1, ⟨ea, rfl, hS2, hB2⟩, fo, rfl⟩
        have ea2 := Value.int.inj (Option.some.inj ea)
        have hT := tm_mv9 (f2 := va_up f1 ou (tj q 1 (va_upJ g1 a))) hM (fun _ z => z) (fun z hz ho => (va_up_ne _ _ (fun e => hno (by rw [← e]; exact ho))).trans (hB2 z (Or.inl ho)))
        refine tf_blk _ b_Law_law_707 rfl ?_
        refine tl_sld (fun _ _ h => h.2.1) 716 d_Law_law_715 rfl (hv1) ?_
        refine tf_blk _ b_Law_law_716 rfl ?_
        refine tl_sld (fun _ _ h => h.2.1) 722 d_Law_law_721 rfl (hv2) ?_
        refine tf_blk _ b_Law_law_722 rfl ?_
        refine tl_sld (fun _ _ h => h.2.1) 728 d_Law_law_727 rfl (hv3) ?_
        refine tf_if_eq 735 731 d_Law_law_728 rfl rfl (fun h728 => ?_) (fun h728 => absurd (c3) h728)
        refine tf_blk _ b_Law_law_735 rfl ?_
        rw [e1]
        refine tf_cV (tf_gok _ _) (c_Mod_draw_t l D q (d - 1) _ _ (by omega) hT (t_tree hR) (show gi < 40 by omega) ha false hxe hS0 hoc hR.2.2.1.1 hR.2.2.1.2.1 hF (w0 := 7) (k0 := 1) rfl rfl hB hGD (lw_G hR hgi)) 739 d_Law_law_736 rfl lk_Law_102 cw_Mod_draw (by rfl) in_Mod_draw se_Mod_draw (by exact hT.1.1) (by exact hT.1.2.1) (by rfl) (by rfl) (by omega) (by exact Nat.le_of_ble_eq_true rfl) rfl ?_
        rintro v736 L736 f736 ⟨rfl, rfl, J3, A3, hT, h30, h32, h31, ho4⟩
        refine tf_blk _ b_Law_law_739 rfl ?_
        refine tf_cV (tf_gok _ _) (c_Mod_thrown l D q (d - 1) _ _ hT) 745 d_Law_law_742 rfl lk_Law_62 cw_Mod_thrown (by rfl) in_Mod_thrown se_Mod_thrown (by exact hT.1.1) (by exact hT.1.2.1) (by rfl) (by rfl) (by omega) (by exact Nat.le_of_ble_eq_true rfl) rfl ?_
        rintro v742 L742 f742 ⟨rfl, rfl, rfl⟩
        refine tf_blk _ b_Law_law_745 rfl ?_
        refine tf_ic_eq 752 750 d_Law_law_747 rfl rfl (fun h747 => ?_) (fun h747 => absurd (h30) h747)
        refine tf_blk _ b_Law_law_752 rfl ?_
        refine tf_if_ne 769 757 d_Law_law_754 rfl rfl (fun h754 => absurd h754 (not_not_intro rfl)) (fun h754 => ?_)
        refine tf_blk _ b_Law_law_757 rfl ?_
        refine tf_lald (n := ?n_759_84) (g := ?g_759_84) 760 2 d_Law_law_759 rfl rfl ?ha_759_84 ?hf_759_84 ?hi_759_84 ?kk_759_84
        case ha_759_84 => exact hou
        case hf_759_84 => rw [hT.2 ou hno]; exact va_up_self _ _ _
        case hi_759_84 => exact (show vp_in (nI 0) 1 from vp_in_nI (by decide) (by decide))
        refine tf_blk _ b_Law_law_760 rfl ?_
        refine tf_if_eq 769 767 d_Law_law_764 rfl rfl (fun h764 => ?_) (fun h764 => absurd (lw_cmp0 (ea2.trans ((q_draw hR hgi ha (bI false) hxe h2e hGD ho4 h32 h31).1))) h764)
        refine tf_goto 1293 d_Law_law_769 rfl ?_
        refine tf_less (kc2 := kc) (ks2 := ks) (by omega) (by omega) ?_
        refine tf_drop [0, 1, 2, 3, 4] rfl ?_
        exact hK (ad) _ _ _ _ _ _ (va_upJ g1 a) (rfl) (lw_cS (lw_cO hS2 _) hT) hT.1 ((q_draw hR hgi ha (bI false) hxe h2e hGD ho4 h32 h31).2) (hou) (by rw [hT.2 ou hno]; exact va_up_self _ _ _)
      · refine tf_blk _ b_Law_law_676 rfl ?_
        refine tl_sld (fun _ _ h => h.2.1) 683 d_Law_law_682 rfl (hv1) ?_
        refine tf_blk _ b_Law_law_683 rfl ?_
        refine tl_sld (fun _ _ h => h.2.1) 689 d_Law_law_688 rfl (hv2) ?_
        refine tf_blk _ b_Law_law_689 rfl ?_
        refine tl_sld (fun _ _ h => h.2.1) 695 d_Law_law_694 rfl (hv3) ?_
        refine tf_if_eq 702 698 d_Law_law_695 rfl rfl (fun h695 => ?_) (fun h695 => absurd (c3) h695)
        refine tf_blk _ b_Law_law_702 rfl ?_
        refine tf_blk _ b_Law_law_703 rfl ?_
        rw [e1]
        refine tf_less (kc2 := kc + (0 + 1)) (ks2 := ks + (0 + 6)) (by omega) (by omega) ?_
        refine tl_cS (tf_gok _ _) tg_EL (fun _ _ h => h.1) (hl_draw_x1 l D q (d - 1) _ _ (by omega) _ _ _ hx fx (c_Tf_draw_s l D q (d - 1 - 1) _ _ hl (by omega) hS hn hgi _ _ hs) (fun _ _ _ z => z) (fun _ _ _ z => z.1)) 707 d_Law_law_704 rfl lk_Law_99 tlw_draw (by rfl) sal_draw (by omega) (by exact Nat.le_of_ble_eq_true rfl) rfl ?_
        rintro v704 L704 f704 ⟨rfl, -, rfl, rfl⟩
        refine tf_blk _ b_Law_law_707 rfl ?_
        refine tl_sld (fun _ _ h => h.2.1) 716 d_Law_law_715 rfl (hv1) ?_
        refine tf_blk _ b_Law_law_716 rfl ?_
        refine tl_sld (fun _ _ h => h.2.1) 722 d_Law_law_721 rfl (hv2) ?_
        refine tf_blk _ b_Law_law_722 rfl ?_
        refine tl_sld (fun _ _ h => h.2.1) 728 d_Law_law_727 rfl (hv3) ?_
        refine tf_if_eq 735 731 d_Law_law_728 rfl rfl (fun h728 => ?_) (fun h728 => absurd (c3) h728)
        refine tf_blk _ b_Law_law_735 rfl ?_
        rw [e1]
        refine tf_cV (tf_gok _ _) (c_Mod_draw_1 l D q (d - 1) _ _ (by omega) hT _ _ _ (fun _ => lw_sd hs)) 739 d_Law_law_736 rfl lk_Law_102 cw_Mod_draw (by rfl) in_Mod_draw se_Mod_draw (by exact hT.1.1) (by exact hT.1.2.1) (by rfl) (by rfl) (by omega) (by exact Nat.le_of_ble_eq_true rfl) rfl ?_
        rintro v736 L736 f736 ⟨rfl, rfl, hT⟩
        refine tf_blk _ b_Law_law_739 rfl ?_
        refine tf_cV (tf_gok _ _) (c_Mod_thrown l D q (d - 1) _ _ hT) 745 d_Law_law_742 rfl lk_Law_62 cw_Mod_thrown (by rfl) in_Mod_thrown se_Mod_thrown (by exact hT.1.1) (by exact hT.1.2.1) (by rfl) (by rfl) (by omega) (by exact Nat.le_of_ble_eq_true rfl) rfl ?_
        rintro v742 L742 f742 ⟨rfl, rfl, rfl⟩
        refine tf_blk _ b_Law_law_745 rfl ?_
        refine tf_ic_eq 752 750 d_Law_law_747 rfl rfl (fun h747 => ?_) (fun h747 => absurd (rfl) h747)
        refine tf_blk _ b_Law_law_752 rfl ?_
        refine tf_if_ne 769 757 d_Law_law_754 rfl rfl (fun h754 => ?_) (fun h754 => absurd h754 (show ¬ kI 1 = 0 by decide))
        refine tf_goto 1293 d_Law_law_769 rfl ?_
        refine tf_less (kc2 := kc) (ks2 := ks) (by omega) (by omega) ?_
        refine tf_drop [0, 1, 2, 3, 4] rfl ?_
        exact hK (ad) _ _ _ _ _ _ (_) (rfl) (lw_cS (hS) hT) hT.1 (hR) (hou) (by rw [hT.2 ou hno]; exact fou)
    · refine tf_blk _ b_Law_law_676 rfl ?_
      refine tl_sld (fun _ _ h => h.2.1) 683 d_Law_law_682 rfl (hv1) ?_
      refine tf_blk _ b_Law_law_683 rfl ?_
      refine tl_sld (fun _ _ h => h.2.1) 689 d_Law_law_688 rfl (hv2) ?_
      refine tf_blk _ b_Law_law_689 rfl ?_
      refine tl_sld (fun _ _ h => h.2.1) 695 d_Law_law_694 rfl (hv3) ?_
      refine tf_if_eq 702 698 d_Law_law_695 rfl rfl (fun h695 => ?_) (fun h695 => absurd (c3) h695)
      refine tf_blk _ b_Law_law_702 rfl ?_
      refine tf_blk _ b_Law_law_703 rfl ?_
      refine tf_less (kc2 := kc + (0 + 1)) (ks2 := ks + (0 + 6)) (by omega) (by omega) ?_
      refine tl_cS (tf_gok _ _) tg_EL (fun _ _ h => h.1) (hl_draw_x1 l D q (d - 1) _ _ (by omega) _ _ _ hx fx (c_Tf_draw_n l D q (d - 1 - 1) _ _ hl (by omega) hS hn hg _ _) (fun _ _ _ z => z) (fun _ _ _ z => z.1)) 707 d_Law_law_704 rfl lk_Law_99 tlw_draw (by rfl) sal_draw (by omega) (by exact Nat.le_of_ble_eq_true rfl) rfl ?_
      rintro v704 L704 f704 ⟨rfl, -, rfl, rfl⟩
      refine tf_blk _ b_Law_law_707 rfl ?_
      refine tl_sld (fun _ _ h => h.2.1) 716 d_Law_law_715 rfl (hv1) ?_
      refine tf_blk _ b_Law_law_716 rfl ?_
      refine tl_sld (fun _ _ h => h.2.1) 722 d_Law_law_721 rfl (hv2) ?_
      refine tf_blk _ b_Law_law_722 rfl ?_
      refine tl_sld (fun _ _ h => h.2.1) 728 d_Law_law_727 rfl (hv3) ?_
      refine tf_if_eq 735 731 d_Law_law_728 rfl rfl (fun h728 => ?_) (fun h728 => absurd (c3) h728)
      refine tf_blk _ b_Law_law_735 rfl ?_
      refine tf_cV (tf_gok _ _) (c_Mod_draw_n l D q (d - 1) _ _ (by omega) hT _ _ _ (lw_Gn hR hg)) 739 d_Law_law_736 rfl lk_Law_102 cw_Mod_draw (by rfl) in_Mod_draw se_Mod_draw (by exact hT.1.1) (by exact hT.1.2.1) (by rfl) (by rfl) (by omega) (by exact Nat.le_of_ble_eq_true rfl) rfl ?_
      rintro v736 L736 f736 ⟨rfl, rfl, hT⟩
      refine tf_blk _ b_Law_law_739 rfl ?_
      refine tf_cV (tf_gok _ _) (c_Mod_thrown l D q (d - 1) _ _ hT) 745 d_Law_law_742 rfl lk_Law_62 cw_Mod_thrown (by rfl) in_Mod_thrown se_Mod_thrown (by exact hT.1.1) (by exact hT.1.2.1) (by rfl) (by rfl) (by omega) (by exact Nat.le_of_ble_eq_true rfl) rfl ?_
      rintro v742 L742 f742 ⟨rfl, rfl, rfl⟩
      refine tf_blk _ b_Law_law_745 rfl ?_
      refine tf_ic_eq 752 750 d_Law_law_747 rfl rfl (fun h747 => ?_) (fun h747 => absurd (rfl) h747)
      refine tf_blk _ b_Law_law_752 rfl ?_
      refine tf_if_ne 769 757 d_Law_law_754 rfl rfl (fun h754 => ?_) (fun h754 => absurd h754 (show ¬ kI 1 = 0 by decide))
      refine tf_goto 1293 d_Law_law_769 rfl ?_
      refine tf_less (kc2 := kc) (ks2 := ks) (by omega) (by omega) ?_
      refine tf_drop [0, 1, 2, 3, 4] rfl ?_
      exact hK (ad) _ _ _ _ _ _ (_) (rfl) (lw_cS (hS) hT) hT.1 (hR) (hou) (by rw [hT.2 ou hno]; exact fou)
  rcases g_or (n := S.n) (xs (nI i + kI 1).toNatClampNeg) with ⟨gi, hgi, e1⟩ | hg
  · rcases bool_or (tw_isSide (xs (nI i + kI 2).toNatClampNeg)) with hs | hs
    · obtain ⟨xe, hxe⟩ : ∃ xe, xe = tm_sub (rPn S) (rPc S) (tm_tc J A (rTr S) (rKc S) (rCc S)) 5 0 (fun _ => gi) (fun _ => 0) (A 19, A 20, A 21, A 22, 0, 0) := ⟨_, rfl⟩
      have hq := q_out hR hgi hxe
      have hS1 : xe.2.2.2.2.1 = tc_op (S.T gi) := hq.1.trans hq.2.2.1
      have hS0 : xe.2.2.2.2.1 ≤ 160 := by rw [hS1]; exact hq.2.2.2.2.1
      have h160 : (S.T gi).cp + (S.T gi).pp ≤ 160 := hq.2.2.2.2.1
      obtain ⟨al, ha⟩ := lw_sa hs
      obtain ⟨S2, h2e⟩ : ∃ x, tc_wC (tc_wO S (tc_out S gi)) (xs (nI i + kI 2).toNatClampNeg) al = x := ⟨_, rfl⟩
      have hoc : xe.2.2.2.2.2 ≤ 160 := by rw [hq.2.1, hq.2.2.2.1]; exact Nat.le_trans (lw_oc hR hgi) h160
      have hF : ∀ y, iB 100000 y → iB 1000000 ((tm_fit (bI true) S.hn (A 29) (xs (nI i + kI 2).toNatClampNeg)) y) := fun y hy => fit_B hR.2.2.1.2.2 (lw_s0 ha).1 (lw_s0 ha).2 hy
      have hB : ∀ p, p < xe.2.2.2.2.1 → iB 100000 (xe.1 p) ∧ iB 100000 (xe.2.1 p) := fun p hp => by rw [hq.1] at hp; obtain ⟨w0, w1, _⟩ := hq.2.2.2.2.2 p hp; rw [w0, w1]; exact out_B hR hgi p hp
      obtain ⟨GD, hGD⟩ : ∃ x, x = tm_drc xe.1 xe.2.1 xe.2.2.1 xe.2.2.2.1 (tm_fit (bI true) S.hn (A 29) (xs (nI i + kI 2).toNatClampNeg)) al (xs (nI i + kI 2).toNatClampNeg) 7 1 xe.2.2.2.2.1 xe.2.2.2.2.2 0 0 (J 53, J 54, tw_fl (kI 0) (al * al) 0 (A 31)) := ⟨_, rfl⟩
      refine tf_blk _ b_Law_law_676 rfl ?_
      refine tl_sld (fun _ _ h => h.2.1) 683 d_Law_law_682 rfl (hv1) ?_
      refine tf_blk _ b_Law_law_683 rfl ?_
      refine tl_sld (fun _ _ h => h.2.1) 689 d_Law_law_688 rfl (hv2) ?_
      refine tf_blk _ b_Law_law_689 rfl ?_
      refine tl_sld (fun _ _ h => h.2.1) 695 d_Law_law_694 rfl (hv3) ?_
      refine tf_if_eq 702 698 d_Law_law_695 rfl rfl (fun h695 => absurd h695 (c3)) (fun h695 => ?_)
      refine tf_blk _ b_Law_law_698 rfl ?_
      refine tf_goto 703 d_Law_law_699 rfl ?_
      refine tf_blk _ b_Law_law_703 rfl ?_
      rw [e1]
      refine tf_less (kc2 := kc + (0 + 1)) (ks2 := ks + (0 + 6)) (by omega) (by omega) ?_
      refine tl_cS (tf_gok _ _) tg_EL (fun _ _ h => h.1) (hl_draw_r l D q (d - 1) _ _ (by omega) _ _ _ hx fx (c_Tf_draw_t l D q (d - 1 - 1) _ _ hl (by omega) hS hn hgi hR.1.1 (rGl_G hR) (lw_13 hR hgi).2.1 hR.2.2.2.2.2.2.2.2.2.2 hR.2.2.1.1 ha (bI true) (tc_out S gi) rfl S2 h2e) (fun _ _ _ z => z) (fun v L2 f2 z => ⟨_, z.1, z.2.1 ▸ hou, g, (z.2.2.2 ou (Or.inr rfl)).trans fou⟩)) 707 d_Law_law_704 rfl lk_Law_99 tlw_draw (by rfl) sal_draw (by omega) (by exact Nat.le_of_ble_eq_true rfl) rfl ?_
      rintro v704 L704 f704 ⟨rfl, a, f1, g1, ⟨ea, rfl, hS2, hB2⟩, fo, rfl⟩
      have ea2 := Value.int.inj (Option.some.inj ea)
      have hT := tm_mv9 (f2 := va_up f1 ou (tj q 1 (va_upJ g1 a))) hM (fun _ z => z) (fun z hz ho => (va_up_ne _ _ (fun e => hno (by rw [← e]; exact ho))).trans (hB2 z (Or.inl ho)))
      refine tf_blk _ b_Law_law_707 rfl ?_
      refine tl_sld (fun _ _ h => h.2.1) 716 d_Law_law_715 rfl (hv1) ?_
      refine tf_blk _ b_Law_law_716 rfl ?_
      refine tl_sld (fun _ _ h => h.2.1) 722 d_Law_law_721 rfl (hv2) ?_
      refine tf_blk _ b_Law_law_722 rfl ?_
      refine tl_sld (fun _ _ h => h.2.1) 728 d_Law_law_727 rfl (hv3) ?_
      refine tf_if_eq 735 731 d_Law_law_728 rfl rfl (fun h728 => absurd h728 (c3)) (fun h728 => ?_)
      refine tf_blk _ b_Law_law_731 rfl ?_
      refine tf_goto 736 d_Law_law_732 rfl ?_
      rw [e1]
      refine tf_cV (tf_gok _ _) (c_Mod_draw_t l D q (d - 1) _ _ (by omega) hT (t_tree hR) (show gi < 40 by omega) ha true hxe hS0 hoc hR.2.2.1.1 hR.2.2.1.2.1 hF (w0 := 7) (k0 := 1) rfl rfl hB hGD (lw_G hR hgi)) 739 d_Law_law_736 rfl lk_Law_102 cw_Mod_draw (by rfl) in_Mod_draw se_Mod_draw (by exact hT.1.1) (by exact hT.1.2.1) (by rfl) (by rfl) (by omega) (by exact Nat.le_of_ble_eq_true rfl) rfl ?_
      rintro v736 L736 f736 ⟨rfl, rfl, J3, A3, hT, h30, h32, h31, ho4⟩
      refine tf_blk _ b_Law_law_739 rfl ?_
      refine tf_cV (tf_gok _ _) (c_Mod_thrown l D q (d - 1) _ _ hT) 745 d_Law_law_742 rfl lk_Law_62 cw_Mod_thrown (by rfl) in_Mod_thrown se_Mod_thrown (by exact hT.1.1) (by exact hT.1.2.1) (by rfl) (by rfl) (by omega) (by exact Nat.le_of_ble_eq_true rfl) rfl ?_
      rintro v742 L742 f742 ⟨rfl, rfl, rfl⟩
      refine tf_blk _ b_Law_law_745 rfl ?_
      refine tf_ic_eq 752 750 d_Law_law_747 rfl rfl (fun h747 => ?_) (fun h747 => absurd (h30) h747)
      refine tf_blk _ b_Law_law_752 rfl ?_
      refine tf_if_ne 769 757 d_Law_law_754 rfl rfl (fun h754 => absurd h754 (not_not_intro rfl)) (fun h754 => ?_)
      refine tf_blk _ b_Law_law_757 rfl ?_
      refine tf_lald (n := ?n_759_112) (g := ?g_759_112) 760 2 d_Law_law_759 rfl rfl ?ha_759_112 ?hf_759_112 ?hi_759_112 ?kk_759_112
      case ha_759_112 => exact hou
      case hf_759_112 => rw [hT.2 ou hno]; exact va_up_self _ _ _
      case hi_759_112 => exact (show vp_in (nI 0) 1 from vp_in_nI (by decide) (by decide))
      refine tf_blk _ b_Law_law_760 rfl ?_
      refine tf_if_eq 769 767 d_Law_law_764 rfl rfl (fun h764 => ?_) (fun h764 => absurd (lw_cmp0 (ea2.trans ((q_draw hR hgi ha (bI true) hxe h2e hGD ho4 h32 h31).1))) h764)
      refine tf_goto 1293 d_Law_law_769 rfl ?_
      refine tf_less (kc2 := kc) (ks2 := ks) (by omega) (by omega) ?_
      refine tf_drop [0, 1, 2, 3, 4] rfl ?_
      exact hK (ad) _ _ _ _ _ _ (va_upJ g1 a) (rfl) (lw_cS (lw_cO hS2 _) hT) hT.1 ((q_draw hR hgi ha (bI true) hxe h2e hGD ho4 h32 h31).2) (hou) (by rw [hT.2 ou hno]; exact va_up_self _ _ _)
    · refine tf_blk _ b_Law_law_676 rfl ?_
      refine tl_sld (fun _ _ h => h.2.1) 683 d_Law_law_682 rfl (hv1) ?_
      refine tf_blk _ b_Law_law_683 rfl ?_
      refine tl_sld (fun _ _ h => h.2.1) 689 d_Law_law_688 rfl (hv2) ?_
      refine tf_blk _ b_Law_law_689 rfl ?_
      refine tl_sld (fun _ _ h => h.2.1) 695 d_Law_law_694 rfl (hv3) ?_
      refine tf_if_eq 702 698 d_Law_law_695 rfl rfl (fun h695 => absurd h695 (c3)) (fun h695 => ?_)
      refine tf_blk _ b_Law_law_698 rfl ?_
      refine tf_goto 703 d_Law_law_699 rfl ?_
      refine tf_blk _ b_Law_law_703 rfl ?_
      rw [e1]
      refine tf_less (kc2 := kc + (0 + 1)) (ks2 := ks + (0 + 6)) (by omega) (by omega) ?_
      refine tl_cS (tf_gok _ _) tg_EL (fun _ _ h => h.1) (hl_draw_x1 l D q (d - 1) _ _ (by omega) _ _ _ hx fx (c_Tf_draw_s l D q (d - 1 - 1) _ _ hl (by omega) hS hn hgi _ _ hs) (fun _ _ _ z => z) (fun _ _ _ z => z.1)) 707 d_Law_law_704 rfl lk_Law_99 tlw_draw (by rfl) sal_draw (by omega) (by exact Nat.le_of_ble_eq_true rfl) rfl ?_
      rintro v704 L704 f704 ⟨rfl, -, rfl, rfl⟩
      refine tf_blk _ b_Law_law_707 rfl ?_
      refine tl_sld (fun _ _ h => h.2.1) 716 d_Law_law_715 rfl (hv1) ?_
      refine tf_blk _ b_Law_law_716 rfl ?_
      refine tl_sld (fun _ _ h => h.2.1) 722 d_Law_law_721 rfl (hv2) ?_
      refine tf_blk _ b_Law_law_722 rfl ?_
      refine tl_sld (fun _ _ h => h.2.1) 728 d_Law_law_727 rfl (hv3) ?_
      refine tf_if_eq 735 731 d_Law_law_728 rfl rfl (fun h728 => absurd h728 (c3)) (fun h728 => ?_)
      refine tf_blk _ b_Law_law_731 rfl ?_
      refine tf_goto 736 d_Law_law_732 rfl ?_
      rw [e1]
      refine tf_cV (tf_gok _ _) (c_Mod_draw_1 l D q (d - 1) _ _ (by omega) hT _ _ _ (fun _ => lw_sd hs)) 739 d_Law_law_736 rfl lk_Law_102 cw_Mod_draw (by rfl) in_Mod_draw se_Mod_draw (by exact hT.1.1) (by exact hT.1.2.1) (by rfl) (by rfl) (by omega) (by exact Nat.le_of_ble_eq_true rfl) rfl ?_
      rintro v736 L736 f736 ⟨rfl, rfl, hT⟩
      refine tf_blk _ b_Law_law_739 rfl ?_
      refine tf_cV (tf_gok _ _) (c_Mod_thrown l D q (d - 1) _ _ hT) 745 d_Law_law_742 rfl lk_Law_62 cw_Mod_thrown (by rfl) in_Mod_thrown se_Mod_thrown (by exact hT.1.1) (by exact hT.1.2.1) (by rfl) (by rfl) (by omega) (by exact Nat.le_of_ble_eq_true rfl) rfl ?_
      rintro v742 L742 f742 ⟨rfl, rfl, rfl⟩
      refine tf_blk _ b_Law_law_745 rfl ?_
      refine tf_ic_eq 752 750 d_Law_law_747 rfl rfl (fun h747 => ?_) (fun h747 => absurd (rfl) h747)
      refine tf_blk _ b_Law_law_752 rfl ?_
      refine tf_if_ne 769 757 d_Law_law_754 rfl rfl (fun h754 => ?_) (fun h754 => absurd h754 (show ¬ kI 1 = 0 by decide))
      refine tf_goto 1293 d_Law_law_769 rfl ?_
      refine tf_less (kc2 := kc) (ks2 := ks) (by omega) (by omega) ?_
      refine tf_drop [0, 1, 2, 3, 4] rfl ?_
      exact hK (ad) _ _ _ _ _ _ (_) (rfl) (lw_cS (hS) hT) hT.1 (hR) (hou) (by rw [hT.2 ou hno]; exact fou)
  · refine tf_blk _ b_Law_law_676 rfl ?_
    refine tl_sld (fun _ _ h => h.2.1) 683 d_Law_law_682 rfl (hv1) ?_
    refine tf_blk _ b_Law_law_683 rfl ?_
    refine tl_sld (fun _ _ h => h.2.1) 689 d_Law_law_688 rfl (hv2) ?_
    refine tf_blk _ b_Law_law_689 rfl ?_
    refine tl_sld (fun _ _ h => h.2.1) 695 d_Law_law_694 rfl (hv3) ?_
    refine tf_if_eq 702 698 d_Law_law_695 rfl rfl (fun h695 => absurd h695 (c3)) (fun h695 => ?_)
    refine tf_blk _ b_Law_law_698 rfl ?_
    refine tf_goto 703 d_Law_law_699 rfl ?_
    refine tf_blk _ b_Law_law_703 rfl ?_
    refine tf_less (kc2 := kc + (0 + 1)) (ks2 := ks + (0 + 6)) (by omega) (by omega) ?_
    refine tl_cS (tf_gok _ _) tg_EL (fun _ _ h => h.1) (hl_draw_x1 l D q (d - 1) _ _ (by omega) _ _ _ hx fx (c_Tf_draw_n l D q (d - 1 - 1) _ _ hl (by omega) hS hn hg _ _) (fun _ _ _ z => z) (fun _ _ _ z => z.1)) 707 d_Law_law_704 rfl lk_Law_99 tlw_draw (by rfl) sal_draw (by omega) (by exact Nat.le_of_ble_eq_true rfl) rfl ?_
    rintro v704 L704 f704 ⟨rfl, -, rfl, rfl⟩
    refine tf_blk _ b_Law_law_707 rfl ?_
    refine tl_sld (fun _ _ h => h.2.1) 716 d_Law_law_715 rfl (hv1) ?_
    refine tf_blk _ b_Law_law_716 rfl ?_
    refine tl_sld (fun _ _ h => h.2.1) 722 d_Law_law_721 rfl (hv2) ?_
    refine tf_blk _ b_Law_law_722 rfl ?_
    refine tl_sld (fun _ _ h => h.2.1) 728 d_Law_law_727 rfl (hv3) ?_
    refine tf_if_eq 735 731 d_Law_law_728 rfl rfl (fun h728 => absurd h728 (c3)) (fun h728 => ?_)
    refine tf_blk _ b_Law_law_731 rfl ?_
    refine tf_goto 736 d_Law_law_732 rfl ?_
    refine tf_cV (tf_gok _ _) (c_Mod_draw_n l D q (d - 1) _ _ (by omega) hT _ _ _ (lw_Gn hR hg)) 739 d_Law_law_736 rfl lk_Law_102 cw_Mod_draw (by rfl) in_Mod_draw se_Mod_draw (by exact hT.1.1) (by exact hT.1.2.1) (by rfl) (by rfl) (by omega) (by exact Nat.le_of_ble_eq_true rfl) rfl ?_
    rintro v736 L736 f736 ⟨rfl, rfl, hT⟩
    refine tf_blk _ b_Law_law_739 rfl ?_
    refine tf_cV (tf_gok _ _) (c_Mod_thrown l D q (d - 1) _ _ hT) 745 d_Law_law_742 rfl lk_Law_62 cw_Mod_thrown (by rfl) in_Mod_thrown se_Mod_thrown (by exact hT.1.1) (by exact hT.1.2.1) (by rfl) (by rfl) (by omega) (by exact Nat.le_of_ble_eq_true rfl) rfl ?_
    rintro v742 L742 f742 ⟨rfl, rfl, rfl⟩
    refine tf_blk _ b_Law_law_745 rfl ?_
    refine tf_ic_eq 752 750 d_Law_law_747 rfl rfl (fun h747 => ?_) (fun h747 => absurd (rfl) h747)
    refine tf_blk _ b_Law_law_752 rfl ?_
    refine tf_if_ne 769 757 d_Law_law_754 rfl rfl (fun h754 => ?_) (fun h754 => absurd h754 (show ¬ kI 1 = 0 by decide))
    refine tf_goto 1293 d_Law_law_769 rfl ?_
    refine tf_less (kc2 := kc) (ks2 := ks) (by omega) (by omega) ?_
    refine tf_drop [0, 1, 2, 3, 4] rfl ?_
    exact hK (ad) _ _ _ _ _ _ (_) (rfl) (lw_cS (hS) hT) hT.1 (hR) (hou) (by rw [hT.2 ou hno]; exact fou)
end
