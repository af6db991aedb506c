/-! Outline.gather, become -/
theorem tc_ou {q : Nat → ClassId} {ad : Nat → Nat} {S : tc_S} {B : Nat → Prop} {L : List Nat} {f : tf_F} (h : tc_at q ad S B L f) : ou_at q (fun k => ad (4 + k)) (ad 3) f L S.oc S.op S.oA f := by
  refine ⟨⟨(tc_c3 h).1, (tc_c3 h).2, fun k hk => ?_, fun i j hi hj e => ?_⟩, fun _ _ => rfl⟩
  · have hk2 : k = 0 ∨ k = 1 ∨ k = 2 ∨ k = 3 ∨ k = 4 := by omega
    rcases hk2 with rfl | rfl | rfl | rfl | rfl
    · exact tc_c4 h
    · exact tc_c5 h
    · exact tc_c6 h
    · exact tc_c7 h
    · exact tc_c8 h
  · by_cases hij : i = j
    · exact hij
    · exact absurd e (tc_neF h (i := 4 + i) (j := 4 + j) (by omega) (by omega) (by omega))
section
variable (l : Launch) (D : va_G) (q : Nat → ClassId) (d : Nat) (L : List Nat) (f : tf_F)
theorem c_Outline_gather {ad : Nat → Nat} {S : tc_S} {B : Nat → Prop} (h : tc_at q ad S B L f) (hm : tc_mm S.mm) (hG : tc_GI S) : ∀ (k d g lv : Nat) (s : ou_ST) (fc : tf_F), k + 5 ≤ d → g < S.n → (S.T g).dp ≤ k → k + lv ≤ 4 → og_I s → s.1 + tc_op (S.T g) ≤ 160 → og_at q ad f L s fc → tf_C l (tf_H D q) d i_Outline_gather [.ref (ad 3), .ref (ad (tc_k g 0)), .ref (ad 1), .int (nI lv)] L fc 0 0 (fun v L2 f2 => v = none ∧ L2 = L ∧ og_at q ad f L (tw_gat S k g s) f2) := by
  intro k
  induction k with
  | zero =>
    intro d g lv s fc hd hg hdp hlv hs h160 hT
    obtain ⟨hO, hP⟩ := hG g hg
    obtain ⟨hct, h40, hE, hz0, hlast, hfirst, hgap⟩ := id hO
    obtain ⟨a1, a2, a3⟩ := tw_acG_I hO hs
    have hC3 : 3 * (s.2.1 + (S.T g).ct) ≤ s.1 + (S.T g).cp := by
      obtain ⟨st, s0, s1, s2, s3⟩ := id a1
      have h8 := og_le s3 (tw_acG S g s).2.1 0 (by omega)
      have h7 : st (0 + (tw_acG S g s).2.1) = (tw_acG S g s).1 := by rw [Nat.zero_add]; exact s1
      rw [h7, s0, a2, a3] at h8
      omega
    have hcp : s.1 + (S.T g).cp ≤ 160 := by unfold tc_op at h160; omega
    have hp0 := tc_pc0 hP (by omega)
    refine tf_C.of (tf_gok _ _) (by decide) w_662 (Nat.le_of_ble_eq_true rfl) ?_
    rw [show tw_gat S 0 g s = tw_parts (tw_gat S 0) (S.T g) (S.T g).pc 0 (tw_acG S g s) from by rw [hp0]; rfl]
    refine tf_blk _ b_Outline_gather_0 rfl ?_
    refine tf_ifnull_r 4 d_Outline_gather_1 rfl ?_
    refine tf_blk _ b_Outline_gather_4 rfl ?_
    refine tf_ic_le 10 9 d_Outline_gather_6 rfl rfl (fun h6 => ?_) (fun h6 => absurd (nI_le (b := 4) (by omega) (by omega)) h6)
    refine tf_blk _ b_Outline_gather_10 rfl ?_
    refine tf_cV (tf_gok _ _) (c_Outline_addContours l D q (d - 1) _ _ (by omega) (tc_gl h hg) (tc_vinI hm) (e := tc_e (S.T g)) (T := (S.T g).cp) hct h40 (fun z hz => hE z hz) (fun z hz => by have := hgap z hz; omega) (p := s.1) (C := s.2.1) (A := s.2.2) (by omega) (by omega) hT) 16 d_Outline_gather_13 rfl lk_Outline_39 cw_Outline_addContours (by rfl) in_Outline_addContours se_Outline_addContours (by exact hT.1.1) (by exact hT.1.2.1) (by rfl) (by rfl) (by omega) (by exact Nat.le_of_ble_eq_true rfl) rfl ?_
    rintro v13 L13 f13 ⟨rfl, rfl, hT⟩
    refine tf_blk _ b_Outline_gather_16 rfl ?_
    refine tf_get (fs := ?fs_17_2) (v := ?v_17_2) 20 d_Outline_gather_17 rfl fl_Outline_43 ?ha_17_2 ?hf_17_2 ?hv_17_2 ?kk_17_2
    case ha_17_2 => exact (tc_g0 h hg).1
    case hf_17_2 => rw [hT.2 _ (tc_noG h hg (by decide))]; exact (tc_g0 h hg).2
    case hv_17_2 => rfl
    refine tf_blk _ b_Outline_gather_20 rfl ?_
    refine tf_alen (w := ?w_24_3) 25 6 d_Outline_gather_24 rfl rfl ?ha_24_3 ?hf_24_3 ?kk_24_3
    case ha_24_3 => exact (tc_g6 h hg).1
    case hf_24_3 => rw [hT.2 _ (tc_noG h hg (by decide))]; exact (tc_g6 h hg).2
    refine tf_blk _ b_Outline_gather_25 rfl ?_
    exact t_Outline_gat l D q d _ _ (by omega) h hg hP (rc := tw_gat S 0) (w1 := fun j => tc_op (S.T ((S.T g).src j))) (w2 := fun j => tc_oc (S.T ((S.T g).src j))) (fun g s => tw_gat_K 0 g s) (fun j hj => absurd hj (by omega)) (fun j hj => absurd hj (by omega)) (S.T g).pc 0 (tw_acG S g s) _ (by omega) a1 (by have z0 : tc_sum (fun j => tc_op (S.T ((S.T g).src j))) 0 = 0 := rfl; rw [z0, a2, ← hP.2.2.1]; unfold tc_op at h160; omega) hT
  | succ k ih =>
    intro d g lv s fc hd hg hdp hlv hs h160 hT
    obtain ⟨hO, hP⟩ := hG g hg
    obtain ⟨hct, h40, hE, hz0, hlast, hfirst, hgap⟩ := id hO
    obtain ⟨a1, a2, a3⟩ := tw_acG_I hO hs
    have hC3 : 3 * (s.2.1 + (S.T g).ct) ≤ s.1 + (S.T g).cp := by
      obtain ⟨st, s0, s1, s2, s3⟩ := id a1
      have h8 := og_le s3 (tw_acG S g s).2.1 0 (by omega)
      have h7 : st (0 + (tw_acG S g s).2.1) = (tw_acG S g s).1 := by rw [Nat.zero_add]; exact s1
      rw [h7, s0, a2, a3] at h8
      omega
    have hcp : s.1 + (S.T g).cp ≤ 160 := by unfold tc_op at h160; omega
    refine tf_C.of (tf_gok _ _) (by decide) w_662 (Nat.le_of_ble_eq_true rfl) ?_
    rw [show tw_gat S (k + 1) g s = tw_parts (tw_gat S k) (S.T g) (S.T g).pc 0 (tw_acG S g s) from rfl]
    refine tf_blk _ b_Outline_gather_0 rfl ?_
    refine tf_ifnull_r 4 d_Outline_gather_1 rfl ?_
    refine tf_blk _ b_Outline_gather_4 rfl ?_
    refine tf_ic_le 10 9 d_Outline_gather_6 rfl rfl (fun h6 => ?_) (fun h6 => absurd (nI_le (b := 4) (by omega) (by omega)) h6)
    refine tf_blk _ b_Outline_gather_10 rfl ?_
    refine tf_cV (tf_gok _ _) (c_Outline_addContours l D q (d - 1) _ _ (by omega) (tc_gl h hg) (tc_vinI hm) (e := tc_e (S.T g)) (T := (S.T g).cp) hct h40 (fun z hz => hE z hz) (fun z hz => by have := hgap z hz; omega) (p := s.1) (C := s.2.1) (A := s.2.2) (by omega) (by omega) hT) 16 d_Outline_gather_13 rfl lk_Outline_39 cw_Outline_addContours (by rfl) in_Outline_addContours se_Outline_addContours (by exact hT.1.1) (by exact hT.1.2.1) (by rfl) (by rfl) (by omega) (by exact Nat.le_of_ble_eq_true rfl) rfl ?_
    rintro v13 L13 f13 ⟨rfl, rfl, hT⟩
    refine tf_blk _ b_Outline_gather_16 rfl ?_
    refine tf_get (fs := ?fs_17_5) (v := ?v_17_5) 20 d_Outline_gather_17 rfl fl_Outline_43 ?ha_17_5 ?hf_17_5 ?hv_17_5 ?kk_17_5
    case ha_17_5 => exact (tc_g0 h hg).1
    case hf_17_5 => rw [hT.2 _ (tc_noG h hg (by decide))]; exact (tc_g0 h hg).2
    case hv_17_5 => rfl
    refine tf_blk _ b_Outline_gather_20 rfl ?_
    refine tf_alen (w := ?w_24_6) 25 6 d_Outline_gather_24 rfl rfl ?ha_24_6 ?hf_24_6 ?kk_24_6
    case ha_24_6 => exact (tc_g6 h hg).1
    case hf_24_6 => rw [hT.2 _ (tc_noG h hg (by decide))]; exact (tc_g6 h hg).2
    refine tf_blk _ b_Outline_gather_25 rfl ?_
    exact t_Outline_gat l D q d _ _ (by omega) h hg hP (rc := tw_gat S k) (w1 := fun j => tc_op (S.T ((S.T g).src j))) (w2 := fun j => tc_oc (S.T ((S.T g).src j))) (fun g s => tw_gat_K k g s) (fun j hj s2 hs2 => by have hz := hP.2.1 j hj; exact tw_gat_I hG k _ s2 hz.1 (by omega) hs2) (fun j hj s2 fc2 hs2 hb2 hT2 => by have hz := hP.2.1 j hj; have h9 := ih (d - 1) ((S.T g).src j) (lv + 1) s2 fc2 (by omega) hz.1 (by omega) (by omega) hs2 hb2 hT2; rw [nI_succ] at h9; exact h9) (S.T g).pc 0 (tw_acG S g s) _ (by omega) a1 (by have z0 : tc_sum (fun j => tc_op (S.T ((S.T g).src j))) 0 = 0 := rfl; rw [z0, a2, ← hP.2.2.1]; unfold tc_op at h160; omega) hT
set_option maxHeartbeats 4000000 in
set_option maxRecDepth 100000 in
theorem c_Outline_become (hd : 10 ≤ d) {ad : Nat → Nat} {S : tc_S} {B : Nat → Prop} (h : tc_at q ad S B L f) (hm : tc_mm S.mm) (hG : tc_GI S) {g : Nat} (hg : g < S.n) (hdp : (S.T g).dp ≤ 4) (h0 : S.oA 3 0 = nI 0) : tf_C l (tf_H D q) d i_Outline_become [.ref (ad 3), .ref (ad (tc_k g 0)), .ref (ad 1)] L f 0 0 (fun v L2 f2 => v = none ∧ L2 = L ∧ og_at q ad f L (tw_gat S 4 g (0, 0, S.oA)) f2) := by
  have hT : ou_at q (fun k => ad (4 + k)) (ad 3) f L S.oc S.op S.oA f := tc_ou h
  have hI : og_I (0, 0, S.oA) := ⟨fun _ => 0, rfl, rfl, fun z hz => by rw [Nat.le_zero.mp hz]; exact h0, fun z hz => absurd hz (Nat.not_lt_zero z)⟩
  have h160 : (0, 0, S.oA).1 + tc_op (S.T g) ≤ 160 := by
    have hz := hG g hg
    have z1 := hz.1.2.1
    have z2 := hz.2.2.2.2.2
    show 0 + tc_op (S.T g) ≤ 160
    unfold tc_op
    omega
  refine tf_C.of (tf_gok _ _) (by decide) w_658 (Nat.le_of_ble_eq_true rfl) ?_
  refine tf_blk _ b_Outline_become_0 rfl ?_
  refine ou_put 5 d_Outline_become_2 rfl fw_Outline_28 hT (by decide) rfl rfl rfl (fun f hT => ?_)
  refine tf_blk _ b_Outline_become_5 rfl ?_
  refine ou_put 10 d_Outline_become_7 rfl fw_Outline_32 hT (by decide) rfl rfl rfl (fun f hT => ?_)
  refine tf_blk _ b_Outline_become_10 rfl ?_
  refine tf_cV (tf_gok _ _) (c_Outline_gather l D q _ _ h hm hG 4 (d - 1) g 0 (0, 0, S.oA) _ (by omega) hg hdp (by omega) hI h160 hT) 17 d_Outline_become_14 rfl lk_Outline_35 cw_Outline_gather (by rfl) in_Outline_gather se_Outline_gather (by exact hT.1.1) (by exact hT.1.2.1) (by rfl) (by rfl) (by omega) (by exact Nat.le_of_ble_eq_true rfl) rfl ?_
  rintro v14 L14 f14 ⟨rfl, rfl, hT⟩
  refine tf_vret d_Outline_become_17 rfl ?_
  exact ⟨rfl, rfl, hT⟩
end
