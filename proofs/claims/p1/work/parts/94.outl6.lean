/-! Outline.gather: the parts of a glyph -/
theorem tc_sum_le (w : Nat → Nat) {a b : Nat} (h : a ≤ b) : tc_sum w a ≤ tc_sum w b := by
  induction b with
  | zero => rw [Nat.le_zero.mp h]; exact Nat.le_refl _
  | succ b ih =>
    rcases Nat.lt_or_ge a (b + 1) with h9 | h9
    · exact Nat.le_trans (ih (by omega)) (Nat.le_add_right _ _)
    · rw [show a = b + 1 by omega]; exact Nat.le_refl _
section
variable (l : Launch) (D : va_G) (q : Nat → ClassId) (d : Nat) (L : List Nat) (f : tf_F)
end
theorem tc_no {q : Nat → ClassId} {ad : Nat → Nat} {S : tc_S} {B : Nat → Prop} {L : List Nat} {f : tf_F} (h : tc_at q ad S B L f) {k : Nat} (hk : (tc_E q ad S k).isSome = true) (h1 : k < 3 ∨ 8 < k) : ¬ ou_own (fun k => ad (4 + k)) (ad 3) (ad k) := by
  rintro (e | ⟨j, hj, e⟩)
  · exact tc_ne h hk (tc_isF (by decide)) (show k ≠ 3 by omega) e
  · exact tc_ne h hk (tc_isF (show 4 + j < 27 by omega)) (show k ≠ 4 + j by omega) e
theorem tc_noG {q : Nat → ClassId} {ad : Nat → Nat} {S : tc_S} {B : Nat → Prop} {L : List Nat} {f : tf_F} (h : tc_at q ad S B L f) {i c : Nat} (hi : i < S.n) (hc : c < 7) : ¬ ou_own (fun k => ad (4 + k)) (ad 3) (ad (tc_k i c)) := tc_no h (tc_isG hi hc) (Or.inr (by unfold tc_k; omega))
theorem tc_gl {q : Nat → ClassId} {ad : Nat → Nat} {S : tc_S} {B : Nat → Prop} {L : List Nat} {f : tf_F} (h : tc_at q ad S B L f) {i : Nat} (hi : i < S.n) : ou_gl q (fun k => ad (4 + k)) (ad 3) (ad (tc_k i 0)) (ad 1) (ad (tc_k i 1)) (ad (tc_k i 2)) (ad (tc_k i 4)) (ad (tc_k i 5)) (40 * S.mm) (nI S.mm) S.u S.w (S.T i).X (S.T i).Y (S.T i).O (S.T i).E (S.T i).ct L f :=
  ⟨⟨_, _, _, _, _, _, _, _, _, _, (tc_g0 h hi).1, tc_noG h hi (by decide), (tc_g0 h hi).2⟩, ⟨(tc_c1 h).1, tc_no h (tc_isF (by decide)) (Or.inl (by decide)), (tc_c1 h).2⟩, ⟨(tc_g1 h hi).1, tc_noG h hi (by decide), (tc_g1 h hi).2⟩, ⟨(tc_g2 h hi).1, tc_noG h hi (by decide), (tc_g2 h hi).2⟩, ⟨(tc_g4 h hi).1, tc_noG h hi (by decide), (tc_g4 h hi).2⟩, ⟨(tc_g5 h hi).1, tc_noG h hi (by decide), (tc_g5 h hi).2⟩⟩
theorem tc_vinI {n : Nat} (h : tc_mm n) : ∀ i, i < 40 → tw_vin (nI n) (40 * n) i := by
  intro i hi
  unfold tw_vin
  rw [nI_mul]
  rcases h with rfl | rfl | rfl
  · exact ⟨vp_in_nI (by omega) (by omega), fun z => absurd rfl z, fun z => absurd rfl z, fun z => absurd rfl z⟩
  · refine ⟨vp_in_nI (by omega) (by omega), fun _ => ?_, fun _ z => absurd rfl z, fun _ z => absurd rfl z⟩
    rw [show nI (i * 2) + kI 1 = nI (i * 2 + 1) from nI_1 _]
    exact vp_in_nI (by omega) (by omega)
  · refine ⟨vp_in_nI (by omega) (by omega), fun _ => ?_, fun _ _ => ?_, fun _ _ => ?_⟩
    · rw [show kI 1 = nI 1 from rfl, nI_add]
      exact vp_in_nI (by omega) (by omega)
    · rw [show kI 2 = nI 2 from rfl, nI_add]
      exact vp_in_nI (by omega) (by omega)
    · rw [show kI 3 = nI 3 from rfl, nI_add]
      exact vp_in_nI (by omega) (by omega)
def og_at (q : Nat → ClassId) (ad : Nat → Nat) (f : tf_F) (L : List Nat) (s : ou_ST) (fc : tf_F) : Prop := ou_at q (fun k => ad (4 + k)) (ad 3) f L (nI s.2.1) (nI s.1) s.2.2 fc
section
variable (l : Launch) (D : va_G) (q : Nat → ClassId) (d : Nat) (L : List Nat) (f : tf_F)
set_option maxHeartbeats 4000000 in
set_option maxRecDepth 100000 in
theorem t_Outline_gat (hd : 4 ≤ d) {ad : Nat → Nat} {S : tc_S} {B : Nat → Prop} (h : tc_at q ad S B L f) {g lv : Nat} (hg : g < S.n) (hP : tc_prt S (S.T g)) {rc : Nat → ou_ST → ou_ST} {w1 w2 : Nat → Nat} (hK : ∀ g s, og_K s (rc g s)) (hI : ∀ j, j < (S.T g).pc → ∀ s, og_I s → og_I (rc ((S.T g).src j) s) ∧ (rc ((S.T g).src j) s).1 = s.1 + w1 j ∧ (rc ((S.T g).src j) s).2.1 = s.2.1 + w2 j) (hR : ∀ j, j < (S.T g).pc → ∀ s fc, og_I s → s.1 + w1 j ≤ 160 → og_at q ad f L s fc → tf_C l (tf_H D q) (d - 1) i_Outline_gather [.ref (ad 3), .ref (ad (tc_k ((S.T g).src j) 0)), .ref (ad 1), .int (nI lv + kI 1)] L fc 0 0 (fun v L2 f2 => v = none ∧ L2 = L ∧ og_at q ad f L (rc ((S.T g).src j) s) f2)) : ∀ m j s fc, j + m = (S.T g).pc → og_I s → s.1 + tc_sum w1 (S.T g).pc ≤ 160 + tc_sum w1 j → og_at q ad f L s fc → tf_W l (tf_H D q) tf_T (tf_QM (tf_H D q) (fun v L2 f2 => v = none ∧ L2 = L ∧ og_at q ad f L (tw_parts rc (S.T g) m j s) f2)) d i_Outline_gather 30 [(0, .ref (ad 3)), (1, .ref (ad (tc_k g 0))), (2, .ref (ad 1)), (3, .int (nI lv)), (4, .ref (ad (tc_k g 6))), (5, .int (nI 4)), (6, .int (nI j))] [] L fc 0 0 := by
  obtain ⟨hpc, hp2, hp3, hp4, hp5⟩ := id hP
  obtain ⟨hpa, fpa⟩ := tc_g6 h hg
  intro m
  induction m with
  | zero =>
    intro j s fc hj hs hb hT
    obtain rfl : j = (S.T g).pc := hj
    by_cases h4 : (S.T g).pc = 4
    · refine tf_blk _ b_Outline_gather_30 rfl ?_
      refine tf_ic_ge 97 37 d_Outline_gather_34 rfl rfl (fun h34 => ?_) (fun h34 => absurd (by rw [h4]; decide) h34)
      refine tf_vret d_Outline_gather_97 rfl ?_
      exact ⟨rfl, rfl, hT⟩
    have hcc : (nI (S.T g).pc).toNatClampNeg = (S.T g).pc := nI_clamp (by omega)
    refine tf_blk _ b_Outline_gather_30 rfl ?_
    refine tf_ic_ge 97 37 d_Outline_gather_34 rfl rfl (fun h34 => absurd h34 (nI_ge (b := 4) (by omega) (by omega))) (fun h34 => ?_)
    refine tf_blk _ b_Outline_gather_37 rfl ?_
    refine tf_aald (n := ?n_41_2) (g := ?g_41_2) 42 6 d_Outline_gather_41 rfl rfl ?ha_41_2 ?hf_41_2 ?hi_41_2 ?kk_41_2
    case ha_41_2 => exact hpa
    case hf_41_2 => rw [hT.2 _ (tc_noG h hg (by decide))]; assumption
    case hi_41_2 => exact vp_in_nI (by omega) (by omega)
    rw [hcc, show tc_pa ad g (S.T g).pc (S.T g).pc = none from if_neg (Nat.lt_irrefl _)]
    refine tf_blk _ b_Outline_gather_42 rfl ?_
    refine tf_ifnonnull_n 49 d_Outline_gather_46 rfl ?_
    refine tf_vret d_Outline_gather_49 rfl ?_
    exact ⟨rfl, rfl, hT⟩
  | succ m ih =>
    intro j s fc hj hs hb hT
    have hjp : j < (S.T g).pc := by omega
    have hcc : (nI j).toNatClampNeg = j := nI_clamp (by omega)
    obtain ⟨hpj, fpj⟩ := tc_part h hg hjp hpc
    unfold tc_pt at fpj
    have hno := tc_no h (tc_isP hg hjp hpc) (Or.inr (by unfold tc_k; omega))
    obtain ⟨i1, i2, i3⟩ := hI j hjp s hs
    have hsum : tc_sum w1 (j + 1) = tc_sum w1 j + w1 j := rfl
    have hmono : tc_sum w1 (j + 1) ≤ tc_sum w1 (S.T g).pc := tc_sum_le w1 (by omega)
    have h160 : s.1 + w1 j ≤ 160 := by omega
    obtain ⟨st, s0, s1, s2, s3⟩ := id i1
    have hC3 : 3 * (s.2.1 + w2 j) ≤ s.1 + w1 j := by
      have h8 := og_le s3 (rc ((S.T g).src j) s).2.1 0 (by omega)
      have h7 : st (0 + (rc ((S.T g).src j) s).2.1) = (rc ((S.T g).src j) s).1 := by rw [Nat.zero_add]; exact s1
      rw [h7, s0, i2, i3] at h8
      omega
    have hst : (rc ((S.T g).src j) s).2.2 3 s.2.1 = nI s.1 := by
      rw [(hK _ s).2 s.2.1 (Nat.le_refl _)]
      obtain ⟨st0, t0, t1, t2, t3⟩ := hs
      rw [t2 _ (Nat.le_refl _), t1]
    have hwv : vp_in (nI s.2.1) 54 := vp_in_nI (by omega) (by omega)
    have hwc : (nI s.2.1).toNatClampNeg = s.2.1 := nI_clamp (by omega)
    have ht8 := (hp2 j hjp).2.2
    by_cases c1 : (S.T g).tu j < 4
    · refine tf_blk _ b_Outline_gather_30 rfl ?_
      refine tf_ic_ge 97 37 d_Outline_gather_34 rfl rfl (fun h34 => absurd h34 (nI_ge (b := 4) (by omega) (by omega))) (fun h34 => ?_)
      refine tf_blk _ b_Outline_gather_37 rfl ?_
      refine tf_aald (n := ?n_41_4) (g := ?g_41_4) 42 6 d_Outline_gather_41 rfl rfl ?ha_41_4 ?hf_41_4 ?hi_41_4 ?kk_41_4
      case ha_41_4 => exact hpa
      case hf_41_4 => rw [hT.2 _ (tc_noG h hg (by decide))]; assumption
      case hi_41_4 => exact vp_in_nI (by omega) (by omega)
      rw [hcc, show tc_pa ad g (S.T g).pc j = some (ad (tc_k g (8 + j))) from if_pos hjp]
      refine tf_blk _ b_Outline_gather_42 rfl ?_
      refine tf_ifnonnull_r 50 d_Outline_gather_46 rfl ?_
      refine tf_blk _ b_Outline_gather_50 rfl ?_
      refine ou_get 54 d_Outline_gather_51 rfl fl_Outline_32 hT rfl ?_
      refine tf_blk _ b_Outline_gather_54 rfl ?_
      refine tf_get (fs := ?fs_59_6) (v := ?v_59_6) 62 d_Outline_gather_59 rfl fl_Outline_49 ?ha_59_6 ?hf_59_6 ?hv_59_6 ?kk_59_6
      case ha_59_6 => exact hpj
      case hf_59_6 => rw [hT.2 _ hno]; exact fpj
      case hv_59_6 => rfl
      refine tf_blk _ b_Outline_gather_62 rfl ?_
      refine tf_cV (tf_gok _ _) (hR j hjp s _ hs h160 hT) 69 d_Outline_gather_66 rfl lk_Outline_35 cw_Outline_gather (by rfl) in_Outline_gather se_Outline_gather (by exact hT.1.1) (by exact hT.1.2.1) (by rfl) (by rfl) (by omega) (by exact Nat.le_of_ble_eq_true rfl) rfl ?_
      rintro v66 L66 f66 ⟨rfl, rfl, hT⟩
      refine tf_blk _ b_Outline_gather_69 rfl ?_
      refine tf_cV (tf_gok _ _) (c_Outline_turnAndShift l D q (d - 1) _ _ (by omega) (n := (rc ((S.T g).src j) s).1) (t := (S.T g).tu j) (k := s.1) (nI s.2.1) (by omega) ht8 hpj hno fpj hT hwv (by rw [hwc]; exact hst) (by omega)) 77 d_Outline_gather_74 rfl lk_Outline_55 cw_Outline_turnAndShift (by rfl) in_Outline_turnAndShift se_Outline_turnAndShift (by exact hT.1.1) (by exact hT.1.2.1) (by rfl) (by rfl) (by omega) (by exact Nat.le_of_ble_eq_true rfl) rfl ?_
      rintro v74 L74 f74 ⟨rfl, rfl, hT⟩
      refine tf_blk _ b_Outline_gather_77 rfl ?_
      refine tf_cV (tf_gok _ _) (c_Part_isMirrored l D q (d - 1) _ _ hpj ((hT.2 _ hno).trans fpj)) 82 d_Outline_gather_79 rfl lk_Outline_59 cw_Part_isMirrored (by rfl) in_Part_isMirrored se_Part_isMirrored (by exact hpj) (by rw [hT.2 _ hno]; exact fpj) (by rfl) (by rfl) (by omega) (by exact Nat.le_of_ble_eq_true rfl) rfl ?_
      rintro v79 L79 f79 ⟨rfl, rfl, rfl⟩
      refine tf_if_eq 91 85 d_Outline_gather_82 rfl rfl (fun h82 => ?_) (fun h82 => absurd (by rw [show decide (¬ nI ((S.T g).tu j) < kI 4) = false from decide_eq_false (not_not_intro ((nI_ltI (b := 4) (by omega) (by omega)).mpr c1))]; rfl) h82)
      refine tf_blk _ b_Outline_gather_91 rfl ?_
      refine tf_goto 30 d_Outline_gather_94 rfl ?_
      have h9 := ih (j + 1) (tw_one (S.T g) j s.1 s.2.1 (rc ((S.T g).src j) s)) _ (by omega) (tw_one_I i1) (show (rc ((S.T g).src j) s).1 + tc_sum w1 (S.T g).pc ≤ 160 + tc_sum w1 (j + 1) by omega) (show og_at q ad f _ (tw_one (S.T g) j s.1 s.2.1 (rc ((S.T g).src j) s)) _ from by
        unfold og_at tw_one
        show ou_at q (fun k => ad (4 + k)) (ad 3) f _ (nI (rc ((S.T g).src j) s).2.1) (nI (rc ((S.T g).src j) s).1) (if (S.T g).tu j < 4 then _ else _) _
        rw [if_pos c1]
        exact hT)
      refine tf_drop [0, 1, 2, 3, 4, 5, 6] rfl ?_
      rw [show nI (j + 1) = nI j + 1 from nI_succ j] at h9
      exact h9
    refine tf_blk _ b_Outline_gather_30 rfl ?_
    refine tf_ic_ge 97 37 d_Outline_gather_34 rfl rfl (fun h34 => absurd h34 (nI_ge (b := 4) (by omega) (by omega))) (fun h34 => ?_)
    refine tf_blk _ b_Outline_gather_37 rfl ?_
    refine tf_aald (n := ?n_41_10) (g := ?g_41_10) 42 6 d_Outline_gather_41 rfl rfl ?ha_41_10 ?hf_41_10 ?hi_41_10 ?kk_41_10
    case ha_41_10 => exact hpa
    case hf_41_10 => rw [hT.2 _ (tc_noG h hg (by decide))]; assumption
    case hi_41_10 => exact vp_in_nI (by omega) (by omega)
    rw [hcc, show tc_pa ad g (S.T g).pc j = some (ad (tc_k g (8 + j))) from if_pos hjp]
    refine tf_blk _ b_Outline_gather_42 rfl ?_
    refine tf_ifnonnull_r 50 d_Outline_gather_46 rfl ?_
    refine tf_blk _ b_Outline_gather_50 rfl ?_
    refine ou_get 54 d_Outline_gather_51 rfl fl_Outline_32 hT rfl ?_
    refine tf_blk _ b_Outline_gather_54 rfl ?_
    refine tf_get (fs := ?fs_59_12) (v := ?v_59_12) 62 d_Outline_gather_59 rfl fl_Outline_49 ?ha_59_12 ?hf_59_12 ?hv_59_12 ?kk_59_12
    case ha_59_12 => exact hpj
    case hf_59_12 => rw [hT.2 _ hno]; exact fpj
    case hv_59_12 => rfl
    refine tf_blk _ b_Outline_gather_62 rfl ?_
    refine tf_cV (tf_gok _ _) (hR j hjp s _ hs h160 hT) 69 d_Outline_gather_66 rfl lk_Outline_35 cw_Outline_gather (by rfl) in_Outline_gather se_Outline_gather (by exact hT.1.1) (by exact hT.1.2.1) (by rfl) (by rfl) (by omega) (by exact Nat.le_of_ble_eq_true rfl) rfl ?_
    rintro v66 L66 f66 ⟨rfl, rfl, hT⟩
    refine tf_blk _ b_Outline_gather_69 rfl ?_
    refine tf_cV (tf_gok _ _) (c_Outline_turnAndShift l D q (d - 1) _ _ (by omega) (n := (rc ((S.T g).src j) s).1) (t := (S.T g).tu j) (k := s.1) (nI s.2.1) (by omega) ht8 hpj hno fpj hT hwv (by rw [hwc]; exact hst) (by omega)) 77 d_Outline_gather_74 rfl lk_Outline_55 cw_Outline_turnAndShift (by rfl) in_Outline_turnAndShift se_Outline_turnAndShift (by exact hT.1.1) (by exact hT.1.2.1) (by rfl) (by rfl) (by omega) (by exact Nat.le_of_ble_eq_true rfl) rfl ?_
    rintro v74 L74 f74 ⟨rfl, rfl, hT⟩
    have hRev := c_Outline_reverseContours l D q (d - 1) _ f74 (by omega) (C := (rc ((S.T g).src j) s).2.1) (S := fun z => ((rc ((S.T g).src j) s).2.2 3 z).toNatClampNeg) (by omega) (c := s.2.1) (by omega) (fun z z1 z2 => by
      have y1 := s2 z (by omega)
      have y2 := s2 (z + 1) (by omega)
      have y3 := s3 z z2
      have y4 := og_le s3 ((rc ((S.T g).src j) s).2.1 - (z + 1)) (z + 1) (by omega)
      rw [show z + 1 + ((rc ((S.T g).src j) s).2.1 - (z + 1)) = (rc ((S.T g).src j) s).2.1 by omega, s1, i2] at y4
      rw [tw_tas_3, y1, y2, nI_clamp (show st z < 2 ^ 31 by omega), nI_clamp (show st (z + 1) < 2 ^ 31 by omega)]
      exact ⟨rfl, rfl, by omega, by omega⟩) hT
    refine tf_blk _ b_Outline_gather_77 rfl ?_
    refine tf_cV (tf_gok _ _) (c_Part_isMirrored l D q (d - 1) _ _ hpj ((hT.2 _ hno).trans fpj)) 82 d_Outline_gather_79 rfl lk_Outline_59 cw_Part_isMirrored (by rfl) in_Part_isMirrored se_Part_isMirrored (by exact hpj) (by rw [hT.2 _ hno]; exact fpj) (by rfl) (by rfl) (by omega) (by exact Nat.le_of_ble_eq_true rfl) rfl ?_
    rintro v79 L79 f79 ⟨rfl, rfl, rfl⟩
    refine tf_if_eq 91 85 d_Outline_gather_82 rfl rfl (fun h82 => absurd h82 (by rw [show decide (¬ nI ((S.T g).tu j) < kI 4) = true from decide_eq_true (fun z => c1 ((nI_ltI (b := 4) (by omega) (by omega)).mp z))]; decide)) (fun h82 => ?_)
    refine tf_blk _ b_Outline_gather_85 rfl ?_
    refine tf_cV (tf_gok _ _) (hRev) 91 d_Outline_gather_88 rfl lk_Outline_63 cw_Outline_reverseContours (by rfl) in_Outline_reverseContours se_Outline_reverseContours (by exact hT.1.1) (by exact hT.1.2.1) (by rfl) (by rfl) (by omega) (by exact Nat.le_of_ble_eq_true rfl) rfl ?_
    rintro v88 L88 f88 ⟨rfl, rfl, hT⟩
    refine tf_blk _ b_Outline_gather_91 rfl ?_
    refine tf_goto 30 d_Outline_gather_94 rfl ?_
    have h9 := ih (j + 1) (tw_one (S.T g) j s.1 s.2.1 (rc ((S.T g).src j) s)) _ (by omega) (tw_one_I i1) (show (rc ((S.T g).src j) s).1 + tc_sum w1 (S.T g).pc ≤ 160 + tc_sum w1 (j + 1) by omega) (show og_at q ad f _ (tw_one (S.T g) j s.1 s.2.1 (rc ((S.T g).src j) s)) _ from by
      unfold og_at tw_one
      show ou_at q (fun k => ad (4 + k)) (ad 3) f _ (nI (rc ((S.T g).src j) s).2.1) (nI (rc ((S.T g).src j) s).1) (if (S.T g).tu j < 4 then _ else _) _
      rw [if_neg c1]
      exact hT)
    refine tf_drop [0, 1, 2, 3, 4, 5, 6] rfl ?_
    rw [show nI (j + 1) = nI j + 1 from nI_succ j] at h9
    exact h9
end
