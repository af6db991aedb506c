/-! Outline.turnAndShift -/
theorem tw_q4 {t : Nat} (ht : t < 8) : nI t - nI t / kI 4 * kI 4 = nI (t % 4) := by
  revert t
  decide
section
variable (l : Launch) (D : va_G) (q : Nat → ClassId) (d : Nat) (L : List Nat) (f : tf_F)
end
/-- r quarter turns -/
def tw_rot : Nat → Int32 → Int32 → Int32 × Int32
  | 0, x, y => (x, y)
  | r + 1, x, y => tw_rot r (-y) x
/-- the points from k on, m of them, mirrored, turned and shifted -/
def tw_tas (t : Nat) (dx dy : Int32) : Nat → Nat → (Nat → Nat → Int32) → Nat → Nat → Int32
  | 0, _, A => A
  | m + 1, k, A => tw_tas t dx dy m (k + 1) (va_up (va_up A 0 (upd (A 0) k ((tw_rot (t % 4) (if t < 4 then A 0 k else -(A 0 k)) (A 1 k)).1 + dx))) 1 (upd (A 1) k ((tw_rot (t % 4) (if t < 4 then A 0 k else -(A 0 k)) (A 1 k)).2 + dy)))
section
variable (l : Launch) (D : va_G) (q : Nat → ClassId) (d : Nat) (L : List Nat) (f : tf_F)
set_option maxHeartbeats 4000000 in
set_option maxRecDepth 100000 in
theorem t_Outline_turn {QB : tf_B} {kc ks a b : Nat} {w i : Int32} : ∀ r x y, r ≤ 3 → tf_W l (tf_H D q) tf_T QB d i_Outline_turnAndShift 80 [(0, .ref a), (1, .int w), (2, .ref b), (3, .int i), (4, .int (tw_rot r x y).1), (5, .int (tw_rot r x y).2), (6, .int (nI 0))] [] L f kc ks → tf_W l (tf_H D q) tf_T QB d i_Outline_turnAndShift 56 [(0, .ref a), (1, .int w), (2, .ref b), (3, .int i), (4, .int x), (5, .int y), (6, .int (nI r))] [] L f kc ks := by
  intro r
  induction r with
  | zero =>
    intro x y hr hK
    refine tf_blk _ b_Outline_turnAndShift_56 rfl ?_
    refine tf_if_le 80 61 d_Outline_turnAndShift_58 rfl rfl (fun h58 => ?_) (fun h58 => absurd (show nI 0 ≤ 0 by decide) h58)
    exact hK
  | succ r ih =>
    intro x y hr hK
    refine tf_blk _ b_Outline_turnAndShift_56 rfl ?_
    refine tf_if_le 80 61 d_Outline_turnAndShift_58 rfl rfl (fun h58 => absurd h58 (nI_nle (by omega) (by omega))) (fun h58 => ?_)
    refine tf_blk _ b_Outline_turnAndShift_61 rfl ?_
    refine tf_goto 56 d_Outline_turnAndShift_77 rfl ?_
    refine tf_drop [0, 1, 2, 3, 4, 5, 6] rfl ?_
    have h9 := ih (-y) x (by omega) hK
    rw [show nI r = nI (r + 1) + kI (-1) from (nI_subm (a := r + 1) (by omega)).symm] at h9
    exact h9
set_option maxHeartbeats 4000000 in
set_option maxRecDepth 100000 in
theorem t_Outline_tas (hd : 1 ≤ d) {ad : Nat → Nat} {a b n t : Nat} {W0 : tf_F} {c : Int32} {src : Value} {dx dy : Int32} (w : Int32) (hn : n ≤ 160) (ht : t < 8) (hb : b ∈ L) (hbo : ¬ ou_own ad a b) (fb : W0 b = to 7 [src, .int dx, .int dy, .int (nI t)]) : ∀ m k (A : Nat → Nat → Int32) (f : tf_F), k + m = n → ou_at q ad a W0 L c (nI n) A f → tf_W l (tf_H D q) tf_T (tf_QM (tf_H D q) (fun v L2 f2 => v = none ∧ L2 = L ∧ ou_at q ad a W0 L c (nI n) (tw_tas t dx dy m k A) f2)) d i_Outline_turnAndShift 7 [(0, .ref a), (1, .int w), (2, .ref b), (3, .int (nI k))] [] L f 0 0 := by
  intro m
  induction m with
  | zero =>
    intro k A f hk hT
    refine tf_blk _ b_Outline_turnAndShift_7 rfl ?_
    refine ou_get 12 d_Outline_turnAndShift_9 rfl fl_Outline_28 hT rfl ?_
    refine tf_ic_ge 112 15 d_Outline_turnAndShift_12 rfl rfl (fun h12 => ?_) (fun h12 => absurd (nI_le (by omega) (by omega)) h12)
    refine tf_vret d_Outline_turnAndShift_112 rfl ?_
    exact ⟨rfl, rfl, hT⟩
  | succ m ih =>
    intro k A f hk hT
    have hv : vp_in (nI k) 160 := vp_in_nI (by omega) (by omega)
    have hc : (nI k).toNatClampNeg = k := nI_clamp (by omega)
    have e4 : nI t - nI t / kI 4 * kI 4 = nI (t % 4) := tw_q4 ht
    have em : (nI t < kI 4) = (t < 4) := propext (nI_ltI (b := 4) (by omega) (by omega))
    have ha := hT.1.1
    refine tf_blk _ b_Outline_turnAndShift_7 rfl ?_
    refine ou_get 12 d_Outline_turnAndShift_9 rfl fl_Outline_28 hT rfl ?_
    refine tf_ic_ge 112 15 d_Outline_turnAndShift_12 rfl rfl (fun h12 => absurd h12 (nI_ge (by omega) (by omega))) (fun h12 => ?_)
    refine tf_blk _ b_Outline_turnAndShift_15 rfl ?_
    refine tf_cV (tf_gok _ _) (c_Part_isMirrored l D q (d - 1) _ _ hb ((hT.2 _ hbo).trans fb)) 19 d_Outline_turnAndShift_16 rfl lk_Outline_59 cw_Part_isMirrored (by rfl) in_Part_isMirrored se_Part_isMirrored (by exact hb) (by rw [hT.2 b hbo]; assumption) (by rfl) (by rfl) (by omega) (by exact Nat.le_of_ble_eq_true rfl) rfl ?_
    rintro v16 L16 f16 ⟨rfl, rfl, rfl⟩
    refine tf_if_eq 32 22 d_Outline_turnAndShift_19 rfl rfl (fun h19 => ?_) (fun h19 => ?_)
    · refine tf_blk _ b_Outline_turnAndShift_32 rfl ?_
      refine ou_get 36 d_Outline_turnAndShift_33 rfl fl_Outline_9 hT rfl ?_
      refine tf_blk _ b_Outline_turnAndShift_36 rfl ?_
      refine ou_iald _ 38 d_Outline_turnAndShift_37 rfl hT (by decide) rfl (by exact hv) ?_
      refine tf_blk _ b_Outline_turnAndShift_38 rfl ?_
      refine ou_get 44 d_Outline_turnAndShift_41 rfl fl_Outline_15 hT rfl ?_
      refine tf_blk _ b_Outline_turnAndShift_44 rfl ?_
      refine ou_iald _ 46 d_Outline_turnAndShift_45 rfl hT (by decide) rfl (by exact hv) ?_
      refine tf_blk _ b_Outline_turnAndShift_46 rfl ?_
      refine tf_get (fs := ?fs_49_9) (v := ?v_49_9) 52 d_Outline_turnAndShift_49 rfl fl_Outline_80 ?ha_49_9 ?hf_49_9 ?hv_49_9 ?kk_49_9
      case ha_49_9 => first | assumption | (simp only [List.mem_append, List.mem_singleton]; simp [*])
      case hf_49_9 => rw [hT.2 b hbo]; assumption
      case hv_49_9 => rfl
      refine tf_blk _ b_Outline_turnAndShift_52 rfl ?_
      refine tf_irem 54 d_Outline_turnAndShift_53 rfl (by decide) ?_
      rw [e4]
      refine tf_blk _ b_Outline_turnAndShift_54 rfl ?_
      refine t_Outline_turn l D q d _ _ (t % 4) _ _ (by omega) ?_
      refine tf_blk _ b_Outline_turnAndShift_80 rfl ?_
      refine ou_get 84 d_Outline_turnAndShift_81 rfl fl_Outline_9 hT rfl ?_
      refine tf_blk _ b_Outline_turnAndShift_84 rfl ?_
      refine tf_get (fs := ?fs_88_11) (v := ?v_88_11) 91 d_Outline_turnAndShift_88 rfl fl_Outline_83 ?ha_88_11 ?hf_88_11 ?hv_88_11 ?kk_88_11
      case ha_88_11 => first | assumption | (simp only [List.mem_append, List.mem_singleton]; simp [*])
      case hf_88_11 => rw [hT.2 b hbo]; assumption
      case hv_88_11 => rfl
      refine tf_blk _ b_Outline_turnAndShift_91 rfl ?_
      refine ou_iast _ 93 d_Outline_turnAndShift_92 rfl hT (by decide) rfl (by exact hv) (fun f hT => ?_)
      refine tf_blk _ b_Outline_turnAndShift_93 rfl ?_
      refine ou_get 97 d_Outline_turnAndShift_94 rfl fl_Outline_15 hT rfl ?_
      refine tf_blk _ b_Outline_turnAndShift_97 rfl ?_
      refine tf_get (fs := ?fs_101_14) (v := ?v_101_14) 104 d_Outline_turnAndShift_101 rfl fl_Outline_86 ?ha_101_14 ?hf_101_14 ?hv_101_14 ?kk_101_14
      case ha_101_14 => first | assumption | (simp only [List.mem_append, List.mem_singleton]; simp [*])
      case hf_101_14 => rw [hT.2 b hbo]; assumption
      case hv_101_14 => rfl
      refine tf_blk _ b_Outline_turnAndShift_104 rfl ?_
      refine ou_iast _ 106 d_Outline_turnAndShift_105 rfl hT (by decide) rfl (by exact hv) (fun f hT => ?_)
      refine tf_blk _ b_Outline_turnAndShift_106 rfl ?_
      refine tf_goto 7 d_Outline_turnAndShift_109 rfl ?_
      refine tf_drop [0, 1, 2, 3] rfl ?_
      rw [hc] at hT
      try simp only [bI_eq0, Bool.not_eq_false, decide_eq_false_iff_not, decide_eq_true_eq, Classical.not_not, em] at h19
      have h9 := ih (k + 1) _ _ (by omega) hT
      rw [nI_succ] at h9
      have e9 : tw_tas t dx dy (m + 1) k A = tw_tas t dx dy m (k + 1) _ := rfl
      first
      | (rw [if_pos h19] at e9; rw [e9]; exact h9)
      | (rw [if_neg h19] at e9; rw [e9]; exact h9)
    · refine tf_blk _ b_Outline_turnAndShift_22 rfl ?_
      refine ou_get 26 d_Outline_turnAndShift_23 rfl fl_Outline_9 hT rfl ?_
      refine tf_blk _ b_Outline_turnAndShift_26 rfl ?_
      refine ou_iald _ 28 d_Outline_turnAndShift_27 rfl hT (by decide) rfl (by exact hv) ?_
      refine tf_blk _ b_Outline_turnAndShift_28 rfl ?_
      refine tf_goto 38 d_Outline_turnAndShift_29 rfl ?_
      refine tf_blk _ b_Outline_turnAndShift_38 rfl ?_
      refine ou_get 44 d_Outline_turnAndShift_41 rfl fl_Outline_15 hT rfl ?_
      refine tf_blk _ b_Outline_turnAndShift_44 rfl ?_
      refine ou_iald _ 46 d_Outline_turnAndShift_45 rfl hT (by decide) rfl (by exact hv) ?_
      refine tf_blk _ b_Outline_turnAndShift_46 rfl ?_
      refine tf_get (fs := ?fs_49_20) (v := ?v_49_20) 52 d_Outline_turnAndShift_49 rfl fl_Outline_80 ?ha_49_20 ?hf_49_20 ?hv_49_20 ?kk_49_20
      case ha_49_20 => first | assumption | (simp only [List.mem_append, List.mem_singleton]; simp [*])
      case hf_49_20 => rw [hT.2 b hbo]; assumption
      case hv_49_20 => rfl
      refine tf_blk _ b_Outline_turnAndShift_52 rfl ?_
      refine tf_irem 54 d_Outline_turnAndShift_53 rfl (by decide) ?_
      rw [e4]
      refine tf_blk _ b_Outline_turnAndShift_54 rfl ?_
      refine t_Outline_turn l D q d _ _ (t % 4) _ _ (by omega) ?_
      refine tf_blk _ b_Outline_turnAndShift_80 rfl ?_
      refine ou_get 84 d_Outline_turnAndShift_81 rfl fl_Outline_9 hT rfl ?_
      refine tf_blk _ b_Outline_turnAndShift_84 rfl ?_
      refine tf_get (fs := ?fs_88_22) (v := ?v_88_22) 91 d_Outline_turnAndShift_88 rfl fl_Outline_83 ?ha_88_22 ?hf_88_22 ?hv_88_22 ?kk_88_22
      case ha_88_22 => first | assumption | (simp only [List.mem_append, List.mem_singleton]; simp [*])
      case hf_88_22 => rw [hT.2 b hbo]; assumption
      case hv_88_22 => rfl
      refine tf_blk _ b_Outline_turnAndShift_91 rfl ?_
      refine ou_iast _ 93 d_Outline_turnAndShift_92 rfl hT (by decide) rfl (by exact hv) (fun f hT => ?_)
      refine tf_blk _ b_Outline_turnAndShift_93 rfl ?_
      refine ou_get 97 d_Outline_turnAndShift_94 rfl fl_Outline_15 hT rfl ?_
      refine tf_blk _ b_Outline_turnAndShift_97 rfl ?_
      refine tf_get (fs := ?fs_101_25) (v := ?v_101_25) 104 d_Outline_turnAndShift_101 rfl fl_Outline_86 ?ha_101_25 ?hf_101_25 ?hv_101_25 ?kk_101_25
      case ha_101_25 => first | assumption | (simp only [List.mem_append, List.mem_singleton]; simp [*])
      case hf_101_25 => rw [hT.2 b hbo]; assumption
      case hv_101_25 => rfl
      refine tf_blk _ b_Outline_turnAndShift_104 rfl ?_
      refine ou_iast _ 106 d_Outline_turnAndShift_105 rfl hT (by decide) rfl (by exact hv) (fun f hT => ?_)
      refine tf_blk _ b_Outline_turnAndShift_106 rfl ?_
      refine tf_goto 7 d_Outline_turnAndShift_109 rfl ?_
      refine tf_drop [0, 1, 2, 3] rfl ?_
      rw [hc] at hT
      try simp only [bI_eq0, Bool.not_eq_false, decide_eq_false_iff_not, decide_eq_true_eq, Classical.not_not, em] at h19
      have h9 := ih (k + 1) _ _ (by omega) hT
      rw [nI_succ] at h9
      have e9 : tw_tas t dx dy (m + 1) k A = tw_tas t dx dy m (k + 1) _ := rfl
      first
      | (rw [if_pos h19] at e9; rw [e9]; exact h9)
      | (rw [if_neg h19] at e9; rw [e9]; exact h9)
set_option maxHeartbeats 4000000 in
set_option maxRecDepth 100000 in
theorem c_Outline_turnAndShift (hd : 1 ≤ d) {ad : Nat → Nat} {a b n t : Nat} {W0 : tf_F} {c : Int32} {src : Value} {dx dy : Int32} (w : Int32) (hn : n ≤ 160) (ht : t < 8) (hb : b ∈ L) (hbo : ¬ ou_own ad a b) (fb : W0 b = to 7 [src, .int dx, .int dy, .int (nI t)]) {k : Nat} {A : Nat → Nat → Int32} (hT : ou_at q ad a W0 L c (nI n) A f) (hw : vp_in w 54) (hA : A 3 w.toNatClampNeg = nI k) (hk : k ≤ n) : tf_C l (tf_H D q) d i_Outline_turnAndShift [.ref a, .int w, .ref b] L f 0 0 (fun v L2 f2 => v = none ∧ L2 = L ∧ ou_at q ad a W0 L c (nI n) (tw_tas t dx dy (n - k) k A) f2) := by
  refine tf_C.of (tf_gok _ _) (by decide) w_671 (Nat.le_of_ble_eq_true rfl) ?_
  refine tf_blk _ b_Outline_turnAndShift_0 rfl ?_
  refine ou_get 4 d_Outline_turnAndShift_1 rfl fl_Outline_22 hT rfl ?_
  refine tf_blk _ b_Outline_turnAndShift_4 rfl ?_
  refine ou_iald _ 6 d_Outline_turnAndShift_5 rfl hT (by decide) rfl (by exact hw) ?_
  refine tf_blk _ b_Outline_turnAndShift_6 rfl ?_
  rw [hA]
  exact t_Outline_tas l D q d L hd w hn ht hb hbo fb (n - k) k A f (by omega) hT
end
