/-! Outline.reverseContours -/
section
variable (l : Launch) (D : va_G) (q : Nat → ClassId) (d : Nat) (L : List Nat) (f : tf_F)
end
/-- the points from i to j change places, end for end -/
def tw_rev1 : Nat → Nat → Nat → (Nat → Nat → Int32) → Nat → Nat → Int32
  | 0, _, _, A => A
  | m + 1, i, j, A => if i < j then tw_rev1 m (i + 1) (j - 1) (ou_sw A i j) else A
theorem tw_rev1_3 : ∀ m i j A, tw_rev1 m i j A 3 = A 3 := by
  intro m
  induction m with
  | zero => intro i j A; rfl
  | succ m ih =>
    intro i j A
    unfold tw_rev1
    split
    · rw [ih]; rfl
    · rfl
/-- the contours from c on, m of them, reversed -/
def tw_rev (S : Nat → Nat) : Nat → Nat → (Nat → Nat → Int32) → Nat → Nat → Int32
  | 0, _, A => A
  | m + 1, c, A => tw_rev S m (c + 1) (tw_rev1 160 (S c) (S (c + 1) - 1) A)
section
variable (l : Launch) (D : va_G) (q : Nat → ClassId) (d : Nat) (L : List Nat) (f : tf_F)
set_option maxHeartbeats 4000000 in
set_option maxRecDepth 100000 in
theorem t_Outline_rev1 (hd : 1 ≤ d) {QB : tf_B} {kc ks a : Nat} {ad : Nat → Nat} {W0 : tf_F} {w cc c p : Int32} : ∀ m i j (A : Nat → Nat → Int32) (f : tf_F), j ≤ i + m → i < 160 → j < 160 → ou_at q ad a W0 L c p A f → (∀ (f2 : tf_F) (i2 j2 : Nat), ou_at q ad a W0 L c p (tw_rev1 m i j A) f2 → tf_W l (tf_H D q) tf_T QB d i_Outline_reverseContours 51 [(0, .ref a), (1, .int w), (2, .int cc), (3, .int (nI j2)), (4, .int (nI i2))] [] L f2 kc ks) → tf_W l (tf_H D q) tf_T QB d i_Outline_reverseContours 29 [(0, .ref a), (1, .int w), (2, .int cc), (3, .int (nI j)), (4, .int (nI i))] [] L f kc ks := by
  intro m
  induction m with
  | zero =>
    intro i j A f hm hi hj hT hK
    refine tf_blk _ b_Outline_reverseContours_29 rfl ?_
    refine tf_ic_ge 51 35 d_Outline_reverseContours_32 rfl rfl (fun h32 => ?_) (fun h32 => absurd (nI_le (by omega) (by omega)) h32)
    exact hK _ _ _ hT
  | succ m ih =>
    intro i j A f hm hi hj hT hK
    have ha := hT.1.1
    by_cases h : i < j
    · rw [show tw_rev1 (m + 1) i j A = tw_rev1 m (i + 1) (j - 1) (ou_sw A i j) from if_pos h] at hK
      refine tf_blk _ b_Outline_reverseContours_29 rfl ?_
      refine tf_ic_ge 51 35 d_Outline_reverseContours_32 rfl rfl (fun h32 => absurd h32 (nI_ge (by omega) (by omega))) (fun h32 => ?_)
      refine tf_blk _ b_Outline_reverseContours_35 rfl ?_
      refine tf_cV (tf_gok _ _) (c_Outline_swap l D q (d - 1) _ _ hT (nI i) (nI j) (vp_in_nI (by omega) (by omega)) (vp_in_nI (by omega) (by omega))) 42 d_Outline_reverseContours_39 rfl lk_Outline_89 cw_Outline_swap (by rfl) in_Outline_swap se_Outline_swap (by exact ha) (by exact hT.1.2.1) (by rfl) (by rfl) (by omega) (by exact Nat.le_of_ble_eq_true rfl) rfl ?_
      rintro v39 L39 f39 ⟨rfl, rfl, hT2⟩
      refine tf_blk _ b_Outline_reverseContours_42 rfl ?_
      refine tf_goto 29 d_Outline_reverseContours_48 rfl ?_
      rw [nI_clamp (show i < 2 ^ 31 by omega), nI_clamp (show j < 2 ^ 31 by omega)] at hT2
      have h9 := ih (i + 1) (j - 1) _ _ (by omega) (by omega) (by omega) hT2 hK
      rw [nI_succ, ← nI_subm (a := j) (by omega)] at h9
      exact h9
    · rw [show tw_rev1 (m + 1) i j A = A from if_neg h] at hK
      refine tf_blk _ b_Outline_reverseContours_29 rfl ?_
      refine tf_ic_ge 51 35 d_Outline_reverseContours_32 rfl rfl (fun h32 => ?_) (fun h32 => absurd (nI_le (by omega) (by omega)) h32)
      exact hK _ _ _ hT
set_option maxHeartbeats 4000000 in
set_option maxRecDepth 100000 in
theorem t_Outline_rev (hd : 2 ≤ d) {ad : Nat → Nat} {a C : Nat} {W0 : tf_F} {p : Int32} {S : Nat → Nat} (w : Int32) (hC : C ≤ 53) : ∀ m c (A : Nat → Nat → Int32) (f : tf_F), c + m = C → (∀ z, c ≤ z → z < C → A 3 z = nI (S z) ∧ A 3 (z + 1) = nI (S (z + 1)) ∧ S z < S (z + 1) ∧ S (z + 1) ≤ 160) → ou_at q ad a W0 L (nI C) p A f → tf_W l (tf_H D q) tf_T (tf_QM (tf_H D q) (fun v L2 f2 => v = none ∧ L2 = L ∧ ou_at q ad a W0 L (nI C) p (tw_rev S m c A) f2)) d i_Outline_reverseContours 2 [(0, .ref a), (1, .int w), (2, .int (nI c))] [] L f 0 0 := by
  intro m
  induction m with
  | zero =>
    intro c A f hm hS hT
    refine tf_blk _ b_Outline_reverseContours_2 rfl ?_
    refine ou_get 7 d_Outline_reverseContours_4 rfl fl_Outline_32 hT rfl ?_
    refine tf_ic_ge 57 10 d_Outline_reverseContours_7 rfl rfl (fun h7 => ?_) (fun h7 => absurd (nI_le (by omega) (by omega)) h7)
    refine tf_vret d_Outline_reverseContours_57 rfl ?_
    exact ⟨rfl, rfl, hT⟩
  | succ m ih =>
    intro c A f hm hS hT
    obtain ⟨s1, s2, s3, s4⟩ := hS c (Nat.le_refl _) (by omega)
    have e1 : nI c + kI 1 = nI (c + 1) := nI_1 c
    have hv1 : vp_in (nI c + kI 1) 54 := by rw [e1]; exact vp_in_nI (by omega) (by omega)
    have hc1 : (nI c + kI 1).toNatClampNeg = c + 1 := by rw [e1]; exact nI_clamp (by omega)
    have hv : vp_in (nI c) 54 := vp_in_nI (by omega) (by omega)
    have hc : (nI c).toNatClampNeg = c := nI_clamp (by omega)
    refine tf_blk _ b_Outline_reverseContours_2 rfl ?_
    refine ou_get 7 d_Outline_reverseContours_4 rfl fl_Outline_32 hT rfl ?_
    refine tf_ic_ge 57 10 d_Outline_reverseContours_7 rfl rfl (fun h7 => absurd h7 (nI_ge (by omega) (by omega))) (fun h7 => ?_)
    refine tf_blk _ b_Outline_reverseContours_10 rfl ?_
    refine ou_get 14 d_Outline_reverseContours_11 rfl fl_Outline_22 hT rfl ?_
    refine tf_blk _ b_Outline_reverseContours_14 rfl ?_
    refine ou_iald _ 18 d_Outline_reverseContours_17 rfl hT (by decide) rfl (by exact hv1) ?_
    rw [hc1, s2]
    refine tf_blk _ b_Outline_reverseContours_18 rfl ?_
    rw [nI_sub1 (by omega)]
    refine ou_get 25 d_Outline_reverseContours_22 rfl fl_Outline_22 hT rfl ?_
    refine tf_blk _ b_Outline_reverseContours_25 rfl ?_
    refine ou_iald _ 27 d_Outline_reverseContours_26 rfl hT (by decide) rfl (by exact hv) ?_
    rw [hc, s1]
    refine tf_blk _ b_Outline_reverseContours_27 rfl ?_
    refine t_Outline_rev1 l D q d L (by omega) 160 (S c) (S (c + 1) - 1) A f (by omega) (by omega) (by omega) hT (fun f2 i2 j2 hT => ?_)
    refine tf_blk _ b_Outline_reverseContours_51 rfl ?_
    refine tf_goto 2 d_Outline_reverseContours_54 rfl ?_
    refine tf_drop [0, 1, 2] rfl ?_
    have h9 := ih (c + 1) _ _ (by omega) (fun z h1 h2 => by rw [tw_rev1_3]; exact hS z (by omega) h2) hT
    rw [nI_succ] at h9
    exact h9
set_option maxHeartbeats 4000000 in
set_option maxRecDepth 100000 in
theorem c_Outline_reverseContours (hd : 2 ≤ d) {ad : Nat → Nat} {a C : Nat} {W0 : tf_F} {p : Int32} {S : Nat → Nat} (hC : C ≤ 53) {c : Nat} {A : Nat → Nat → Int32} (hc : c ≤ C) (hS : (∀ z, c ≤ z → z < C → A 3 z = nI (S z) ∧ A 3 (z + 1) = nI (S (z + 1)) ∧ S z < S (z + 1) ∧ S (z + 1) ≤ 160)) (hT : ou_at q ad a W0 L (nI C) p A f) : tf_C l (tf_H D q) d i_Outline_reverseContours [.ref a, .int (nI c)] L f 0 0 (fun v L2 f2 => v = none ∧ L2 = L ∧ ou_at q ad a W0 L (nI C) p (tw_rev S (C - c) c A) f2) := by
  refine tf_C.of (tf_gok _ _) (by decide) w_679 (Nat.le_of_ble_eq_true rfl) ?_
  refine tf_blk _ b_Outline_reverseContours_0 rfl ?_
  exact t_Outline_rev l D q d L hd (nI c) hC (C - c) c A f (by omega) hS hT
end
