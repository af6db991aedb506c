/-! the reference: goal, fit, cover, nextStop, at -/
theorem two_ne3 {x : Int32} (h : ¬ x = 0) : ¬ 2 * x.toInt64 = 0 := fun z => by
  have h1 := congrArg Int64.toInt z
  have h2 := x.le_toInt
  have h3 := x.toInt_lt
  rw [i6_mul (by rw [e6_2, i6_of]; omega) (by rw [e6_2, i6_of]; omega), e6_2, i6_of, show (0 : Int64).toInt = 0 from by decide] at h1
  exact h (i3_ext (by rw [show (0 : Int32).toInt = 0 from by decide]; omega))
theorem one_ne3 {x : Int32} (h : ¬ x = 0) : ¬ x.toInt64 = 0 := fun z => two_ne3 h (by rw [z]; decide)
theorem sub_ne3 {x y : Int32} (h : ¬ x = y) : ¬ x - y = 0 := fun z => h (by
  have h9 : x - y + y = 0 + y := by rw [z]
  rw [Int32.sub_add_cancel, Int32.zero_add] at h9
  exact h9)
def tm_goal (s h : Int32) : Int32 := (tm_nr h.toInt64 s.toInt64).toInt32 * s
/-- the height next below, the height next above -/
def tm_ba (g : Nat → Int32) (y : Int32) : Nat → Nat → Int32 → Int32 → Int32 × Int32
  | 0, _, b, a => (b, a)
  | w + 1, k, b, a => tm_ba g y w (k + 1) (if ¬ y < g k ∧ ¬ g k ≤ b then g k else b) (if ¬ g k < y ∧ ¬ a ≤ g k then g k else a)
def tm_fit2 (s y b a : Int32) : Int32 := if b = kI (-9999) then y + tm_goal s a - a else if a = kI 9999 ∨ a = b then y + tm_goal s b - b else ((tm_goal s b).toInt64 + tm_nr ((y - b).toInt64 * (tm_goal s a - tm_goal s b).toInt64) (a - b).toInt64).toInt32
def tm_fit (fi : Int32) (n : Nat) (g : Nat → Int32) (s y : Int32) : Int32 := if fi = 0 ∨ n = 0 then y else tm_fit2 s y (tm_ba g y n 0 (kI (-9999)) (kI 9999)).1 (tm_ba g y n 0 (kI (-9999)) (kI 9999)).2
def tm_cv (al j : Nat) (v i : Int32) : Nat → Nat → (Nat → Int32) → Nat → Int32
  | 0, _, G => G
  | w + 1, k, G => if i ≤ nI k then G else tm_cv al j v i w (k + 1) (upd G (al * j + k) (G (al * j + k) + v))
def tm_fr (s a b : Int32) : Int32 := (tm_fl (if b ≤ a then b else a).toInt64 s.toInt64).toInt32
def tm_cv2 (al j : Nat) (s x x1 r i : Int32) (G : Nat → Int32) : Nat → Int32 := if i < 0 then G else if nI al ≤ i then G else upd G (al * j + i.toNatClampNeg) (G (al * j + i.toNatClampNeg) + r * (x + x1 - kI 2 * i * s))
def tm_cov2 (al j : Nat) (s x x1 r : Int32) (G : Nat → Int32) : Nat → Int32 := tm_cv2 al j s x x1 r (tm_fr s x x1) (tm_cv al j (r * kI 2 * s) (tm_fr s x x1) al 0 G)
def tm_cov (al : Nat) (s x y x1 y1 : Int32) (G : Nat → Int32) : Nat → Int32 := if y1 - y = 0 then G else if tm_fr s y y1 < 0 then G else if tm_fr s y y1 < nI al then tm_cov2 al (tm_fr s y y1).toNatClampNeg s x x1 (y1 - y) G else G
theorem al_ix {al j k : Nat} (ha : al ≤ 64) (hj : j < al) (hk : k < al) : al * j + k < 4096 := by
  have h1 : al * (j + 1) ≤ al * al := Nat.mul_le_mul_left al hj
  have h2 : al * al ≤ 64 * 64 := Nat.mul_le_mul ha ha
  rw [Nat.mul_succ] at h1
  omega
section
variable (l : Launch) (D : va_G) (q : Nat → ClassId) (d : Nat) (L : List Nat) (f : tf_F) {ad : Nat → Nat} {m : Nat} {W0 : tf_F} {J : Nat → Int32} {A : Nat → Nat → Int32} {R : Nat → Int64}
set_option maxHeartbeats 4000000 in
set_option maxRecDepth 100000 in
theorem c_Mod_goal (hd : 2 ≤ d) (hT : tm_at q ad m W0 L J A R f) (h : Int32) (hs : ¬ J 33 = 0) : tf_C l (tf_H D q) d i_Mod_goal [.ref m, .int h] L f 0 0 (tf_rd (.int (tm_goal (J 33) h)) L f) := by
  refine tf_C.of (tf_gok _ _) (by decide) w_1413 (Nat.le_of_ble_eq_true rfl) ?_
  refine tf_blk _ b_Mod_goal_0 rfl ?_
  refine tm_get 6 d_Mod_goal_3 rfl fl_Mod_206 hT rfl ?_
  refine tf_blk _ b_Mod_goal_6 rfl ?_
  refine tf_cS (tf_gok _ _) (c_Mod_near l D q (d - 1) _ _ (by omega) (two_ne3 hs)) 10 d_Mod_goal_7 rfl lk_Mod_140 cw_Mod_near (by rfl) sa_Mod_near (by omega) (by exact Nat.le_of_ble_eq_true rfl) rfl ?_
  rintro v7 L7 f7 ⟨rfl, rfl, rfl⟩
  refine tf_blk _ b_Mod_goal_10 rfl ?_
  refine tm_get 15 d_Mod_goal_12 rfl fl_Mod_206 hT rfl ?_
  refine tf_blk _ b_Mod_goal_15 rfl ?_
  refine tf_iret d_Mod_goal_16 rfl ?_
  exact ⟨rfl, rfl, rfl⟩
set_option maxHeartbeats 4000000 in
set_option maxRecDepth 100000 in
theorem t_Mod_fit {QB : tf_B} {kc ks n : Nat} (hT : tm_at q ad m W0 L J A R f) (hn : n ≤ 8) (h30 : J 30 = nI n) (y : Int32) : ∀ w k b a, k + w = n → tf_W l (tf_H D q) tf_T QB d i_Mod_fit 89 [(0, .ref m), (1, .int y), (2, .int (tm_ba (A 29) y w k b a).1), (3, .int (tm_ba (A 29) y w k b a).2), (4, .int (nI n))] [] L f kc ks → tf_W l (tf_H D q) tf_T QB d i_Mod_fit 27 [(0, .ref m), (1, .int y), (2, .int b), (3, .int a), (4, .int (nI k))] [] L f kc ks := by
  intro w
  induction w with
  | zero =>
    intro k b a hk hK
    obtain rfl : k = n := hk
    refine tf_blk _ b_Mod_fit_27 rfl ?_
    refine tm_get 33 d_Mod_fit_30 rfl fl_Mod_203 hT rfl ?_
    rw [h30]
    refine tf_ic_ge 89 36 d_Mod_fit_33 rfl rfl (fun h33 => ?_) (fun h33 => absurd (nI_le (by omega) (by omega)) h33)
    exact hK
  | succ w ih =>
    intro k b a hk hK
    have hkc : (nI k).toNatClampNeg = k := nI_clamp (by omega)
    refine tf_blk _ b_Mod_fit_27 rfl ?_
    refine tm_get 33 d_Mod_fit_30 rfl fl_Mod_203 hT rfl ?_
    rw [h30]
    refine tf_ic_ge 89 36 d_Mod_fit_33 rfl rfl (fun h33 => absurd h33 (nI_ge (by omega) (by omega))) (fun h33 => ?_)
    refine tf_blk _ b_Mod_fit_36 rfl ?_
    refine tm_get 40 d_Mod_fit_37 rfl fl_Mod_72 hT rfl ?_
    refine tf_blk _ b_Mod_fit_40 rfl ?_
    refine tm_iald _ 43 d_Mod_fit_42 rfl hT rfl (vp_in_nI (by omega) (by omega)) ?_
    rw [hkc]
    refine tf_blk _ b_Mod_fit_43 rfl ?_
    refine tf_ic_gt 62 51 d_Mod_fit_48 rfl rfl (fun h48 => ?_) (fun h48 => ?_)
    · refine tf_blk _ b_Mod_fit_62 rfl ?_
      refine tf_blk _ b_Mod_fit_63 rfl ?_
      refine tf_ic_lt 81 70 d_Mod_fit_67 rfl rfl (fun h67 => ?_) (fun h67 => ?_)
      · refine tf_blk _ b_Mod_fit_81 rfl ?_
        refine tf_blk _ b_Mod_fit_82 rfl ?_
        refine tf_goto 27 d_Mod_fit_86 rfl ?_
        refine tf_drop [0, 1, 2, 3, 4] rfl ?_
        have e9 : tm_ba (A 29) y (w + 1) k b a = tm_ba (A 29) y w (k + 1) _ _ := rfl
        simp only [h48, (Int32.not_le.mpr h48), h67, (Int32.not_le.mpr h67), not_true_eq_false, not_false_eq_true, and_true, and_false, true_and, false_and, if_true, if_false] at e9
        rw [e9] at hK
        rw [show nI k + kI 1 = nI (k + 1) from (nI_succ k).symm]
        exact ih (k + 1) _ _ (by omega) hK
      · refine tf_blk _ b_Mod_fit_70 rfl ?_
        refine tf_ic_ge 81 76 d_Mod_fit_73 rfl rfl (fun h73 => ?_) (fun h73 => ?_)
        · refine tf_blk _ b_Mod_fit_81 rfl ?_
          refine tf_blk _ b_Mod_fit_82 rfl ?_
          refine tf_goto 27 d_Mod_fit_86 rfl ?_
          refine tf_drop [0, 1, 2, 3, 4] rfl ?_
          have e9 : tm_ba (A 29) y (w + 1) k b a = tm_ba (A 29) y w (k + 1) _ _ := rfl
          simp only [h48, (Int32.not_le.mpr h48), h67, (Int32.not_lt.mp h67), h73, (Int32.not_lt.mpr h73), not_true_eq_false, not_false_eq_true, and_true, and_false, true_and, false_and, if_true, if_false] at e9
          rw [e9] at hK
          rw [show nI k + kI 1 = nI (k + 1) from (nI_succ k).symm]
          exact ih (k + 1) _ _ (by omega) hK
        · refine tf_blk _ b_Mod_fit_76 rfl ?_
          refine tf_goto 82 d_Mod_fit_78 rfl ?_
          refine tf_blk _ b_Mod_fit_82 rfl ?_
          refine tf_goto 27 d_Mod_fit_86 rfl ?_
          refine tf_drop [0, 1, 2, 3, 4] rfl ?_
          have e9 : tm_ba (A 29) y (w + 1) k b a = tm_ba (A 29) y w (k + 1) _ _ := rfl
          simp only [h48, (Int32.not_le.mpr h48), h67, (Int32.not_lt.mp h67), h73, (Int32.not_le.mp h73), not_true_eq_false, not_false_eq_true, and_true, and_false, true_and, false_and, if_true, if_false] at e9
          rw [e9] at hK
          rw [show nI k + kI 1 = nI (k + 1) from (nI_succ k).symm]
          exact ih (k + 1) _ _ (by omega) hK
    · refine tf_blk _ b_Mod_fit_51 rfl ?_
      refine tf_ic_le 62 57 d_Mod_fit_54 rfl rfl (fun h54 => ?_) (fun h54 => ?_)
      · refine tf_blk _ b_Mod_fit_62 rfl ?_
        refine tf_blk _ b_Mod_fit_63 rfl ?_
        refine tf_ic_lt 81 70 d_Mod_fit_67 rfl rfl (fun h67 => ?_) (fun h67 => ?_)
        · refine tf_blk _ b_Mod_fit_81 rfl ?_
          refine tf_blk _ b_Mod_fit_82 rfl ?_
          refine tf_goto 27 d_Mod_fit_86 rfl ?_
          refine tf_drop [0, 1, 2, 3, 4] rfl ?_
          have e9 : tm_ba (A 29) y (w + 1) k b a = tm_ba (A 29) y w (k + 1) _ _ := rfl
          simp only [h48, (Int32.not_lt.mp h48), h54, (Int32.not_lt.mpr h54), h67, (Int32.not_le.mpr h67), not_true_eq_false, not_false_eq_true, and_true, and_false, true_and, false_and, if_true, if_false] at e9
          rw [e9] at hK
          rw [show nI k + kI 1 = nI (k + 1) from (nI_succ k).symm]
          exact ih (k + 1) _ _ (by omega) hK
        · refine tf_blk _ b_Mod_fit_70 rfl ?_
          refine tf_ic_ge 81 76 d_Mod_fit_73 rfl rfl (fun h73 => ?_) (fun h73 => ?_)
          · refine tf_blk _ b_Mod_fit_81 rfl ?_
            refine tf_blk _ b_Mod_fit_82 rfl ?_
            refine tf_goto 27 d_Mod_fit_86 rfl ?_
            refine tf_drop [0, 1, 2, 3, 4] rfl ?_
            have e9 : tm_ba (A 29) y (w + 1) k b a = tm_ba (A 29) y w (k + 1) _ _ := rfl
            simp only [h48, (Int32.not_lt.mp h48), h54, (Int32.not_lt.mpr h54), h67, (Int32.not_lt.mp h67), h73, (Int32.not_lt.mpr h73), not_true_eq_false, not_false_eq_true, and_true, and_false, true_and, false_and, if_true, if_false] at e9
            rw [e9] at hK
            rw [show nI k + kI 1 = nI (k + 1) from (nI_succ k).symm]
            exact ih (k + 1) _ _ (by omega) hK
          · refine tf_blk _ b_Mod_fit_76 rfl ?_
            refine tf_goto 82 d_Mod_fit_78 rfl ?_
            refine tf_blk _ b_Mod_fit_82 rfl ?_
            refine tf_goto 27 d_Mod_fit_86 rfl ?_
            refine tf_drop [0, 1, 2, 3, 4] rfl ?_
            have e9 : tm_ba (A 29) y (w + 1) k b a = tm_ba (A 29) y w (k + 1) _ _ := rfl
            simp only [h48, (Int32.not_lt.mp h48), h54, (Int32.not_lt.mpr h54), h67, (Int32.not_lt.mp h67), h73, (Int32.not_le.mp h73), not_true_eq_false, not_false_eq_true, and_true, and_false, true_and, false_and, if_true, if_false] at e9
            rw [e9] at hK
            rw [show nI k + kI 1 = nI (k + 1) from (nI_succ k).symm]
            exact ih (k + 1) _ _ (by omega) hK
      · refine tf_blk _ b_Mod_fit_57 rfl ?_
        refine tf_goto 63 d_Mod_fit_59 rfl ?_
        refine tf_blk _ b_Mod_fit_63 rfl ?_
        refine tf_ic_lt 81 70 d_Mod_fit_67 rfl rfl (fun h67 => ?_) (fun h67 => ?_)
        · refine tf_blk _ b_Mod_fit_81 rfl ?_
          refine tf_blk _ b_Mod_fit_82 rfl ?_
          refine tf_goto 27 d_Mod_fit_86 rfl ?_
          refine tf_drop [0, 1, 2, 3, 4] rfl ?_
          have e9 : tm_ba (A 29) y (w + 1) k b a = tm_ba (A 29) y w (k + 1) _ _ := rfl
          simp only [h48, (Int32.not_lt.mp h48), h54, (Int32.not_le.mp h54), h67, (Int32.not_le.mpr h67), not_true_eq_false, not_false_eq_true, and_true, and_false, true_and, false_and, if_true, if_false] at e9
          rw [e9] at hK
          rw [show nI k + kI 1 = nI (k + 1) from (nI_succ k).symm]
          exact ih (k + 1) _ _ (by omega) hK
        · refine tf_blk _ b_Mod_fit_70 rfl ?_
          refine tf_ic_ge 81 76 d_Mod_fit_73 rfl rfl (fun h73 => ?_) (fun h73 => ?_)
          · refine tf_blk _ b_Mod_fit_81 rfl ?_
            refine tf_blk _ b_Mod_fit_82 rfl ?_
            refine tf_goto 27 d_Mod_fit_86 rfl ?_
            refine tf_drop [0, 1, 2, 3, 4] rfl ?_
            have e9 : tm_ba (A 29) y (w + 1) k b a = tm_ba (A 29) y w (k + 1) _ _ := rfl
            simp only [h48, (Int32.not_lt.mp h48), h54, (Int32.not_le.mp h54), h67, (Int32.not_lt.mp h67), h73, (Int32.not_lt.mpr h73), not_true_eq_false, not_false_eq_true, and_true, and_false, true_and, false_and, if_true, if_false] at e9
            rw [e9] at hK
            rw [show nI k + kI 1 = nI (k + 1) from (nI_succ k).symm]
            exact ih (k + 1) _ _ (by omega) hK
          · refine tf_blk _ b_Mod_fit_76 rfl ?_
            refine tf_goto 82 d_Mod_fit_78 rfl ?_
            refine tf_blk _ b_Mod_fit_82 rfl ?_
            refine tf_goto 27 d_Mod_fit_86 rfl ?_
            refine tf_drop [0, 1, 2, 3, 4] rfl ?_
            have e9 : tm_ba (A 29) y (w + 1) k b a = tm_ba (A 29) y w (k + 1) _ _ := rfl
            simp only [h48, (Int32.not_lt.mp h48), h54, (Int32.not_le.mp h54), h67, (Int32.not_lt.mp h67), h73, (Int32.not_le.mp h73), not_true_eq_false, not_false_eq_true, and_true, and_false, true_and, false_and, if_true, if_false] at e9
            rw [e9] at hK
            rw [show nI k + kI 1 = nI (k + 1) from (nI_succ k).symm]
            exact ih (k + 1) _ _ (by omega) hK
set_option maxHeartbeats 4000000 in
set_option maxRecDepth 100000 in
theorem c_Mod_fit (hd : 3 ≤ d) (hT : tm_at q ad m W0 L J A R f) {n : Nat} (hn : n ≤ 8) (h30 : J 30 = nI n) (hs : ¬ J 33 = 0) (y : Int32) : tf_C l (tf_H D q) d i_Mod_fit [.ref m, .int y] L f 0 0 (tf_rd (.int (tm_fit (J 34) n (A 29) (J 33) y)) L f) := by
  refine tf_C.of (tf_gok _ _) (by decide) w_1409 (Nat.le_of_ble_eq_true rfl) ?_
  refine tf_blk _ b_Mod_fit_0 rfl ?_
  refine tm_get 4 d_Mod_fit_1 rfl fl_Mod_209 hT rfl ?_
  refine tf_if_eq 14 7 d_Mod_fit_4 rfl rfl (fun h4 => ?_) (fun h4 => ?_)
  · have e8 : tm_fit (J 34) n (A 29) (J 33) y = y := by
      rw [tm_fit, if_pos]
      first
      | exact Or.inl h4
      | exact Or.inr ((nI_eq (b := 0) (by omega) (by omega)).mp h11)
    refine tf_blk _ b_Mod_fit_14 rfl ?_
    refine tf_iret d_Mod_fit_15 rfl ?_
    exact ⟨by rw [e8], rfl, rfl⟩
  · refine tf_blk _ b_Mod_fit_7 rfl ?_
    refine tm_get 11 d_Mod_fit_8 rfl fl_Mod_203 hT rfl ?_
    rw [h30]
    refine tf_if_ne 16 14 d_Mod_fit_11 rfl rfl (fun h11 => ?_) (fun h11 => ?_)
    · have h0 : ¬ n = 0 := fun z => h11 (by rw [z]; rfl)
      refine tf_blk _ b_Mod_fit_16 rfl ?_
      refine t_Mod_fit l D q d _ _ hT hn h30 y n 0 _ _ (by omega) ?_
      generalize hba : tm_ba (A 29) y n 0 (kI (-9999)) (kI 9999) = z
      have e8 : tm_fit (J 34) n (A 29) (J 33) y = tm_fit2 (J 33) y z.1 z.2 := by
        rw [tm_fit, if_neg (fun c => c.elim h4 h0), hba]
      refine tf_blk _ b_Mod_fit_89 rfl ?_
      refine tf_ic_ne 106 96 d_Mod_fit_93 rfl rfl (fun h93 => ?_) (fun h93 => ?_)
      · refine tf_blk _ b_Mod_fit_106 rfl ?_
        refine tf_ic_eq 118 113 d_Mod_fit_110 rfl rfl (fun h110 => ?_) (fun h110 => ?_)
        · refine tf_blk _ b_Mod_fit_118 rfl ?_
          refine tf_cV (tf_gok _ _) (c_Mod_goal l D q (d - 1) _ _ (by omega) hT _ hs) 124 d_Mod_fit_121 rfl lk_Mod_213 cw_Mod_goal (by rfl) in_Mod_goal se_Mod_goal (by exact hT.1.1) (by exact hT.1.2.1) (by rfl) (by rfl) (by omega) (by exact Nat.le_of_ble_eq_true rfl) rfl ?_
          rintro v121 L121 f121 ⟨rfl, rfl, rfl⟩
          refine tf_blk _ b_Mod_fit_124 rfl ?_
          refine tf_iret d_Mod_fit_127 rfl ?_
          refine ⟨?_, rfl, rfl⟩
          rw [e8]
          simp only [tm_fit2, h93, h110, if_true, if_false, true_or, or_true, or_self, false_or, or_false]
        · refine tf_blk _ b_Mod_fit_113 rfl ?_
          refine tf_ic_ne 128 118 d_Mod_fit_115 rfl rfl (fun h115 => ?_) (fun h115 => ?_)
          · refine tf_blk _ b_Mod_fit_128 rfl ?_
            refine tf_cV (tf_gok _ _) (c_Mod_goal l D q (d - 1) _ _ (by omega) hT _ hs) 133 d_Mod_fit_130 rfl lk_Mod_213 cw_Mod_goal (by rfl) in_Mod_goal se_Mod_goal (by exact hT.1.1) (by exact hT.1.2.1) (by rfl) (by rfl) (by omega) (by exact Nat.le_of_ble_eq_true rfl) rfl ?_
            rintro v130 L130 f130 ⟨rfl, rfl, rfl⟩
            refine tf_blk _ b_Mod_fit_133 rfl ?_
            refine tf_cV (tf_gok _ _) (c_Mod_goal l D q (d - 1) _ _ (by omega) hT _ hs) 143 d_Mod_fit_140 rfl lk_Mod_213 cw_Mod_goal (by rfl) in_Mod_goal se_Mod_goal (by exact hT.1.1) (by exact hT.1.2.1) (by rfl) (by rfl) (by omega) (by exact Nat.le_of_ble_eq_true rfl) rfl ?_
            rintro v140 L140 f140 ⟨rfl, rfl, rfl⟩
            refine tf_blk _ b_Mod_fit_143 rfl ?_
            refine tf_cV (tf_gok _ _) (c_Mod_goal l D q (d - 1) _ _ (by omega) hT _ hs) 148 d_Mod_fit_145 rfl lk_Mod_213 cw_Mod_goal (by rfl) in_Mod_goal se_Mod_goal (by exact hT.1.1) (by exact hT.1.2.1) (by rfl) (by rfl) (by omega) (by exact Nat.le_of_ble_eq_true rfl) rfl ?_
            rintro v145 L145 f145 ⟨rfl, rfl, rfl⟩
            refine tf_blk _ b_Mod_fit_148 rfl ?_
            refine tf_cS (tf_gok _ _) (c_Mod_near l D q (d - 1) _ _ (by omega) (two_ne3 (sub_ne3 (by assumption)))) 158 d_Mod_fit_155 rfl lk_Mod_140 cw_Mod_near (by rfl) sa_Mod_near (by omega) (by exact Nat.le_of_ble_eq_true rfl) rfl ?_
            rintro v155 L155 f155 ⟨rfl, rfl, rfl⟩
            refine tf_blk _ b_Mod_fit_158 rfl ?_
            refine tf_iret d_Mod_fit_160 rfl ?_
            refine ⟨?_, rfl, rfl⟩
            rw [e8]
            simp only [tm_fit2, h93, h110, h115, if_true, if_false, true_or, or_true, or_self, false_or, or_false]
          · refine tf_blk _ b_Mod_fit_118 rfl ?_
            refine tf_cV (tf_gok _ _) (c_Mod_goal l D q (d - 1) _ _ (by omega) hT _ hs) 124 d_Mod_fit_121 rfl lk_Mod_213 cw_Mod_goal (by rfl) in_Mod_goal se_Mod_goal (by exact hT.1.1) (by exact hT.1.2.1) (by rfl) (by rfl) (by omega) (by exact Nat.le_of_ble_eq_true rfl) rfl ?_
            rintro v121 L121 f121 ⟨rfl, rfl, rfl⟩
            refine tf_blk _ b_Mod_fit_124 rfl ?_
            refine tf_iret d_Mod_fit_127 rfl ?_
            refine ⟨?_, rfl, rfl⟩
            rw [e8]
            simp only [tm_fit2, h93, h110, h115, if_true, if_false, true_or, or_true, or_self, false_or, or_false]
      · refine tf_blk _ b_Mod_fit_96 rfl ?_
        refine tf_cV (tf_gok _ _) (c_Mod_goal l D q (d - 1) _ _ (by omega) hT _ hs) 102 d_Mod_fit_99 rfl lk_Mod_213 cw_Mod_goal (by rfl) in_Mod_goal se_Mod_goal (by exact hT.1.1) (by exact hT.1.2.1) (by rfl) (by rfl) (by omega) (by exact Nat.le_of_ble_eq_true rfl) rfl ?_
        rintro v99 L99 f99 ⟨rfl, rfl, rfl⟩
        refine tf_blk _ b_Mod_fit_102 rfl ?_
        refine tf_iret d_Mod_fit_105 rfl ?_
        refine ⟨?_, rfl, rfl⟩
        rw [e8]
        simp only [tm_fit2, h93, if_true, if_false, true_or, or_true, or_self, false_or, or_false]
    · have e8 : tm_fit (J 34) n (A 29) (J 33) y = y := by
        rw [tm_fit, if_pos]
        first
        | exact Or.inl h4
        | exact Or.inr ((nI_eq (b := 0) (by omega) (by omega)).mp h11)
      refine tf_blk _ b_Mod_fit_14 rfl ?_
      refine tf_iret d_Mod_fit_15 rfl ?_
      exact ⟨by rw [e8], rfl, rfl⟩
set_option maxHeartbeats 4000000 in
set_option maxRecDepth 100000 in
theorem t_Mod_cv {QB : tf_B} {kc ks : Nat} {al j : Nat} (hal : al ≤ 64) (h32 : J 32 = nI al) (hj : j < al) {x y x1 y1 r i : Int32} : ∀ w k (G : Nat → Int32) (f : tf_F), k + w = al → tm_at q ad m W0 L J (va_up A 31 G) R f → (∀ f2 : tf_F, tm_at q ad m W0 L J (va_up A 31 (tm_cv al j (r * kI 2 * J 33) i w k G)) R f2 → tf_W l (tf_H D q) tf_T QB d i_Mod_cover 126 [(0, .ref m), (1, .int x), (2, .int y), (3, .int x1), (4, .int y1), (5, .int r), (6, .int (nI j)), (7, .int i)] [] L f2 kc ks) → tf_W l (tf_H D q) tf_T QB d i_Mod_cover 77 [(0, .ref m), (1, .int x), (2, .int y), (3, .int x1), (4, .int y1), (5, .int r), (6, .int (nI j)), (7, .int i), (8, .int (nI k))] [] L f kc ks := by
  intro w
  induction w with
  | zero =>
    intro k G f hk hT hK
    refine tf_blk _ b_Mod_cover_77 rfl ?_
    refine tm_get 83 d_Mod_cover_80 rfl fl_Mod_216 hT rfl ?_
    rw [h32]
    refine tf_ic_ge 126 86 d_Mod_cover_83 rfl rfl (fun h83 => ?_) (fun h83 => absurd (nI_le (by omega) (by omega)) h83)
    refine tf_drop [0, 1, 2, 3, 4, 5, 6, 7] rfl ?_
    exact hK _ hT
  | succ w ih =>
    intro k G f hk hT hK
    by_cases hi : i ≤ nI k
    · rw [show tm_cv al j (r * kI 2 * J 33) i (w + 1) k G = G from if_pos hi] at hK
      refine tf_blk _ b_Mod_cover_77 rfl ?_
      refine tm_get 83 d_Mod_cover_80 rfl fl_Mod_216 hT rfl ?_
      rw [h32]
      refine tf_ic_ge 126 86 d_Mod_cover_83 rfl rfl (fun h83 => absurd h83 (nI_ge (by omega) (by omega))) (fun h83 => ?_)
      refine tf_blk _ b_Mod_cover_86 rfl ?_
      refine tf_ic_ge 126 93 d_Mod_cover_90 rfl rfl (fun h90 => ?_) (fun h90 => absurd (hi) h90)
      refine tf_drop [0, 1, 2, 3, 4, 5, 6, 7] rfl ?_
      exact hK _ hT
    rw [show tm_cv al j (r * kI 2 * J 33) i (w + 1) k G = tm_cv al j (r * kI 2 * J 33) i w (k + 1) (upd G (al * j + k) (G (al * j + k) + r * kI 2 * J 33)) from if_neg hi] at hK
    have e0 : nI al * nI j + nI k = nI (al * j + k) := by rw [nI_mul, nI_add]
    have h4 := al_ix hal hj (show k < al by omega)
    have hv : vp_in (J 32 * nI j + nI k) 4096 := by rw [h32, e0]; exact vp_in_nI h4 (by omega)
    have hc : (J 32 * nI j + nI k).toNatClampNeg = al * j + k := by rw [h32, e0]; exact nI_clamp (show al * j + k < 2 ^ 31 by omega)
    refine tf_blk _ b_Mod_cover_77 rfl ?_
    refine tm_get 83 d_Mod_cover_80 rfl fl_Mod_216 hT rfl ?_
    rw [h32]
    refine tf_ic_ge 126 86 d_Mod_cover_83 rfl rfl (fun h83 => absurd h83 (nI_ge (by omega) (by omega))) (fun h83 => ?_)
    refine tf_blk _ b_Mod_cover_86 rfl ?_
    refine tf_ic_ge 126 93 d_Mod_cover_90 rfl rfl (fun h90 => absurd h90 (hi)) (fun h90 => ?_)
    refine tf_blk _ b_Mod_cover_93 rfl ?_
    refine tm_get 97 d_Mod_cover_94 rfl fl_Mod_75 hT rfl ?_
    refine tf_blk _ b_Mod_cover_97 rfl ?_
    refine tm_get 101 d_Mod_cover_98 rfl fl_Mod_216 hT rfl ?_
    refine tf_blk _ b_Mod_cover_101 rfl ?_
    refine tm_iald _ 109 d_Mod_cover_108 rfl hT rfl (hv) ?_
    refine tf_blk _ b_Mod_cover_109 rfl ?_
    refine tm_get 117 d_Mod_cover_114 rfl fl_Mod_206 hT rfl ?_
    refine tf_blk _ b_Mod_cover_117 rfl ?_
    refine tm_iast _ 120 d_Mod_cover_119 rfl hT rfl (hv) (fun f hT => ?_)
    refine tf_blk _ b_Mod_cover_120 rfl ?_
    refine tf_goto 77 d_Mod_cover_123 rfl ?_
    rw [hc] at hT
    have hT := tm_A3u hT
    rw [va_up_self] at hT
    rw [show nI k + kI 1 = nI (k + 1) from (nI_succ k).symm]
    exact ih (k + 1) _ _ (by omega) hT hK
set_option maxHeartbeats 4000000 in
set_option maxRecDepth 100000 in
theorem t_Mod_cv51 (hd : 1 ≤ d) (hT : tm_at q ad m W0 L J A R f) {al j : Nat} (hal : al ≤ 64) (h32 : J 32 = nI al) (hj : j < al) (hs : ¬ J 33 = 0) (x y x1 y1 r : Int32) : tf_W l (tf_H D q) tf_T (tf_QM (tf_H D q) (tm_to q ad m W0 L (none) (J) (va_up A 31 (tm_cov2 al j (J 33) x x1 r (A 31))) (R))) d i_Mod_cover 51 [(0, .ref m), (1, .int x), (2, .int y), (3, .int x1), (4, .int y1), (5, .int r), (6, .int (nI j))] [] L f 0 0 := by
  generalize hi : tm_fr (J 33) x x1 = i
  by_cases hxx : x1 ≤ x
  · refine tf_blk _ b_Mod_cover_51 rfl ?_
    refine tf_ic_ge 61 56 d_Mod_cover_53 rfl rfl (fun h53 => ?_) (fun h53 => absurd (hxx) h53)
    refine tf_blk _ b_Mod_cover_61 rfl ?_
    refine tf_blk _ b_Mod_cover_63 rfl ?_
    refine tm_get 67 d_Mod_cover_64 rfl fl_Mod_206 hT rfl ?_
    refine tf_blk _ b_Mod_cover_67 rfl ?_
    refine tf_cS (tf_gok _ _) (c_Mod_floor l D q (d - 1) _ _ (one_ne3 hs)) 71 d_Mod_cover_68 rfl lk_Mod_128 cw_Mod_floor (by rfl) sa_Mod_floor (by omega) (by exact Nat.le_of_ble_eq_true rfl) rfl ?_
    rintro v68 L68 f68 ⟨rfl, rfl, rfl⟩
    refine tf_blk _ b_Mod_cover_71 rfl ?_
    rw [show (tm_fl x1.toInt64 (J 33).toInt64).toInt32 = i from by rw [← hi, tm_fr, if_pos h53]]
    refine t_Mod_cv l D q d _ hal h32 hj al 0 _ _ (by omega) (tm_A51 31 hT) (fun f2 hT => ?_)
    generalize hG : tm_cv al j (r * kI 2 * J 33) i al 0 (A 31) = G at hT
    have e5 : tm_cov2 al j (J 33) x x1 r (A 31) = tm_cv2 al j (J 33) x x1 r i G := by rw [tm_cov2, hi, hG]
    by_cases hi0 : i < 0
    · rw [show tm_cv2 al j (J 33) x x1 r i G = G from if_pos hi0] at e5
      refine tf_blk _ b_Mod_cover_126 rfl ?_
      refine tf_if_lt 174 131 d_Mod_cover_128 rfl rfl (fun h128 => ?_) (fun h128 => absurd (hi0) h128)
      refine tf_vret d_Mod_cover_174 rfl ?_
      exact ⟨rfl, rfl, by rw [e5]; exact hT⟩
    by_cases hia : nI al ≤ i
    · rw [show tm_cv2 al j (J 33) x x1 r i G = G from by rw [tm_cv2, if_neg hi0, if_pos hia]] at e5
      refine tf_blk _ b_Mod_cover_126 rfl ?_
      refine tf_if_lt 174 131 d_Mod_cover_128 rfl rfl (fun h128 => absurd h128 (hi0)) (fun h128 => ?_)
      refine tf_blk _ b_Mod_cover_131 rfl ?_
      refine tm_get 137 d_Mod_cover_134 rfl fl_Mod_216 hT rfl ?_
      rw [h32]
      refine tf_ic_ge 174 140 d_Mod_cover_137 rfl rfl (fun h137 => ?_) (fun h137 => absurd (hia) h137)
      refine tf_vret d_Mod_cover_174 rfl ?_
      exact ⟨rfl, rfl, by rw [e5]; exact hT⟩
    obtain ⟨k, hk, ek⟩ := nI_of hi0
    have hka : k < al := (nI_ltI hk (by omega)).mp (by rw [← ek]; exact Int32.not_le.mp hia)
    have e0 : nI al * nI j + i = nI (al * j + k) := by rw [ek, nI_mul, nI_add]
    have h4 := al_ix hal hj hka
    have hv : vp_in (J 32 * nI j + i) 4096 := by rw [h32, e0]; exact vp_in_nI h4 (by omega)
    have hc : (J 32 * nI j + i).toNatClampNeg = al * j + k := by rw [h32, e0]; exact nI_clamp (show al * j + k < 2 ^ 31 by omega)
    rw [show tm_cv2 al j (J 33) x x1 r i G = upd G (al * j + k) (G (al * j + k) + r * (x + x1 - kI 2 * i * J 33)) from by rw [tm_cv2, if_neg hi0, if_neg hia, ek, nI_clamp hk]] at e5
    refine tf_blk _ b_Mod_cover_126 rfl ?_
    refine tf_if_lt 174 131 d_Mod_cover_128 rfl rfl (fun h128 => absurd h128 (hi0)) (fun h128 => ?_)
    refine tf_blk _ b_Mod_cover_131 rfl ?_
    refine tm_get 137 d_Mod_cover_134 rfl fl_Mod_216 hT rfl ?_
    rw [h32]
    refine tf_ic_ge 174 140 d_Mod_cover_137 rfl rfl (fun h137 => absurd h137 (hia)) (fun h137 => ?_)
    refine tf_blk _ b_Mod_cover_140 rfl ?_
    refine tm_get 144 d_Mod_cover_141 rfl fl_Mod_75 hT rfl ?_
    refine tf_blk _ b_Mod_cover_144 rfl ?_
    refine tm_get 148 d_Mod_cover_145 rfl fl_Mod_216 hT rfl ?_
    refine tf_blk _ b_Mod_cover_148 rfl ?_
    refine tm_iald _ 156 d_Mod_cover_155 rfl hT rfl (hv) ?_
    refine tf_blk _ b_Mod_cover_156 rfl ?_
    refine tm_get 169 d_Mod_cover_166 rfl fl_Mod_206 hT rfl ?_
    refine tf_blk _ b_Mod_cover_169 rfl ?_
    refine tm_iast _ 174 d_Mod_cover_173 rfl hT rfl (hv) (fun f hT => ?_)
    refine tf_vret d_Mod_cover_174 rfl ?_
    rw [hc] at hT
    have hT := tm_A3u hT
    rw [va_up_self] at hT
    exact ⟨rfl, rfl, by rw [e5]; exact hT⟩
  refine tf_blk _ b_Mod_cover_51 rfl ?_
  refine tf_ic_ge 61 56 d_Mod_cover_53 rfl rfl (fun h53 => absurd h53 (hxx)) (fun h53 => ?_)
  refine tf_blk _ b_Mod_cover_56 rfl ?_
  refine tf_goto 63 d_Mod_cover_58 rfl ?_
  refine tf_blk _ b_Mod_cover_63 rfl ?_
  refine tm_get 67 d_Mod_cover_64 rfl fl_Mod_206 hT rfl ?_
  refine tf_blk _ b_Mod_cover_67 rfl ?_
  refine tf_cS (tf_gok _ _) (c_Mod_floor l D q (d - 1) _ _ (one_ne3 hs)) 71 d_Mod_cover_68 rfl lk_Mod_128 cw_Mod_floor (by rfl) sa_Mod_floor (by omega) (by exact Nat.le_of_ble_eq_true rfl) rfl ?_
  rintro v68 L68 f68 ⟨rfl, rfl, rfl⟩
  refine tf_blk _ b_Mod_cover_71 rfl ?_
  rw [show (tm_fl x.toInt64 (J 33).toInt64).toInt32 = i from by rw [← hi, tm_fr, if_neg h53]]
  refine t_Mod_cv l D q d _ hal h32 hj al 0 _ _ (by omega) (tm_A51 31 hT) (fun f2 hT => ?_)
  generalize hG : tm_cv al j (r * kI 2 * J 33) i al 0 (A 31) = G at hT
  have e5 : tm_cov2 al j (J 33) x x1 r (A 31) = tm_cv2 al j (J 33) x x1 r i G := by rw [tm_cov2, hi, hG]
  by_cases hi0 : i < 0
  · rw [show tm_cv2 al j (J 33) x x1 r i G = G from if_pos hi0] at e5
    refine tf_blk _ b_Mod_cover_126 rfl ?_
    refine tf_if_lt 174 131 d_Mod_cover_128 rfl rfl (fun h128 => ?_) (fun h128 => absurd (hi0) h128)
    refine tf_vret d_Mod_cover_174 rfl ?_
    exact ⟨rfl, rfl, by rw [e5]; exact hT⟩
  by_cases hia : nI al ≤ i
  · rw [show tm_cv2 al j (J 33) x x1 r i G = G from by rw [tm_cv2, if_neg hi0, if_pos hia]] at e5
    refine tf_blk _ b_Mod_cover_126 rfl ?_
    refine tf_if_lt 174 131 d_Mod_cover_128 rfl rfl (fun h128 => absurd h128 (hi0)) (fun h128 => ?_)
    refine tf_blk _ b_Mod_cover_131 rfl ?_
    refine tm_get 137 d_Mod_cover_134 rfl fl_Mod_216 hT rfl ?_
    rw [h32]
    refine tf_ic_ge 174 140 d_Mod_cover_137 rfl rfl (fun h137 => ?_) (fun h137 => absurd (hia) h137)
    refine tf_vret d_Mod_cover_174 rfl ?_
    exact ⟨rfl, rfl, by rw [e5]; exact hT⟩
  obtain ⟨k, hk, ek⟩ := nI_of hi0
  have hka : k < al := (nI_ltI hk (by omega)).mp (by rw [← ek]; exact Int32.not_le.mp hia)
  have e0 : nI al * nI j + i = nI (al * j + k) := by rw [ek, nI_mul, nI_add]
  have h4 := al_ix hal hj hka
  have hv : vp_in (J 32 * nI j + i) 4096 := by rw [h32, e0]; exact vp_in_nI h4 (by omega)
  have hc : (J 32 * nI j + i).toNatClampNeg = al * j + k := by rw [h32, e0]; exact nI_clamp (show al * j + k < 2 ^ 31 by omega)
  rw [show tm_cv2 al j (J 33) x x1 r i G = upd G (al * j + k) (G (al * j + k) + r * (x + x1 - kI 2 * i * J 33)) from by rw [tm_cv2, if_neg hi0, if_neg hia, ek, nI_clamp hk]] at e5
  refine tf_blk _ b_Mod_cover_126 rfl ?_
  refine tf_if_lt 174 131 d_Mod_cover_128 rfl rfl (fun h128 => absurd h128 (hi0)) (fun h128 => ?_)
  refine tf_blk _ b_Mod_cover_131 rfl ?_
  refine tm_get 137 d_Mod_cover_134 rfl fl_Mod_216 hT rfl ?_
  rw [h32]
  refine tf_ic_ge 174 140 d_Mod_cover_137 rfl rfl (fun h137 => absurd h137 (hia)) (fun h137 => ?_)
  refine tf_blk _ b_Mod_cover_140 rfl ?_
  refine tm_get 144 d_Mod_cover_141 rfl fl_Mod_75 hT rfl ?_
  refine tf_blk _ b_Mod_cover_144 rfl ?_
  refine tm_get 148 d_Mod_cover_145 rfl fl_Mod_216 hT rfl ?_
  refine tf_blk _ b_Mod_cover_148 rfl ?_
  refine tm_iald _ 156 d_Mod_cover_155 rfl hT rfl (hv) ?_
  refine tf_blk _ b_Mod_cover_156 rfl ?_
  refine tm_get 169 d_Mod_cover_166 rfl fl_Mod_206 hT rfl ?_
  refine tf_blk _ b_Mod_cover_169 rfl ?_
  refine tm_iast _ 174 d_Mod_cover_173 rfl hT rfl (hv) (fun f hT => ?_)
  refine tf_vret d_Mod_cover_174 rfl ?_
  rw [hc] at hT
  have hT := tm_A3u hT
  rw [va_up_self] at hT
  exact ⟨rfl, rfl, by rw [e5]; exact hT⟩
set_option maxHeartbeats 4000000 in
set_option maxRecDepth 100000 in
theorem c_Mod_cover (hd : 1 ≤ d) (hT : tm_at q ad m W0 L J A R f) {al : Nat} (hal : al ≤ 64) (h32 : J 32 = nI al) (hs : ¬ J 33 = 0) (x y x1 y1 : Int32) : tf_C l (tf_H D q) d i_Mod_cover [.ref m, .int x, .int y, .int x1, .int y1] L f 0 0 (tm_to q ad m W0 L (none) (J) (va_up A 31 (tm_cov al (J 33) x y x1 y1 (A 31))) (R)) := by
  refine tf_C.of (tf_gok _ _) (by decide) w_1428 (Nat.le_of_ble_eq_true rfl) ?_
  by_cases hyy : y1 ≤ y
  · refine tf_blk _ b_Mod_cover_0 rfl ?_
    refine tf_ic_ge 17 12 d_Mod_cover_9 rfl rfl (fun h9 => ?_) (fun h9 => absurd (hyy) h9)
    refine tf_blk _ b_Mod_cover_17 rfl ?_
    refine tf_blk _ b_Mod_cover_20 rfl ?_
    refine tm_get 24 d_Mod_cover_21 rfl fl_Mod_206 hT rfl ?_
    refine tf_blk _ b_Mod_cover_24 rfl ?_
    refine tf_cS (tf_gok _ _) (c_Mod_floor l D q (d - 1) _ _ (one_ne3 hs)) 28 d_Mod_cover_25 rfl lk_Mod_128 cw_Mod_floor (by rfl) sa_Mod_floor (by omega) (by exact Nat.le_of_ble_eq_true rfl) rfl ?_
    rintro v25 L25 f25 ⟨rfl, rfl, rfl⟩
    have ej : tm_fr (J 33) y y1 = (tm_fl y1.toInt64 (J 33).toInt64).toInt32 := by rw [tm_fr, if_pos h9]
    
    refine tf_blk _ b_Mod_cover_28 rfl ?_
    refine tf_if_eq 50 36 d_Mod_cover_33 rfl rfl (fun h33 => ?_) (fun h33 => ?_)
    · refine tf_vret d_Mod_cover_50 rfl ?_
      refine ⟨rfl, rfl, ?_⟩
      rw [show tm_cov al (J 33) x y x1 y1 (A 31) = A 31 from by (unfold tm_cov; rw [ej]; simp only [h33, if_true, if_false, ite_self])]
      exact tm_A51 31 hT
    · refine tf_blk _ b_Mod_cover_36 rfl ?_
      refine tf_if_lt 50 41 d_Mod_cover_38 rfl rfl (fun h38 => ?_) (fun h38 => ?_)
      · refine tf_vret d_Mod_cover_50 rfl ?_
        refine ⟨rfl, rfl, ?_⟩
        rw [show tm_cov al (J 33) x y x1 y1 (A 31) = A 31 from by (unfold tm_cov; rw [ej]; simp only [h33, h38, (Int32.not_le.mpr h38), if_true, if_false, ite_self])]
        exact tm_A51 31 hT
      · refine tf_blk _ b_Mod_cover_41 rfl ?_
        refine tm_get 47 d_Mod_cover_44 rfl fl_Mod_216 hT rfl ?_
        rw [h32]
        refine tf_ic_lt 51 50 d_Mod_cover_47 rfl rfl (fun h47 => ?_) (fun h47 => ?_)
        · obtain ⟨j, hj, ejj⟩ := nI_of h38
          have hja : j < al := (nI_ltI hj (by omega)).mp (by rw [← ejj]; exact h47)
          have e5 : tm_cov al (J 33) x y x1 y1 (A 31) = tm_cov2 al j (J 33) x x1 (y1 - y) (A 31) := by
            unfold tm_cov
            rw [ej, if_neg h33, if_neg h38, if_pos h47, ejj, nI_clamp hj]
          rw [e5, ejj]
          exact t_Mod_cv51 l D q d _ _ hd hT hal h32 hja hs x y x1 y1 (y1 - y)
        · refine tf_vret d_Mod_cover_50 rfl ?_
          refine ⟨rfl, rfl, ?_⟩
          rw [show tm_cov al (J 33) x y x1 y1 (A 31) = A 31 from by (unfold tm_cov; rw [ej]; simp only [h33, h38, (Int32.not_lt.mp h38), h47, (Int32.not_lt.mp h47), if_true, if_false, ite_self])]
          exact tm_A51 31 hT
  refine tf_blk _ b_Mod_cover_0 rfl ?_
  refine tf_ic_ge 17 12 d_Mod_cover_9 rfl rfl (fun h9 => absurd h9 (hyy)) (fun h9 => ?_)
  refine tf_blk _ b_Mod_cover_12 rfl ?_
  refine tf_goto 20 d_Mod_cover_14 rfl ?_
  refine tf_blk _ b_Mod_cover_20 rfl ?_
  refine tm_get 24 d_Mod_cover_21 rfl fl_Mod_206 hT rfl ?_
  refine tf_blk _ b_Mod_cover_24 rfl ?_
  refine tf_cS (tf_gok _ _) (c_Mod_floor l D q (d - 1) _ _ (one_ne3 hs)) 28 d_Mod_cover_25 rfl lk_Mod_128 cw_Mod_floor (by rfl) sa_Mod_floor (by omega) (by exact Nat.le_of_ble_eq_true rfl) rfl ?_
  rintro v25 L25 f25 ⟨rfl, rfl, rfl⟩
  have ej : tm_fr (J 33) y y1 = (tm_fl y.toInt64 (J 33).toInt64).toInt32 := by rw [tm_fr, if_neg h9]
  
  refine tf_blk _ b_Mod_cover_28 rfl ?_
  refine tf_if_eq 50 36 d_Mod_cover_33 rfl rfl (fun h33 => ?_) (fun h33 => ?_)
  · refine tf_vret d_Mod_cover_50 rfl ?_
    refine ⟨rfl, rfl, ?_⟩
    rw [show tm_cov al (J 33) x y x1 y1 (A 31) = A 31 from by (unfold tm_cov; rw [ej]; simp only [h33, if_true, if_false, ite_self])]
    exact tm_A51 31 hT
  · refine tf_blk _ b_Mod_cover_36 rfl ?_
    refine tf_if_lt 50 41 d_Mod_cover_38 rfl rfl (fun h38 => ?_) (fun h38 => ?_)
    · refine tf_vret d_Mod_cover_50 rfl ?_
      refine ⟨rfl, rfl, ?_⟩
      rw [show tm_cov al (J 33) x y x1 y1 (A 31) = A 31 from by (unfold tm_cov; rw [ej]; simp only [h33, h38, (Int32.not_le.mpr h38), if_true, if_false, ite_self])]
      exact tm_A51 31 hT
    · refine tf_blk _ b_Mod_cover_41 rfl ?_
      refine tm_get 47 d_Mod_cover_44 rfl fl_Mod_216 hT rfl ?_
      rw [h32]
      refine tf_ic_lt 51 50 d_Mod_cover_47 rfl rfl (fun h47 => ?_) (fun h47 => ?_)
      · obtain ⟨j, hj, ejj⟩ := nI_of h38
        have hja : j < al := (nI_ltI hj (by omega)).mp (by rw [← ejj]; exact h47)
        have e5 : tm_cov al (J 33) x y x1 y1 (A 31) = tm_cov2 al j (J 33) x x1 (y1 - y) (A 31) := by
          unfold tm_cov
          rw [ej, if_neg h33, if_neg h38, if_pos h47, ejj, nI_clamp hj]
        rw [e5, ejj]
        exact t_Mod_cv51 l D q d _ _ hd hT hal h32 hja hs x y x1 y1 (y1 - y)
      · refine tf_vret d_Mod_cover_50 rfl ?_
        refine ⟨rfl, rfl, ?_⟩
        rw [show tm_cov al (J 33) x y x1 y1 (A 31) = A 31 from by (unfold tm_cov; rw [ej]; simp only [h33, h38, (Int32.not_lt.mp h38), h47, (Int32.not_lt.mp h47), if_true, if_false, ite_self])]
        exact tm_A51 31 hT
set_option maxHeartbeats 4000000 in
set_option maxRecDepth 100000 in
theorem c_Mod_nextStop (hd : 1 ≤ d) (hT : tm_at q ad m W0 L J A R f) (hs : ¬ J 33 = 0) (a b : Int32) : tf_C l (tf_H D q) d i_Mod_nextStop [.ref m, .int a, .int b] L f 0 0 (tf_rd (.int (tm_ns (J 33) a b)) L f) := by
  refine tf_C.of (tf_gok _ _) (by decide) w_1417 (Nat.le_of_ble_eq_true rfl) ?_
  refine tf_blk _ b_Mod_nextStop_0 rfl ?_
  refine tf_ic_ne 7 5 d_Mod_nextStop_2 rfl rfl (fun h2 => ?_) (fun h2 => ?_)
  · refine tf_blk _ b_Mod_nextStop_7 rfl ?_
    refine tf_ic_ge 33 12 d_Mod_nextStop_9 rfl rfl (fun h9 => ?_) (fun h9 => ?_)
    · refine tf_blk _ b_Mod_nextStop_33 rfl ?_
      refine tm_get 40 d_Mod_nextStop_37 rfl fl_Mod_206 hT rfl ?_
      refine tf_blk _ b_Mod_nextStop_40 rfl ?_
      refine tf_cS (tf_gok _ _) (c_Mod_floor l D q (d - 1) _ _ (one_ne3 hs)) 44 d_Mod_nextStop_41 rfl lk_Mod_128 cw_Mod_floor (by rfl) sa_Mod_floor (by omega) (by exact Nat.le_of_ble_eq_true rfl) rfl ?_
      rintro v41 L41 f41 ⟨rfl, rfl, rfl⟩
      refine tf_blk _ b_Mod_nextStop_44 rfl ?_
      refine tm_get 52 d_Mod_nextStop_49 rfl fl_Mod_206 hT rfl ?_
      refine tf_blk _ b_Mod_nextStop_52 rfl ?_
      refine tf_blk _ b_Mod_nextStop_53 rfl ?_
      refine tf_ic_ge 72 59 d_Mod_nextStop_56 rfl rfl (fun h56 => ?_) (fun h56 => ?_)
      · refine tf_blk _ b_Mod_nextStop_72 rfl ?_
        refine tf_ic_le 81 77 d_Mod_nextStop_74 rfl rfl (fun h74 => ?_) (fun h74 => ?_)
        · refine tf_blk _ b_Mod_nextStop_81 rfl ?_
          refine tf_iret d_Mod_nextStop_82 rfl ?_
          refine ⟨?_, rfl, rfl⟩
          first
          | (simp only [tm_ns, h2, h9, (Int32.not_lt.mpr h9), h56, (Int32.not_lt.mpr h56), h74, (Int32.not_lt.mpr h74), if_true, if_false]; done)
          | (exfalso; exact absurd h56 h9)
          | (exfalso; exact absurd h9 h56)
        · refine tf_blk _ b_Mod_nextStop_77 rfl ?_
          refine tf_goto 82 d_Mod_nextStop_78 rfl ?_
          refine tf_iret d_Mod_nextStop_82 rfl ?_
          refine ⟨?_, rfl, rfl⟩
          first
          | (simp only [tm_ns, h2, h9, (Int32.not_lt.mpr h9), h56, (Int32.not_lt.mpr h56), h74, (Int32.not_le.mp h74), if_true, if_false]; done)
          | (exfalso; exact absurd h56 h9)
          | (exfalso; exact absurd h9 h56)
      · refine tf_blk _ b_Mod_nextStop_59 rfl ?_
        refine tf_ic_ge 68 64 d_Mod_nextStop_61 rfl rfl (fun h61 => ?_) (fun h61 => ?_)
        · refine tf_blk _ b_Mod_nextStop_68 rfl ?_
          refine tf_goto 82 d_Mod_nextStop_69 rfl ?_
          refine tf_iret d_Mod_nextStop_82 rfl ?_
          refine ⟨?_, rfl, rfl⟩
          first
          | (simp only [tm_ns, h2, h9, (Int32.not_lt.mpr h9), h56, (Int32.not_le.mp h56), h61, (Int32.not_lt.mpr h61), if_true, if_false]; done)
          | (exfalso; exact absurd h56 h9)
          | (exfalso; exact absurd h9 h56)
        · refine tf_blk _ b_Mod_nextStop_64 rfl ?_
          refine tf_goto 82 d_Mod_nextStop_65 rfl ?_
          refine tf_iret d_Mod_nextStop_82 rfl ?_
          refine ⟨?_, rfl, rfl⟩
          first
          | (simp only [tm_ns, h2, h9, (Int32.not_lt.mpr h9), h56, (Int32.not_le.mp h56), h61, (Int32.not_le.mp h61), if_true, if_false]; done)
          | (exfalso; exact absurd h56 h9)
          | (exfalso; exact absurd h9 h56)
    · refine tf_blk _ b_Mod_nextStop_12 rfl ?_
      refine tm_get 18 d_Mod_nextStop_15 rfl fl_Mod_206 hT rfl ?_
      refine tf_blk _ b_Mod_nextStop_18 rfl ?_
      refine tf_cS (tf_gok _ _) (c_Mod_floor l D q (d - 1) _ _ (one_ne3 hs)) 22 d_Mod_nextStop_19 rfl lk_Mod_128 cw_Mod_floor (by rfl) sa_Mod_floor (by omega) (by exact Nat.le_of_ble_eq_true rfl) rfl ?_
      rintro v19 L19 f19 ⟨rfl, rfl, rfl⟩
      refine tf_blk _ b_Mod_nextStop_22 rfl ?_
      refine tm_get 29 d_Mod_nextStop_26 rfl fl_Mod_206 hT rfl ?_
      refine tf_blk _ b_Mod_nextStop_29 rfl ?_
      refine tf_goto 53 d_Mod_nextStop_30 rfl ?_
      refine tf_blk _ b_Mod_nextStop_53 rfl ?_
      refine tf_ic_ge 72 59 d_Mod_nextStop_56 rfl rfl (fun h56 => ?_) (fun h56 => ?_)
      · refine tf_blk _ b_Mod_nextStop_72 rfl ?_
        refine tf_ic_le 81 77 d_Mod_nextStop_74 rfl rfl (fun h74 => ?_) (fun h74 => ?_)
        · refine tf_blk _ b_Mod_nextStop_81 rfl ?_
          refine tf_iret d_Mod_nextStop_82 rfl ?_
          refine ⟨?_, rfl, rfl⟩
          first
          | (simp only [tm_ns, h2, h9, (Int32.not_le.mp h9), h56, (Int32.not_lt.mpr h56), h74, (Int32.not_lt.mpr h74), if_true, if_false]; done)
          | (exfalso; exact absurd h56 h9)
          | (exfalso; exact absurd h9 h56)
        · refine tf_blk _ b_Mod_nextStop_77 rfl ?_
          refine tf_goto 82 d_Mod_nextStop_78 rfl ?_
          refine tf_iret d_Mod_nextStop_82 rfl ?_
          refine ⟨?_, rfl, rfl⟩
          first
          | (simp only [tm_ns, h2, h9, (Int32.not_le.mp h9), h56, (Int32.not_lt.mpr h56), h74, (Int32.not_le.mp h74), if_true, if_false]; done)
          | (exfalso; exact absurd h56 h9)
          | (exfalso; exact absurd h9 h56)
      · refine tf_blk _ b_Mod_nextStop_59 rfl ?_
        refine tf_ic_ge 68 64 d_Mod_nextStop_61 rfl rfl (fun h61 => ?_) (fun h61 => ?_)
        · refine tf_blk _ b_Mod_nextStop_68 rfl ?_
          refine tf_goto 82 d_Mod_nextStop_69 rfl ?_
          refine tf_iret d_Mod_nextStop_82 rfl ?_
          refine ⟨?_, rfl, rfl⟩
          first
          | (simp only [tm_ns, h2, h9, (Int32.not_le.mp h9), h56, (Int32.not_le.mp h56), h61, (Int32.not_lt.mpr h61), if_true, if_false]; done)
          | (exfalso; exact absurd h56 h9)
          | (exfalso; exact absurd h9 h56)
        · refine tf_blk _ b_Mod_nextStop_64 rfl ?_
          refine tf_goto 82 d_Mod_nextStop_65 rfl ?_
          refine tf_iret d_Mod_nextStop_82 rfl ?_
          refine ⟨?_, rfl, rfl⟩
          first
          | (simp only [tm_ns, h2, h9, (Int32.not_le.mp h9), h56, (Int32.not_le.mp h56), h61, (Int32.not_le.mp h61), if_true, if_false]; done)
          | (exfalso; exact absurd h56 h9)
          | (exfalso; exact absurd h9 h56)
  · refine tf_blk _ b_Mod_nextStop_5 rfl ?_
    refine tf_iret d_Mod_nextStop_6 rfl ?_
    refine ⟨?_, rfl, rfl⟩
    first
    | (simp only [tm_ns, h2, if_true, if_false]; done)
    | (exfalso; exact absurd h56 h9)
    | (exfalso; exact absurd h9 h56)
set_option maxHeartbeats 4000000 in
set_option maxRecDepth 100000 in
theorem c_Mod_at (hd : 2 ≤ d) (a b p e k : Int32) (hpe : ¬ p = e) : tf_C l (tf_H D q) d i_Mod_at [.int a, .int b, .int p, .int e, .int k] L f 0 0 (tf_rd (.int (tm_att a b p e k)) L f) := by
  refine tf_C.of (tf_gok _ _) (by decide) w_1420 (Nat.le_of_ble_eq_true rfl) ?_
  refine tf_blk _ b_Mod_at_0 rfl ?_
  refine tf_ic_le 30 18 d_Mod_at_15 rfl rfl (fun h15 => ?_) (fun h15 => ?_)
  · refine tf_blk _ b_Mod_at_30 rfl ?_
    refine tf_cS (tf_gok _ _) (c_Mod_near l D q (d - 1) _ _ (by omega) (two_ne3 (sub_ne3 hpe))) 40 d_Mod_at_37 rfl lk_Mod_140 cw_Mod_near (by rfl) sa_Mod_near (by omega) (by exact Nat.le_of_ble_eq_true rfl) rfl ?_
    rintro v37 L37 f37 ⟨rfl, rfl, rfl⟩
    refine tf_blk _ b_Mod_at_40 rfl ?_
    refine tf_iret d_Mod_at_42 rfl ?_
    refine ⟨?_, rfl, rfl⟩
    simp only [tm_att, h15, (Int32.not_lt.mpr h15), if_true, if_false]
  · refine tf_blk _ b_Mod_at_18 rfl ?_
    refine tf_cS (tf_gok _ _) (c_Mod_near l D q (d - 1) _ _ (by omega) (two_ne3 (sub_ne3 (fun z => hpe z.symm)))) 27 d_Mod_at_24 rfl lk_Mod_140 cw_Mod_near (by rfl) sa_Mod_near (by omega) (by exact Nat.le_of_ble_eq_true rfl) rfl ?_
    rintro v24 L24 f24 ⟨rfl, rfl, rfl⟩
    refine tf_goto 40 d_Mod_at_27 rfl ?_
    refine tf_blk _ b_Mod_at_40 rfl ?_
    refine tf_iret d_Mod_at_42 rfl ?_
    refine ⟨?_, rfl, rfl⟩
    simp only [tm_att, h15, (Int32.not_le.mp h15), if_true, if_false]
end
