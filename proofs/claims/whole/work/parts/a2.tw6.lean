/-! the reference: pairAt, pair -/
/-- the last place of a pair among m from k on -/
def tm_pat (g : Nat → Int32) (v : Int32) : Nat → Nat → Int32 → Int32
  | 0, _, r => r
  | m + 1, k, r => tm_pat g v m (k + 1) (if g k = v then nI k else r)
theorem tm_pat_or (g : Nat → Int32) (v : Int32) : ∀ m k r, tm_pat g v m k r = r ∨ ∃ j, k ≤ j ∧ j < k + m ∧ tm_pat g v m k r = nI j := by
  intro m
  induction m with
  | zero => intro k r; exact Or.inl rfl
  | succ m ih =>
    intro k r
    rw [tm_pat]
    rcases ih (k + 1) (if g k = v then nI k else r) with h | ⟨j, h1, h2, h3⟩
    · by_cases e : g k = v
      · rw [if_pos e] at h ⊢
        exact Or.inr ⟨k, Nat.le_refl _, by omega, h⟩
      · rw [if_neg e] at h ⊢
        exact Or.inl h
    · exact Or.inr ⟨j, by omega, by omega, h3⟩
section
variable (l : Launch) (D : va_G) (q : Nat → ClassId) (d : Nat) (L : List Nat) (f : tf_F) {ad : Nat → Nat} {m : Nat} {W0 : tf_F} {J : Nat → Int32} {A : Nat → Nat → Int32} {R : Nat → Int64}
set_option maxHeartbeats 4000000 in
set_option maxRecDepth 100000 in
theorem t_Mod_pairAt (hT : tm_at q ad m W0 L J A R f) {n : Nat} (hn : n ≤ 40) (h41 : J 41 = nI n) (x y : Int32) : ∀ w k (r : Int32), k + w = n → tf_W l (tf_H D q) tf_T (tf_QM (tf_H D q) (tf_rd (.int (tm_pat (A 39) (kI 64 * x + y) w k r)) L f)) d i_Mod_pairAt 5 [(0, .ref m), (1, .int x), (2, .int y), (3, .int r), (4, .int (nI k))] [] L f 0 0 := by
  intro w
  induction w with
  | zero =>
    intro k r hk
    refine tf_blk _ b_Mod_pairAt_5 rfl ?_
    refine tm_get 11 d_Mod_pairAt_8 rfl fl_Mod_264 hT rfl ?_
    rw [h41]
    refine tf_ic_ge 43 14 d_Mod_pairAt_11 rfl rfl (fun h11 => ?_) (fun h11 => absurd (nI_le (by omega) (by omega)) h11)
    refine tf_blk _ b_Mod_pairAt_43 rfl ?_
    refine tf_iret d_Mod_pairAt_44 rfl ?_
    exact ⟨rfl, rfl, rfl⟩
  | succ w ih =>
    intro k r hk
    have hkv : vp_in (nI k) 40 := vp_in_nI (by omega) (by omega)
    have hkc : (nI k).toNatClampNeg = k := nI_clamp (by omega)
    by_cases c1 : A 39 k = kI 64 * x + y
    · refine tf_blk _ b_Mod_pairAt_5 rfl ?_
      refine tm_get 11 d_Mod_pairAt_8 rfl fl_Mod_264 hT rfl ?_
      rw [h41]
      refine tf_ic_ge 43 14 d_Mod_pairAt_11 rfl rfl (fun h11 => absurd h11 (nI_ge (by omega) (by omega))) (fun h11 => ?_)
      refine tf_blk _ b_Mod_pairAt_14 rfl ?_
      refine tm_get 18 d_Mod_pairAt_15 rfl fl_Mod_91 hT rfl ?_
      refine tf_blk _ b_Mod_pairAt_18 rfl ?_
      refine tm_iald _ 21 d_Mod_pairAt_20 rfl hT rfl (hkv) ?_
      rw [hkc]
      refine tf_blk _ b_Mod_pairAt_21 rfl ?_
      refine tf_ic_ne 35 30 d_Mod_pairAt_27 rfl rfl (fun h27 => absurd h27 (not_not_intro c1)) (fun h27 => ?_)
      refine tf_blk _ b_Mod_pairAt_30 rfl ?_
      refine tf_goto 36 d_Mod_pairAt_32 rfl ?_
      refine tf_blk _ b_Mod_pairAt_36 rfl ?_
      refine tf_goto 5 d_Mod_pairAt_40 rfl ?_
      have h9 := ih (k + 1) (nI k) (by omega)
      rw [show nI (k + 1) = nI k + 1 from nI_succ k] at h9
      rw [show tm_pat (A 39) (kI 64 * x + y) (w + 1) k r = tm_pat (A 39) (kI 64 * x + y) w (k + 1) (nI k) from congrArg (tm_pat (A 39) (kI 64 * x + y) w (k + 1)) (if_pos c1)]
      exact h9
    refine tf_blk _ b_Mod_pairAt_5 rfl ?_
    refine tm_get 11 d_Mod_pairAt_8 rfl fl_Mod_264 hT rfl ?_
    rw [h41]
    refine tf_ic_ge 43 14 d_Mod_pairAt_11 rfl rfl (fun h11 => absurd h11 (nI_ge (by omega) (by omega))) (fun h11 => ?_)
    refine tf_blk _ b_Mod_pairAt_14 rfl ?_
    refine tm_get 18 d_Mod_pairAt_15 rfl fl_Mod_91 hT rfl ?_
    refine tf_blk _ b_Mod_pairAt_18 rfl ?_
    refine tm_iald _ 21 d_Mod_pairAt_20 rfl hT rfl (hkv) ?_
    rw [hkc]
    refine tf_blk _ b_Mod_pairAt_21 rfl ?_
    refine tf_ic_ne 35 30 d_Mod_pairAt_27 rfl rfl (fun h27 => ?_) (fun h27 => absurd h27 (c1))
    refine tf_blk _ b_Mod_pairAt_35 rfl ?_
    refine tf_blk _ b_Mod_pairAt_36 rfl ?_
    refine tf_goto 5 d_Mod_pairAt_40 rfl ?_
    have h9 := ih (k + 1) (r) (by omega)
    rw [show nI (k + 1) = nI k + 1 from nI_succ k] at h9
    rw [show tm_pat (A 39) (kI 64 * x + y) (w + 1) k r = tm_pat (A 39) (kI 64 * x + y) w (k + 1) (r) from congrArg (tm_pat (A 39) (kI 64 * x + y) w (k + 1)) (if_neg c1)]
    exact h9
set_option maxHeartbeats 4000000 in
set_option maxRecDepth 100000 in
theorem c_Mod_pairAt (hT : tm_at q ad m W0 L J A R f) {n : Nat} (hn : n ≤ 40) (h41 : J 41 = nI n) (x y : Int32) : tf_C l (tf_H D q) d i_Mod_pairAt [.ref m, .int x, .int y] L f 0 0 (tf_rd (.int (tm_pat (A 39) (kI 64 * x + y) n 0 (kI (-1)))) L f) := by
  refine tf_C.of (tf_gok _ _) (by decide) w_1460 (Nat.le_of_ble_eq_true rfl) ?_
  refine tf_blk _ b_Mod_pairAt_0 rfl ?_
  exact t_Mod_pairAt l D q d L f hT hn h41 x y n 0 (kI (-1)) (by omega)
set_option maxHeartbeats 4000000 in
set_option maxRecDepth 100000 in
theorem c_Mod_pair_f (hd : 1 ≤ d) (hT : tm_at q ad m W0 L J A R f) (x y b : Int32) (hb : ¬ (tm_isG (tm_J0 J) x = true ∧ tm_isG (tm_J0 J) y = true ∧ tm_isK b = true)) : tf_C l (tf_H D q) d i_Mod_pair [.ref m, .int x, .int y, .int b] L f 0 0 (tm_to q ad m W0 L (some (.int (kI 0))) (tm_J0 J) (A) (R)) := by
  refine tf_C.of (tf_gok _ _) (by decide) w_1456 (Nat.le_of_ble_eq_true rfl) ?_
  refine tf_blk _ b_Mod_pair_0 rfl ?_
  refine tm_put 5 d_Mod_pair_2 rfl fw_Mod_123 hT (by decide) rfl rfl rfl (fun f hT => ?_)
  refine tf_blk _ b_Mod_pair_5 rfl ?_
  refine tf_cV (tf_gok _ _) (c_Mod_isGlyph l D q (d - 1) _ _ hT _) 10 d_Mod_pair_7 rfl lk_Mod_148 cw_Mod_isGlyph (by rfl) in_Mod_isGlyph se_Mod_isGlyph (by exact hT.1.1) (by exact hT.1.2.1) (by rfl) (by rfl) (by omega) (by exact Nat.le_of_ble_eq_true rfl) rfl ?_
  rintro v7 L7 f7 ⟨rfl, rfl, rfl⟩
  refine tf_if_eq 28 13 d_Mod_pair_10 rfl rfl (fun h10 => ?_) (fun h10 => ?_)
  · refine tf_blk _ b_Mod_pair_28 rfl ?_
    refine tf_zret d_Mod_pair_29 rfl (rfl) ?_
    exact ⟨rfl, rfl, hT⟩
  · refine tf_blk _ b_Mod_pair_13 rfl ?_
    refine tf_cV (tf_gok _ _) (c_Mod_isGlyph l D q (d - 1) _ _ hT _) 18 d_Mod_pair_15 rfl lk_Mod_148 cw_Mod_isGlyph (by rfl) in_Mod_isGlyph se_Mod_isGlyph (by exact hT.1.1) (by exact hT.1.2.1) (by rfl) (by rfl) (by omega) (by exact Nat.le_of_ble_eq_true rfl) rfl ?_
    rintro v15 L15 f15 ⟨rfl, rfl, rfl⟩
    refine tf_if_eq 28 21 d_Mod_pair_18 rfl rfl (fun h18 => ?_) (fun h18 => ?_)
    · refine tf_blk _ b_Mod_pair_28 rfl ?_
      refine tf_zret d_Mod_pair_29 rfl (rfl) ?_
      exact ⟨rfl, rfl, hT⟩
    · refine tf_blk _ b_Mod_pair_21 rfl ?_
      refine tf_cS (tf_gok _ _) (c_Mod_isKern l D q (d - 1) _ _ _) 25 d_Mod_pair_22 rfl lk_Mod_261 cw_Mod_isKern (by rfl) sa_Mod_isKern (by omega) (by exact Nat.le_of_ble_eq_true rfl) rfl ?_
      rintro v22 L22 f22 ⟨rfl, rfl, rfl⟩
      refine tf_if_ne 30 28 d_Mod_pair_25 rfl rfl (fun h25 => ?_) (fun h25 => ?_)
      · exact absurd ⟨bI_t h10, bI_t h18, bI_t h25⟩ hb
      · refine tf_blk _ b_Mod_pair_28 rfl ?_
        refine tf_zret d_Mod_pair_29 rfl (rfl) ?_
        exact ⟨rfl, rfl, hT⟩
set_option maxHeartbeats 4000000 in
set_option maxRecDepth 100000 in
theorem c_Mod_pair_40 (hd : 1 ≤ d) (hT : tm_at q ad m W0 L J A R f) {n : Nat} (hn : n ≤ 40) (h41 : tm_J0 J 41 = nI n) (x y b : Int32) (hG1 : tm_isG (tm_J0 J) x = true) (hG2 : tm_isG (tm_J0 J) y = true) (hb : tm_isK b = true) (hq : tm_pat (A 39) (kI 64 * x + y) n 0 (kI (-1)) = kI (-1)) (hn40 : n = 40) : tf_C l (tf_H D q) d i_Mod_pair [.ref m, .int x, .int y, .int b] L f 0 0 (tm_to q ad m W0 L (some (.int (kI 0))) (tm_J0 J) (A) (R)) := by
  refine tf_C.of (tf_gok _ _) (by decide) w_1456 (Nat.le_of_ble_eq_true rfl) ?_
  refine tf_blk _ b_Mod_pair_0 rfl ?_
  refine tm_put 5 d_Mod_pair_2 rfl fw_Mod_123 hT (by decide) rfl rfl rfl (fun f hT => ?_)
  refine tf_blk _ b_Mod_pair_5 rfl ?_
  refine tf_cV (tf_gok _ _) (c_Mod_isGlyph l D q (d - 1) _ _ hT _) 10 d_Mod_pair_7 rfl lk_Mod_148 cw_Mod_isGlyph (by rfl) in_Mod_isGlyph se_Mod_isGlyph (by exact hT.1.1) (by exact hT.1.2.1) (by rfl) (by rfl) (by omega) (by exact Nat.le_of_ble_eq_true rfl) rfl ?_
  rintro v7 L7 f7 ⟨rfl, rfl, rfl⟩
  refine tf_if_eq 28 13 d_Mod_pair_10 rfl rfl (fun h10 => absurd h10 (by rw [hG1]; decide)) (fun h10 => ?_)
  refine tf_blk _ b_Mod_pair_13 rfl ?_
  refine tf_cV (tf_gok _ _) (c_Mod_isGlyph l D q (d - 1) _ _ hT _) 18 d_Mod_pair_15 rfl lk_Mod_148 cw_Mod_isGlyph (by rfl) in_Mod_isGlyph se_Mod_isGlyph (by exact hT.1.1) (by exact hT.1.2.1) (by rfl) (by rfl) (by omega) (by exact Nat.le_of_ble_eq_true rfl) rfl ?_
  rintro v15 L15 f15 ⟨rfl, rfl, rfl⟩
  refine tf_if_eq 28 21 d_Mod_pair_18 rfl rfl (fun h18 => absurd h18 (by rw [hG2]; decide)) (fun h18 => ?_)
  refine tf_blk _ b_Mod_pair_21 rfl ?_
  refine tf_cS (tf_gok _ _) (c_Mod_isKern l D q (d - 1) _ _ _) 25 d_Mod_pair_22 rfl lk_Mod_261 cw_Mod_isKern (by rfl) sa_Mod_isKern (by omega) (by exact Nat.le_of_ble_eq_true rfl) rfl ?_
  rintro v22 L22 f22 ⟨rfl, rfl, rfl⟩
  refine tf_if_ne 30 28 d_Mod_pair_25 rfl rfl (fun h25 => ?_) (fun h25 => absurd h25 (by rw [hb]; decide))
  refine tf_blk _ b_Mod_pair_30 rfl ?_
  refine tf_cV (tf_gok _ _) (c_Mod_pairAt l D q (d - 1) _ _ hT hn h41 x y) 36 d_Mod_pair_33 rfl lk_Mod_267 cw_Mod_pairAt (by rfl) in_Mod_pairAt se_Mod_pairAt (by exact hT.1.1) (by exact hT.1.2.1) (by rfl) (by rfl) (by omega) (by exact Nat.le_of_ble_eq_true rfl) rfl ?_
  rintro v33 L33 f33 ⟨rfl, rfl, rfl⟩
  refine tf_blk _ b_Mod_pair_36 rfl ?_
  refine tf_if_ge 54 43 d_Mod_pair_40 rfl rfl (fun h40 => absurd h40 (by rw [hq]; decide)) (fun h40 => ?_)
  refine tf_blk _ b_Mod_pair_43 rfl ?_
  refine tm_get 47 d_Mod_pair_44 rfl fl_Mod_264 hT rfl ?_
  refine tf_blk _ b_Mod_pair_47 rfl ?_
  refine tf_ic_ne 54 52 d_Mod_pair_49 rfl rfl (fun h49 => absurd h49 (not_not_intro (h41.trans (by rw [hn40]; rfl)))) (fun h49 => ?_)
  refine tf_blk _ b_Mod_pair_52 rfl ?_
  refine tf_zret d_Mod_pair_53 rfl (rfl) ?_
  exact ⟨rfl, rfl, hT⟩
set_option maxHeartbeats 4000000 in
set_option maxRecDepth 100000 in
theorem c_Mod_pair_new (hd : 1 ≤ d) (hT : tm_at q ad m W0 L J A R f) {n : Nat} (hn : n ≤ 40) (h41 : tm_J0 J 41 = nI n) (x y b : Int32) (hG1 : tm_isG (tm_J0 J) x = true) (hG2 : tm_isG (tm_J0 J) y = true) (hb : tm_isK b = true) (hq : tm_pat (A 39) (kI 64 * x + y) n 0 (kI (-1)) = kI (-1)) (hn40 : n < 40) : tf_C l (tf_H D q) d i_Mod_pair [.ref m, .int x, .int y, .int b] L f 0 0 (tm_to q ad m W0 L (some (.int (kI 1))) (upd (tm_J0 J) 41 (nI n + kI 1)) (va_up (va_up A 39 (upd (A 39) n (kI 64 * x + y))) 40 (upd (A 40) n b)) (R)) := by
  refine tf_C.of (tf_gok _ _) (by decide) w_1456 (Nat.le_of_ble_eq_true rfl) ?_
  refine tf_blk _ b_Mod_pair_0 rfl ?_
  refine tm_put 5 d_Mod_pair_2 rfl fw_Mod_123 hT (by decide) rfl rfl rfl (fun f hT => ?_)
  refine tf_blk _ b_Mod_pair_5 rfl ?_
  refine tf_cV (tf_gok _ _) (c_Mod_isGlyph l D q (d - 1) _ _ hT _) 10 d_Mod_pair_7 rfl lk_Mod_148 cw_Mod_isGlyph (by rfl) in_Mod_isGlyph se_Mod_isGlyph (by exact hT.1.1) (by exact hT.1.2.1) (by rfl) (by rfl) (by omega) (by exact Nat.le_of_ble_eq_true rfl) rfl ?_
  rintro v7 L7 f7 ⟨rfl, rfl, rfl⟩
  refine tf_if_eq 28 13 d_Mod_pair_10 rfl rfl (fun h10 => absurd h10 (by rw [hG1]; decide)) (fun h10 => ?_)
  refine tf_blk _ b_Mod_pair_13 rfl ?_
  refine tf_cV (tf_gok _ _) (c_Mod_isGlyph l D q (d - 1) _ _ hT _) 18 d_Mod_pair_15 rfl lk_Mod_148 cw_Mod_isGlyph (by rfl) in_Mod_isGlyph se_Mod_isGlyph (by exact hT.1.1) (by exact hT.1.2.1) (by rfl) (by rfl) (by omega) (by exact Nat.le_of_ble_eq_true rfl) rfl ?_
  rintro v15 L15 f15 ⟨rfl, rfl, rfl⟩
  refine tf_if_eq 28 21 d_Mod_pair_18 rfl rfl (fun h18 => absurd h18 (by rw [hG2]; decide)) (fun h18 => ?_)
  refine tf_blk _ b_Mod_pair_21 rfl ?_
  refine tf_cS (tf_gok _ _) (c_Mod_isKern l D q (d - 1) _ _ _) 25 d_Mod_pair_22 rfl lk_Mod_261 cw_Mod_isKern (by rfl) sa_Mod_isKern (by omega) (by exact Nat.le_of_ble_eq_true rfl) rfl ?_
  rintro v22 L22 f22 ⟨rfl, rfl, rfl⟩
  refine tf_if_ne 30 28 d_Mod_pair_25 rfl rfl (fun h25 => ?_) (fun h25 => absurd h25 (by rw [hb]; decide))
  refine tf_blk _ b_Mod_pair_30 rfl ?_
  refine tf_cV (tf_gok _ _) (c_Mod_pairAt l D q (d - 1) _ _ hT hn h41 x y) 36 d_Mod_pair_33 rfl lk_Mod_267 cw_Mod_pairAt (by rfl) in_Mod_pairAt se_Mod_pairAt (by exact hT.1.1) (by exact hT.1.2.1) (by rfl) (by rfl) (by omega) (by exact Nat.le_of_ble_eq_true rfl) rfl ?_
  rintro v33 L33 f33 ⟨rfl, rfl, rfl⟩
  refine tf_blk _ b_Mod_pair_36 rfl ?_
  refine tf_if_ge 54 43 d_Mod_pair_40 rfl rfl (fun h40 => absurd h40 (by rw [hq]; decide)) (fun h40 => ?_)
  refine tf_blk _ b_Mod_pair_43 rfl ?_
  refine tm_get 47 d_Mod_pair_44 rfl fl_Mod_264 hT rfl ?_
  refine tf_blk _ b_Mod_pair_47 rfl ?_
  refine tf_ic_ne 54 52 d_Mod_pair_49 rfl rfl (fun h49 => ?_) (fun h49 => absurd h49 (fun z => absurd ((nI_eq (b := 40) (by omega) (by omega)).mp (h41.symm.trans z)) (by omega)))
  refine tf_blk _ b_Mod_pair_54 rfl ?_
  refine tf_if_ge 66 59 d_Mod_pair_56 rfl rfl (fun h56 => absurd h56 (by rw [hq]; decide)) (fun h56 => ?_)
  refine tf_blk _ b_Mod_pair_59 rfl ?_
  refine tm_get 63 d_Mod_pair_60 rfl fl_Mod_264 hT rfl ?_
  refine tf_goto 68 d_Mod_pair_63 rfl ?_
  refine tf_blk _ b_Mod_pair_68 rfl ?_
  refine tm_get 75 d_Mod_pair_72 rfl fl_Mod_264 hT rfl ?_
  refine tf_blk _ b_Mod_pair_75 rfl ?_
  refine tm_get 81 d_Mod_pair_78 rfl fl_Mod_264 hT rfl ?_
  refine tf_ic_ne 88 84 d_Mod_pair_81 rfl rfl (fun h81 => absurd h81 (not_not_intro rfl)) (fun h81 => ?_)
  refine tf_blk _ b_Mod_pair_84 rfl ?_
  refine tf_goto 89 d_Mod_pair_85 rfl ?_
  rw [show upd J 0 (kI 0) 41 = nI n from h41]
  refine tf_blk _ b_Mod_pair_89 rfl ?_
  refine tm_put 93 d_Mod_pair_90 rfl fw_Mod_264 hT (by decide) rfl rfl rfl (fun f hT => ?_)
  refine tf_blk _ b_Mod_pair_93 rfl ?_
  refine tm_get 97 d_Mod_pair_94 rfl fl_Mod_91 hT rfl ?_
  refine tf_blk _ b_Mod_pair_97 rfl ?_
  refine tm_iast _ 106 d_Mod_pair_105 rfl hT rfl (vp_in_nI (by omega) (by omega)) (fun f hT => ?_)
  refine tf_blk _ b_Mod_pair_106 rfl ?_
  refine tm_get 110 d_Mod_pair_107 rfl fl_Mod_94 hT rfl ?_
  refine tf_blk _ b_Mod_pair_110 rfl ?_
  refine tm_iast _ 114 d_Mod_pair_113 rfl hT rfl (vp_in_nI (by omega) (by omega)) (fun f hT => ?_)
  refine tf_blk _ b_Mod_pair_114 rfl ?_
  refine tf_zret d_Mod_pair_115 rfl (rfl) ?_
  rw [nI_clamp (show n < 2 ^ 31 by omega)] at hT
  exact ⟨rfl, rfl, hT⟩
set_option maxHeartbeats 4000000 in
set_option maxRecDepth 100000 in
theorem c_Mod_pair_old (hd : 1 ≤ d) (hT : tm_at q ad m W0 L J A R f) {n : Nat} (hn : n ≤ 40) (h41 : tm_J0 J 41 = nI n) (x y b : Int32) (hG1 : tm_isG (tm_J0 J) x = true) (hG2 : tm_isG (tm_J0 J) y = true) (hb : tm_isK b = true) {j : Nat} (hj : j < n) (hq : tm_pat (A 39) (kI 64 * x + y) n 0 (kI (-1)) = nI j) : tf_C l (tf_H D q) d i_Mod_pair [.ref m, .int x, .int y, .int b] L f 0 0 (tm_to q ad m W0 L (some (.int (kI 1))) (upd (tm_J0 J) 41 (nI n + kI 0)) (va_up (va_up A 39 (upd (A 39) j (kI 64 * x + y))) 40 (upd (A 40) j b)) (R)) := by
  refine tf_C.of (tf_gok _ _) (by decide) w_1456 (Nat.le_of_ble_eq_true rfl) ?_
  refine tf_blk _ b_Mod_pair_0 rfl ?_
  refine tm_put 5 d_Mod_pair_2 rfl fw_Mod_123 hT (by decide) rfl rfl rfl (fun f hT => ?_)
  refine tf_blk _ b_Mod_pair_5 rfl ?_
  refine tf_cV (tf_gok _ _) (c_Mod_isGlyph l D q (d - 1) _ _ hT _) 10 d_Mod_pair_7 rfl lk_Mod_148 cw_Mod_isGlyph (by rfl) in_Mod_isGlyph se_Mod_isGlyph (by exact hT.1.1) (by exact hT.1.2.1) (by rfl) (by rfl) (by omega) (by exact Nat.le_of_ble_eq_true rfl) rfl ?_
  rintro v7 L7 f7 ⟨rfl, rfl, rfl⟩
  refine tf_if_eq 28 13 d_Mod_pair_10 rfl rfl (fun h10 => absurd h10 (by rw [hG1]; decide)) (fun h10 => ?_)
  refine tf_blk _ b_Mod_pair_13 rfl ?_
  refine tf_cV (tf_gok _ _) (c_Mod_isGlyph l D q (d - 1) _ _ hT _) 18 d_Mod_pair_15 rfl lk_Mod_148 cw_Mod_isGlyph (by rfl) in_Mod_isGlyph se_Mod_isGlyph (by exact hT.1.1) (by exact hT.1.2.1) (by rfl) (by rfl) (by omega) (by exact Nat.le_of_ble_eq_true rfl) rfl ?_
  rintro v15 L15 f15 ⟨rfl, rfl, rfl⟩
  refine tf_if_eq 28 21 d_Mod_pair_18 rfl rfl (fun h18 => absurd h18 (by rw [hG2]; decide)) (fun h18 => ?_)
  refine tf_blk _ b_Mod_pair_21 rfl ?_
  refine tf_cS (tf_gok _ _) (c_Mod_isKern l D q (d - 1) _ _ _) 25 d_Mod_pair_22 rfl lk_Mod_261 cw_Mod_isKern (by rfl) sa_Mod_isKern (by omega) (by exact Nat.le_of_ble_eq_true rfl) rfl ?_
  rintro v22 L22 f22 ⟨rfl, rfl, rfl⟩
  refine tf_if_ne 30 28 d_Mod_pair_25 rfl rfl (fun h25 => ?_) (fun h25 => absurd h25 (by rw [hb]; decide))
  refine tf_blk _ b_Mod_pair_30 rfl ?_
  refine tf_cV (tf_gok _ _) (c_Mod_pairAt l D q (d - 1) _ _ hT hn h41 x y) 36 d_Mod_pair_33 rfl lk_Mod_267 cw_Mod_pairAt (by rfl) in_Mod_pairAt se_Mod_pairAt (by exact hT.1.1) (by exact hT.1.2.1) (by rfl) (by rfl) (by omega) (by exact Nat.le_of_ble_eq_true rfl) rfl ?_
  rintro v33 L33 f33 ⟨rfl, rfl, rfl⟩
  rw [hq]
  refine tf_blk _ b_Mod_pair_36 rfl ?_
  refine tf_if_ge 54 43 d_Mod_pair_40 rfl rfl (fun h40 => ?_) (fun h40 => absurd (nI_pos' (by omega)) h40)
  refine tf_blk _ b_Mod_pair_54 rfl ?_
  refine tf_if_ge 66 59 d_Mod_pair_56 rfl rfl (fun h56 => ?_) (fun h56 => absurd (nI_pos' (by omega)) h56)
  refine tf_blk _ b_Mod_pair_66 rfl ?_
  refine tf_blk _ b_Mod_pair_68 rfl ?_
  refine tm_get 75 d_Mod_pair_72 rfl fl_Mod_264 hT rfl ?_
  refine tf_blk _ b_Mod_pair_75 rfl ?_
  refine tm_get 81 d_Mod_pair_78 rfl fl_Mod_264 hT rfl ?_
  refine tf_ic_ne 88 84 d_Mod_pair_81 rfl rfl (fun h81 => ?_) (fun h81 => absurd h81 (fun z => absurd ((nI_eq (by omega) (by omega)).mp (z.trans h41)) (by omega)))
  refine tf_blk _ b_Mod_pair_88 rfl ?_
  refine tf_blk _ b_Mod_pair_89 rfl ?_
  refine tm_put 93 d_Mod_pair_90 rfl fw_Mod_264 hT (by decide) rfl rfl rfl (fun f hT => ?_)
  refine tf_blk _ b_Mod_pair_93 rfl ?_
  refine tm_get 97 d_Mod_pair_94 rfl fl_Mod_91 hT rfl ?_
  refine tf_blk _ b_Mod_pair_97 rfl ?_
  refine tm_iast _ 106 d_Mod_pair_105 rfl hT rfl (vp_in_nI (by omega) (by omega)) (fun f hT => ?_)
  refine tf_blk _ b_Mod_pair_106 rfl ?_
  refine tm_get 110 d_Mod_pair_107 rfl fl_Mod_94 hT rfl ?_
  refine tf_blk _ b_Mod_pair_110 rfl ?_
  refine tm_iast _ 114 d_Mod_pair_113 rfl hT rfl (vp_in_nI (by omega) (by omega)) (fun f hT => ?_)
  refine tf_blk _ b_Mod_pair_114 rfl ?_
  refine tf_zret d_Mod_pair_115 rfl (rfl) ?_
  rw [nI_clamp (show j < 2 ^ 31 by omega), show upd J 0 (kI 0) 41 = nI n from h41] at hT
  exact ⟨rfl, rfl, hT⟩
end
