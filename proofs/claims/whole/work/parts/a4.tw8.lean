/-! the reference: stands, fitsAt, bestRule -/
/-- from place p on the row g holds the glyphs of t from k on, m of them -/
def tm_std (g : Nat → Int32) (t : Int64) (w p : Nat) : Nat → Nat → Bool → Bool
  | 0, _, b => b
  | m + 1, k, b => if b = true then tm_std g t w p m (k + 1) (decide (g (p + k) = tm_gof t k w)) else false
def tm_stands (g : Nat → Int32) (rs : Nat) (t : Int64) (w : Nat) (x : Int32) : Bool := if ¬ x < 0 ∧ ¬ nI rs < x + nI (tm_len t w) then tm_std g t w x.toNatClampNeg (tm_len t w) 0 true else false
def tm_fits (A : Nat → Nat → Int32) (R : Nat → Int64) (rs j : Nat) (x : Int32) : Bool := tm_stands (A 51) rs (R j) 4 x && (tm_stands (A 51) rs (A 44 j).toInt64 2 (x - nI (tm_len (A 44 j).toInt64 2)) && tm_stands (A 51) rs (A 46 j).toInt64 2 (x + nI (tm_len (R j) 4)))
/-- a place near the row: below 0, or not far behind it -/
def tm_near (x : Int32) : Prop := x < 0 ∨ ∃ p, p ≤ 200 ∧ x = nI p
theorem tm_near_sub {p n : Nat} (hp : p ≤ 100) (hn : n ≤ 8) : tm_near (nI p - nI n) := by
  by_cases h : n ≤ p
  · exact Or.inr ⟨p - n, by omega, nI_subI h⟩
  · refine Or.inl ?_
    rw [Int32.lt_iff_toInt_lt, Int32.toInt_sub, nI_toInt (by omega), nI_toInt (by omega)]
    simp only [Int.bmod]
    have : (0 : Int32).toInt = 0 := by decide
    rw [this]
    omega
theorem tm_near_add {p n : Nat} (hp : p ≤ 100) (hn : n ≤ 8) : tm_near (nI p + nI n) := Or.inr ⟨p + n, by omega, nI_add p n⟩
/-- the rule that is best from r on, m of them: its number, its length -/
def tm_bst (A : Nat → Nat → Int32) (R : Nat → Int64) (rs : Nat) (lo x : Int32) : Nat → Nat → Int32 → Int32 → Int32
  | 0, _, b, _ => b
  | m + 1, r, b, n => if A 42 r = lo ∧ n < nI (tm_len (R r) 4) ∧ tm_fits A R rs r x = true then tm_bst A R rs lo x m (r + 1) (nI r) (nI (tm_len (R r) 4)) else tm_bst A R rs lo x m (r + 1) b n
section
variable (l : Launch) (D : va_G) (q : Nat → ClassId) (d : Nat) (L : List Nat) (f : tf_F) {ad : Nat → Nat} {m : Nat} {W0 : tf_F} {J : Nat → Int32} {A : Nat → Nat → Int32} {R : Nat → Int64}
set_option maxHeartbeats 4000000 in
set_option maxRecDepth 100000 in
theorem t_Mod_stands (hd : 1 ≤ d) (hT : tm_at q ad m W0 L J A R f) (t : Int64) {w n p : Nat} (hw : w ≤ 8) (hn : n ≤ 8) (hp : p + n ≤ 60) : ∀ u k (b : Bool), k + u = n → tf_W l (tf_H D q) tf_T (tf_QM (tf_H D q) (tf_rd (.int (bI (tm_std (A 51) t w p u k b))) L f)) d i_Mod_stands 34 [(0, .ref m), (1, .long t), (3, .int (nI w)), (4, .int (nI p)), (5, .int (nI n)), (6, .int (bI b)), (7, .int (nI k))] [] L f 0 0 := by
  intro u
  induction u with
  | zero =>
    intro k b hk
    refine tf_blk _ b_Mod_stands_34 rfl ?_
    refine tf_ic_ge 79 41 d_Mod_stands_38 rfl rfl (fun h38 => ?_) (fun h38 => absurd (nI_le (by omega) (by omega)) h38)
    refine tf_blk _ b_Mod_stands_79 rfl ?_
    refine tf_zret d_Mod_stands_81 rfl (bI_n _) ?_
    exact ⟨rfl, rfl, rfl⟩
  | succ u ih =>
    intro k b hk
    by_cases c1 : b = true
    · have e0 : nI p + nI k = nI (p + k) := nI_add p k
      have hv : vp_in (nI p + nI k) 60 := by rw [e0]; exact vp_in_nI (by omega) (by omega)
      have hc : (nI p + nI k).toNatClampNeg = p + k := by rw [e0]; exact nI_clamp (show p + k < 2 ^ 31 by omega)
      have hs : tm_std (A 51) t w p (u + 1) k b = tm_std (A 51) t w p u (k + 1) (decide (A 51 (p + k) = tm_gof t k w)) := if_pos c1
      by_cases c2 : A 51 (p + k) = tm_gof t k w
      · refine tf_blk _ b_Mod_stands_34 rfl ?_
        refine tf_ic_ge 79 41 d_Mod_stands_38 rfl rfl (fun h38 => absurd h38 (nI_ge (by omega) (by omega))) (fun h38 => ?_)
        refine tf_blk _ b_Mod_stands_41 rfl ?_
        refine tf_if_eq 79 46 d_Mod_stands_43 rfl rfl (fun h43 => absurd h43 (by rw [c1]; decide)) (fun h43 => ?_)
        refine tf_blk _ b_Mod_stands_46 rfl ?_
        refine tm_get 50 d_Mod_stands_47 rfl fl_Mod_116 hT rfl ?_
        refine tf_blk _ b_Mod_stands_50 rfl ?_
        refine tm_iald _ 56 d_Mod_stands_55 rfl hT rfl (hv) ?_
        rw [hc]
        refine tf_blk _ b_Mod_stands_56 rfl ?_
        refine tf_cS (tf_gok _ _) (c_Mod_glyphOf l D q (d - 1) _ _ t (by omega) hw) 63 d_Mod_stands_60 rfl lk_Mod_270 cw_Mod_glyphOf (by rfl) sa_Mod_glyphOf (by omega) (by exact Nat.le_of_ble_eq_true rfl) rfl ?_
        rintro v60 L60 f60 ⟨rfl, rfl, rfl⟩
        refine tf_ic_ne 70 66 d_Mod_stands_63 rfl rfl (fun h63 => absurd h63 (not_not_intro c2)) (fun h63 => ?_)
        refine tf_blk _ b_Mod_stands_66 rfl ?_
        refine tf_goto 71 d_Mod_stands_67 rfl ?_
        refine tf_blk _ b_Mod_stands_71 rfl ?_
        refine tf_goto 34 d_Mod_stands_76 rfl ?_
        have h9 := ih (k + 1) (decide (A 51 (p + k) = tm_gof t k w)) (by omega)
        rw [show nI (k + 1) = nI k + 1 from nI_succ k, show bI (decide (A 51 (p + k) = tm_gof t k w)) = kI 1 from by rw [decide_eq_true c2]; rfl] at h9
        rw [hs]
        exact h9
      refine tf_blk _ b_Mod_stands_34 rfl ?_
      refine tf_ic_ge 79 41 d_Mod_stands_38 rfl rfl (fun h38 => absurd h38 (nI_ge (by omega) (by omega))) (fun h38 => ?_)
      refine tf_blk _ b_Mod_stands_41 rfl ?_
      refine tf_if_eq 79 46 d_Mod_stands_43 rfl rfl (fun h43 => absurd h43 (by rw [c1]; decide)) (fun h43 => ?_)
      refine tf_blk _ b_Mod_stands_46 rfl ?_
      refine tm_get 50 d_Mod_stands_47 rfl fl_Mod_116 hT rfl ?_
      refine tf_blk _ b_Mod_stands_50 rfl ?_
      refine tm_iald _ 56 d_Mod_stands_55 rfl hT rfl (hv) ?_
      rw [hc]
      refine tf_blk _ b_Mod_stands_56 rfl ?_
      refine tf_cS (tf_gok _ _) (c_Mod_glyphOf l D q (d - 1) _ _ t (by omega) hw) 63 d_Mod_stands_60 rfl lk_Mod_270 cw_Mod_glyphOf (by rfl) sa_Mod_glyphOf (by omega) (by exact Nat.le_of_ble_eq_true rfl) rfl ?_
      rintro v60 L60 f60 ⟨rfl, rfl, rfl⟩
      refine tf_ic_ne 70 66 d_Mod_stands_63 rfl rfl (fun h63 => ?_) (fun h63 => absurd h63 (c2))
      refine tf_blk _ b_Mod_stands_70 rfl ?_
      refine tf_blk _ b_Mod_stands_71 rfl ?_
      refine tf_goto 34 d_Mod_stands_76 rfl ?_
      have h9 := ih (k + 1) (decide (A 51 (p + k) = tm_gof t k w)) (by omega)
      rw [show nI (k + 1) = nI k + 1 from nI_succ k, show bI (decide (A 51 (p + k) = tm_gof t k w)) = kI 0 from by rw [decide_eq_false c2]; rfl] at h9
      rw [hs]
      exact h9
    refine tf_blk _ b_Mod_stands_34 rfl ?_
    refine tf_ic_ge 79 41 d_Mod_stands_38 rfl rfl (fun h38 => absurd h38 (nI_ge (by omega) (by omega))) (fun h38 => ?_)
    refine tf_blk _ b_Mod_stands_41 rfl ?_
    refine tf_if_eq 79 46 d_Mod_stands_43 rfl rfl (fun h43 => ?_) (fun h43 => absurd (by rw [Bool.eq_false_iff.mpr c1]; rfl) h43)
    refine tf_blk _ b_Mod_stands_79 rfl ?_
    refine tf_zret d_Mod_stands_81 rfl (bI_n _) ?_
    exact ⟨by rw [show tm_std (A 51) t w p (u + 1) k b = false from if_neg c1, Bool.eq_false_iff.mpr c1], rfl, rfl⟩
set_option maxHeartbeats 4000000 in
set_option maxRecDepth 100000 in
theorem c_Mod_stands_f (hd : 2 ≤ d) (hT : tm_at q ad m W0 L J A R f) (t : Int64) {w rs : Nat} (hw : w ≤ 8) (hrs : rs ≤ 60) (h52 : J 52 = nI rs) (x : Int32) (hb : ¬ (¬ x < 0 ∧ ¬ nI rs < x + nI (tm_len t w))) : tf_C l (tf_H D q) d i_Mod_stands [.ref m, .long t, .int (nI w), .int x] L f 0 0 (tf_rd (.int (kI 0)) L f) := by
  have hle : tm_len t w ≤ w := Nat.le_trans (tm_ln_le t w w 0) (by omega)
  refine tf_C.of (tf_gok _ _) (by decide) w_1496 (Nat.le_of_ble_eq_true rfl) ?_
  refine tf_blk _ b_Mod_stands_0 rfl ?_
  refine tf_cS (tf_gok _ _) (c_Mod_lengthOf l D q (d - 1) _ _ (by omega) t hw) 5 d_Mod_stands_2 rfl lk_Mod_274 cw_Mod_lengthOf (by rfl) sa_Mod_lengthOf (by omega) (by exact Nat.le_of_ble_eq_true rfl) rfl ?_
  rintro v2 L2 f2 ⟨rfl, rfl, rfl⟩
  refine tf_blk _ b_Mod_stands_5 rfl ?_
  refine tf_if_lt 28 12 d_Mod_stands_9 rfl rfl (fun h9 => ?_) (fun h9 => ?_)
  · refine tf_blk _ b_Mod_stands_28 rfl ?_
    refine tf_blk _ b_Mod_stands_29 rfl ?_
    by_cases hz : tm_len t w = 0
    · refine tf_blk _ b_Mod_stands_34 rfl ?_
      refine tf_ic_ge 79 41 d_Mod_stands_38 rfl rfl (fun h38 => ?_) (fun h38 => absurd (nI_le (b := 0) (by omega) (by omega)) h38)
      refine tf_blk _ b_Mod_stands_79 rfl ?_
      refine tf_zret d_Mod_stands_81 rfl (rfl) ?_
      exact ⟨rfl, rfl, rfl⟩
    refine tf_blk _ b_Mod_stands_34 rfl ?_
    refine tf_ic_ge 79 41 d_Mod_stands_38 rfl rfl (fun h38 => absurd h38 (nI_ge (a := 0) (by omega) (by omega))) (fun h38 => ?_)
    refine tf_blk _ b_Mod_stands_41 rfl ?_
    refine tf_if_eq 79 46 d_Mod_stands_43 rfl rfl (fun h43 => ?_) (fun h43 => absurd (show kI 0 = 0 by decide) h43)
    refine tf_blk _ b_Mod_stands_79 rfl ?_
    refine tf_zret d_Mod_stands_81 rfl (rfl) ?_
    exact ⟨rfl, rfl, rfl⟩
  · refine tf_blk _ b_Mod_stands_12 rfl ?_
    refine tm_get 21 d_Mod_stands_18 rfl fl_Mod_292 hT rfl ?_
    rw [h52]
    refine tf_ic_gt 28 24 d_Mod_stands_21 rfl rfl (fun h21 => ?_) (fun h21 => ?_)
    · refine tf_blk _ b_Mod_stands_28 rfl ?_
      refine tf_blk _ b_Mod_stands_29 rfl ?_
      by_cases hz : tm_len t w = 0
      · refine tf_blk _ b_Mod_stands_34 rfl ?_
        refine tf_ic_ge 79 41 d_Mod_stands_38 rfl rfl (fun h38 => ?_) (fun h38 => absurd (nI_le (b := 0) (by omega) (by omega)) h38)
        refine tf_blk _ b_Mod_stands_79 rfl ?_
        refine tf_zret d_Mod_stands_81 rfl (rfl) ?_
        exact ⟨rfl, rfl, rfl⟩
      refine tf_blk _ b_Mod_stands_34 rfl ?_
      refine tf_ic_ge 79 41 d_Mod_stands_38 rfl rfl (fun h38 => absurd h38 (nI_ge (a := 0) (by omega) (by omega))) (fun h38 => ?_)
      refine tf_blk _ b_Mod_stands_41 rfl ?_
      refine tf_if_eq 79 46 d_Mod_stands_43 rfl rfl (fun h43 => ?_) (fun h43 => absurd (show kI 0 = 0 by decide) h43)
      refine tf_blk _ b_Mod_stands_79 rfl ?_
      refine tf_zret d_Mod_stands_81 rfl (rfl) ?_
      exact ⟨rfl, rfl, rfl⟩
    · exact absurd ⟨h9, h21⟩ hb
set_option maxHeartbeats 4000000 in
set_option maxRecDepth 100000 in
theorem c_Mod_stands_t (hd : 2 ≤ d) (hT : tm_at q ad m W0 L J A R f) (t : Int64) {w rs : Nat} (hw : w ≤ 8) (hrs : rs ≤ 60) (h52 : J 52 = nI rs) {p : Nat} (hp : p + tm_len t w ≤ rs) : tf_C l (tf_H D q) d i_Mod_stands [.ref m, .long t, .int (nI w), .int (nI p)] L f 0 0 (tf_rd (.int (bI (tm_std (A 51) t w p (tm_len t w) 0 true))) L f) := by
  have hle : tm_len t w ≤ w := Nat.le_trans (tm_ln_le t w w 0) (by omega)
  refine tf_C.of (tf_gok _ _) (by decide) w_1496 (Nat.le_of_ble_eq_true rfl) ?_
  refine tf_blk _ b_Mod_stands_0 rfl ?_
  refine tf_cS (tf_gok _ _) (c_Mod_lengthOf l D q (d - 1) _ _ (by omega) t hw) 5 d_Mod_stands_2 rfl lk_Mod_274 cw_Mod_lengthOf (by rfl) sa_Mod_lengthOf (by omega) (by exact Nat.le_of_ble_eq_true rfl) rfl ?_
  rintro v2 L2 f2 ⟨rfl, rfl, rfl⟩
  refine tf_blk _ b_Mod_stands_5 rfl ?_
  refine tf_if_lt 28 12 d_Mod_stands_9 rfl rfl (fun h9 => absurd h9 (nI_pos (by omega))) (fun h9 => ?_)
  refine tf_blk _ b_Mod_stands_12 rfl ?_
  refine tm_get 21 d_Mod_stands_18 rfl fl_Mod_292 hT rfl ?_
  rw [h52]
  refine tf_ic_gt 28 24 d_Mod_stands_21 rfl rfl (fun h21 => absurd h21 (by rw [nI_add]; exact nI_nlt (by omega) (by omega))) (fun h21 => ?_)
  refine tf_blk _ b_Mod_stands_24 rfl ?_
  refine tf_goto 29 d_Mod_stands_25 rfl ?_
  refine tf_blk _ b_Mod_stands_29 rfl ?_
  exact t_Mod_stands l D q d _ _ (by omega) hT t hw (by omega) (by omega) (tm_len t w) 0 true (by omega)
theorem c_Mod_stands (hd : 2 ≤ d) (hT : tm_at q ad m W0 L J A R f) (t : Int64) {w rs : Nat} (hw : w ≤ 8) (hrs : rs ≤ 60) (h52 : J 52 = nI rs) (x : Int32) (hx : tm_near x) : tf_C l (tf_H D q) d i_Mod_stands [.ref m, .long t, .int (nI w), .int x] L f 0 0 (tf_rd (.int (bI (tm_stands (A 51) rs t w x))) L f) := by
  have hle : tm_len t w ≤ w := Nat.le_trans (tm_ln_le t w w 0) (by omega)
  by_cases hb : ¬ x < 0 ∧ ¬ nI rs < x + nI (tm_len t w)
  · rcases hx with h | ⟨p, hp, rfl⟩
    · exact absurd h hb.1
    · have h2 := hb.2
      rw [nI_add] at h2
      have h3 : p + tm_len t w ≤ rs := by
        rcases Nat.lt_or_ge rs (p + tm_len t w) with h | h
        · exact absurd (nI_lt h (by omega)) h2
        · exact h
      rw [show tm_stands (A 51) rs t w (nI p) = tm_std (A 51) t w p (tm_len t w) 0 true from by rw [tm_stands, if_pos hb, nI_clamp (by omega)]]
      exact c_Mod_stands_t l D q d L f hd hT t hw hrs h52 h3
  · rw [show tm_stands (A 51) rs t w x = false from if_neg hb]
    exact c_Mod_stands_f l D q d L f hd hT t hw hrs h52 x hb
set_option maxHeartbeats 4000000 in
set_option maxRecDepth 100000 in
theorem c_Mod_fitsAt (hd : 3 ≤ d) (hT : tm_at q ad m W0 L J A R f) {rs j p : Nat} (hrs : rs ≤ 60) (h52 : J 52 = nI rs) (hj : j < 40) (hp : p ≤ 100) : tf_C l (tf_H D q) d i_Mod_fitsAt [.ref m, .int (nI j), .int (nI p)] L f 0 0 (tf_rd (.int (bI (tm_fits A R rs j (nI p)))) L f) := by
  have hjv : vp_in (nI j) 40 := vp_in_nI (by omega) (by omega)
  have hjc : (nI j).toNatClampNeg = j := nI_clamp (by omega)
  have l1 : tm_len (R j) 4 ≤ 4 := Nat.le_trans (tm_ln_le _ _ _ _) (by omega)
  have l2 : tm_len (A 44 j).toInt64 2 ≤ 2 := Nat.le_trans (tm_ln_le _ _ _ _) (by omega)
  refine tf_C.of (tf_gok _ _) (by decide) w_1492 (Nat.le_of_ble_eq_true rfl) ?_
  refine tf_blk _ b_Mod_fitsAt_0 rfl ?_
  refine tm_get 4 d_Mod_fitsAt_1 rfl fl_Mod_106 hT rfl ?_
  refine tf_blk _ b_Mod_fitsAt_4 rfl ?_
  refine tm_lald 6 d_Mod_fitsAt_5 rfl hT (hjv) ?_
  rw [hjc]
  refine tf_blk _ b_Mod_fitsAt_6 rfl ?_
  refine tf_cS (tf_gok _ _) (c_Mod_lengthOf l D q (d - 1) _ _ (by omega) (R j) (w := 4) (by decide)) 10 d_Mod_fitsAt_7 rfl lk_Mod_274 cw_Mod_lengthOf (by rfl) sa_Mod_lengthOf (by omega) (by exact Nat.le_of_ble_eq_true rfl) rfl ?_
  rintro v7 L7 f7 ⟨rfl, rfl, rfl⟩
  refine tf_blk _ b_Mod_fitsAt_10 rfl ?_
  refine tm_get 16 d_Mod_fitsAt_13 rfl fl_Mod_106 hT rfl ?_
  refine tf_blk _ b_Mod_fitsAt_16 rfl ?_
  refine tm_lald 18 d_Mod_fitsAt_17 rfl hT (hjv) ?_
  rw [hjc]
  refine tf_blk _ b_Mod_fitsAt_18 rfl ?_
  refine tf_cV (tf_gok _ _) (c_Mod_stands l D q (d - 1) _ _ (by omega) hT (R j) (w := 4) (by decide) hrs h52 (nI p) (Or.inr ⟨p, by omega, rfl⟩)) 23 d_Mod_fitsAt_20 rfl lk_Mod_295 cw_Mod_stands (by rfl) in_Mod_stands se_Mod_stands (by exact hT.1.1) (by exact hT.1.2.1) (by rfl) (by rfl) (by omega) (by exact Nat.le_of_ble_eq_true rfl) rfl ?_
  rintro v20 L20 f20 ⟨rfl, rfl, rfl⟩
  refine tf_if_eq 76 26 d_Mod_fitsAt_23 rfl rfl (fun h23 => ?_) (fun h23 => ?_)
  · refine tf_blk _ b_Mod_fitsAt_76 rfl ?_
    refine tf_zret d_Mod_fitsAt_77 rfl (rfl) ?_
    exact ⟨by (simp only [bI_eq0, Bool.not_eq_false] at h23; simp only [tm_fits, h23, Bool.and_true, Bool.and_false, Bool.false_and]; rfl), rfl, rfl⟩
  · refine tf_blk _ b_Mod_fitsAt_26 rfl ?_
    refine tm_get 31 d_Mod_fitsAt_28 rfl fl_Mod_103 hT rfl ?_
    refine tf_blk _ b_Mod_fitsAt_31 rfl ?_
    refine tm_iald _ 33 d_Mod_fitsAt_32 rfl hT rfl (hjv) ?_
    rw [hjc]
    refine tf_blk _ b_Mod_fitsAt_33 rfl ?_
    refine tm_get 40 d_Mod_fitsAt_37 rfl fl_Mod_103 hT rfl ?_
    refine tf_blk _ b_Mod_fitsAt_40 rfl ?_
    refine tm_iald _ 42 d_Mod_fitsAt_41 rfl hT rfl (hjv) ?_
    rw [hjc]
    refine tf_blk _ b_Mod_fitsAt_42 rfl ?_
    refine tf_cS (tf_gok _ _) (c_Mod_lengthOf l D q (d - 1) _ _ (by omega) (A 44 j).toInt64 (w := 2) (by decide)) 47 d_Mod_fitsAt_44 rfl lk_Mod_274 cw_Mod_lengthOf (by rfl) sa_Mod_lengthOf (by omega) (by exact Nat.le_of_ble_eq_true rfl) rfl ?_
    rintro v44 L44 f44 ⟨rfl, rfl, rfl⟩
    refine tf_blk _ b_Mod_fitsAt_47 rfl ?_
    refine tf_cV (tf_gok _ _) (c_Mod_stands l D q (d - 1) _ _ (by omega) hT (A 44 j).toInt64 (w := 2) (by decide) hrs h52 _ (tm_near_sub (by omega) (by omega))) 51 d_Mod_fitsAt_48 rfl lk_Mod_295 cw_Mod_stands (by rfl) in_Mod_stands se_Mod_stands (by exact hT.1.1) (by exact hT.1.2.1) (by rfl) (by rfl) (by omega) (by exact Nat.le_of_ble_eq_true rfl) rfl ?_
    rintro v48 L48 f48 ⟨rfl, rfl, rfl⟩
    refine tf_if_eq 76 54 d_Mod_fitsAt_51 rfl rfl (fun h51 => ?_) (fun h51 => ?_)
    · refine tf_blk _ b_Mod_fitsAt_76 rfl ?_
      refine tf_zret d_Mod_fitsAt_77 rfl (rfl) ?_
      exact ⟨by (simp only [bI_eq0, Bool.not_eq_false] at h23 h51; simp only [tm_fits, h23, h51, Bool.and_true, Bool.and_false, Bool.false_and]; rfl), rfl, rfl⟩
    · refine tf_blk _ b_Mod_fitsAt_54 rfl ?_
      refine tm_get 59 d_Mod_fitsAt_56 rfl fl_Mod_110 hT rfl ?_
      refine tf_blk _ b_Mod_fitsAt_59 rfl ?_
      refine tm_iald _ 61 d_Mod_fitsAt_60 rfl hT rfl (hjv) ?_
      rw [hjc]
      refine tf_blk _ b_Mod_fitsAt_61 rfl ?_
      refine tf_cV (tf_gok _ _) (c_Mod_stands l D q (d - 1) _ _ (by omega) hT (A 46 j).toInt64 (w := 2) (by decide) hrs h52 _ (tm_near_add (by omega) (by omega))) 69 d_Mod_fitsAt_66 rfl lk_Mod_295 cw_Mod_stands (by rfl) in_Mod_stands se_Mod_stands (by exact hT.1.1) (by exact hT.1.2.1) (by rfl) (by rfl) (by omega) (by exact Nat.le_of_ble_eq_true rfl) rfl ?_
      rintro v66 L66 f66 ⟨rfl, rfl, rfl⟩
      refine tf_if_eq 76 72 d_Mod_fitsAt_69 rfl rfl (fun h69 => ?_) (fun h69 => ?_)
      · refine tf_blk _ b_Mod_fitsAt_76 rfl ?_
        refine tf_zret d_Mod_fitsAt_77 rfl (rfl) ?_
        exact ⟨by (simp only [bI_eq0, Bool.not_eq_false] at h23 h51 h69; simp only [tm_fits, h23, h51, h69, Bool.and_true, Bool.and_false, Bool.false_and]; rfl), rfl, rfl⟩
      · refine tf_blk _ b_Mod_fitsAt_72 rfl ?_
        refine tf_goto 77 d_Mod_fitsAt_73 rfl ?_
        refine tf_zret d_Mod_fitsAt_77 rfl (rfl) ?_
        exact ⟨by (simp only [bI_eq0, Bool.not_eq_false] at h23 h51 h69; simp only [tm_fits, h23, h51, h69, Bool.and_true, Bool.and_false, Bool.false_and]; rfl), rfl, rfl⟩
set_option maxHeartbeats 4000000 in
set_option maxRecDepth 100000 in
theorem t_Mod_bestRule (hd : 4 ≤ d) (hT : tm_at q ad m W0 L J A R f) {rs p rn : Nat} (hrs : rs ≤ 60) (h52 : J 52 = nI rs) (hrn : rn ≤ 40) (h47 : J 47 = nI rn) (hp : p ≤ 100) (lo : Int32) : ∀ u r (b n : Int32), r + u = rn → tf_W l (tf_H D q) tf_T (tf_QM (tf_H D q) (tf_rd (.int (tm_bst A R rs lo (nI p) u r b n)) L f)) d i_Mod_bestRule 8 [(0, .ref m), (1, .int lo), (2, .int (nI p)), (3, .int b), (4, .int n), (5, .int (nI r))] [] L f 0 0 := by
  intro u
  induction u with
  | zero =>
    intro r b n hr
    refine tf_blk _ b_Mod_bestRule_8 rfl ?_
    refine tm_get 14 d_Mod_bestRule_11 rfl fl_Mod_282 hT rfl ?_
    rw [h47]
    refine tf_ic_ge 71 17 d_Mod_bestRule_14 rfl rfl (fun h14 => ?_) (fun h14 => absurd (nI_le (by omega) (by omega)) h14)
    refine tf_blk _ b_Mod_bestRule_71 rfl ?_
    refine tf_iret d_Mod_bestRule_72 rfl ?_
    exact ⟨rfl, rfl, rfl⟩
  | succ u ih =>
    intro r b n hr
    have hv : vp_in (nI r) 40 := vp_in_nI (by omega) (by omega)
    have hc : (nI r).toNatClampNeg = r := nI_clamp (by omega)
    by_cases c1 : A 42 r = lo
    · by_cases c2 : n < nI (tm_len (R r) 4)
      · by_cases c3 : tm_fits A R rs r (nI p) = true
        · refine tf_blk _ b_Mod_bestRule_8 rfl ?_
          refine tm_get 14 d_Mod_bestRule_11 rfl fl_Mod_282 hT rfl ?_
          rw [h47]
          refine tf_ic_ge 71 17 d_Mod_bestRule_14 rfl rfl (fun h14 => absurd h14 (nI_ge (by omega) (by omega))) (fun h14 => ?_)
          refine tf_blk _ b_Mod_bestRule_17 rfl ?_
          refine tm_get 21 d_Mod_bestRule_18 rfl fl_Mod_106 hT rfl ?_
          refine tf_blk _ b_Mod_bestRule_21 rfl ?_
          refine tm_lald 24 d_Mod_bestRule_23 rfl hT (hv) ?_
          rw [hc]
          refine tf_blk _ b_Mod_bestRule_24 rfl ?_
          refine tf_cS (tf_gok _ _) (c_Mod_lengthOf l D q (d - 1) _ _ (by omega) (R r) (w := 4) (by decide)) 28 d_Mod_bestRule_25 rfl lk_Mod_274 cw_Mod_lengthOf (by rfl) sa_Mod_lengthOf (by omega) (by exact Nat.le_of_ble_eq_true rfl) rfl ?_
          rintro v25 L25 f25 ⟨rfl, rfl, rfl⟩
          refine tf_blk _ b_Mod_bestRule_28 rfl ?_
          refine tm_get 34 d_Mod_bestRule_31 rfl fl_Mod_97 hT rfl ?_
          refine tf_blk _ b_Mod_bestRule_34 rfl ?_
          refine tm_iald _ 37 d_Mod_bestRule_36 rfl hT rfl (hv) ?_
          rw [hc]
          refine tf_blk _ b_Mod_bestRule_37 rfl ?_
          refine tf_ic_ne 65 41 d_Mod_bestRule_38 rfl rfl (fun h38 => absurd h38 (not_not_intro c1)) (fun h38 => ?_)
          refine tf_blk _ b_Mod_bestRule_41 rfl ?_
          refine tf_ic_le 65 48 d_Mod_bestRule_45 rfl rfl (fun h45 => absurd h45 (Int32.not_le.mpr c2)) (fun h45 => ?_)
          refine tf_blk _ b_Mod_bestRule_48 rfl ?_
          refine tf_cV (tf_gok _ _) (c_Mod_fitsAt l D q (d - 1) _ _ (by omega) hT hrs h52 (by omega) hp) 55 d_Mod_bestRule_52 rfl lk_Mod_299 cw_Mod_fitsAt (by rfl) in_Mod_fitsAt se_Mod_fitsAt (by exact hT.1.1) (by exact hT.1.2.1) (by rfl) (by rfl) (by omega) (by exact Nat.le_of_ble_eq_true rfl) rfl ?_
          rintro v52 L52 f52 ⟨rfl, rfl, rfl⟩
          refine tf_if_eq 65 58 d_Mod_bestRule_55 rfl rfl (fun h55 => absurd h55 (by rw [c3]; decide)) (fun h55 => ?_)
          refine tf_blk _ b_Mod_bestRule_58 rfl ?_
          refine tf_blk _ b_Mod_bestRule_65 rfl ?_
          refine tf_goto 8 d_Mod_bestRule_68 rfl ?_
          refine tf_drop [0, 1, 2, 3, 4, 5] rfl ?_
          have h9 := ih (r + 1) (nI r) (nI (tm_len (R r) 4)) (by omega)
          rw [show nI (r + 1) = nI r + 1 from nI_succ r] at h9
          rw [show tm_bst A R rs lo (nI p) (u + 1) r b n = tm_bst A R rs lo (nI p) u (r + 1) (nI r) (nI (tm_len (R r) 4)) from if_pos ⟨c1, c2, c3⟩]
          exact h9
        refine tf_blk _ b_Mod_bestRule_8 rfl ?_
        refine tm_get 14 d_Mod_bestRule_11 rfl fl_Mod_282 hT rfl ?_
        rw [h47]
        refine tf_ic_ge 71 17 d_Mod_bestRule_14 rfl rfl (fun h14 => absurd h14 (nI_ge (by omega) (by omega))) (fun h14 => ?_)
        refine tf_blk _ b_Mod_bestRule_17 rfl ?_
        refine tm_get 21 d_Mod_bestRule_18 rfl fl_Mod_106 hT rfl ?_
        refine tf_blk _ b_Mod_bestRule_21 rfl ?_
        refine tm_lald 24 d_Mod_bestRule_23 rfl hT (hv) ?_
        rw [hc]
        refine tf_blk _ b_Mod_bestRule_24 rfl ?_
        refine tf_cS (tf_gok _ _) (c_Mod_lengthOf l D q (d - 1) _ _ (by omega) (R r) (w := 4) (by decide)) 28 d_Mod_bestRule_25 rfl lk_Mod_274 cw_Mod_lengthOf (by rfl) sa_Mod_lengthOf (by omega) (by exact Nat.le_of_ble_eq_true rfl) rfl ?_
        rintro v25 L25 f25 ⟨rfl, rfl, rfl⟩
        refine tf_blk _ b_Mod_bestRule_28 rfl ?_
        refine tm_get 34 d_Mod_bestRule_31 rfl fl_Mod_97 hT rfl ?_
        refine tf_blk _ b_Mod_bestRule_34 rfl ?_
        refine tm_iald _ 37 d_Mod_bestRule_36 rfl hT rfl (hv) ?_
        rw [hc]
        refine tf_blk _ b_Mod_bestRule_37 rfl ?_
        refine tf_ic_ne 65 41 d_Mod_bestRule_38 rfl rfl (fun h38 => absurd h38 (not_not_intro c1)) (fun h38 => ?_)
        refine tf_blk _ b_Mod_bestRule_41 rfl ?_
        refine tf_ic_le 65 48 d_Mod_bestRule_45 rfl rfl (fun h45 => absurd h45 (Int32.not_le.mpr c2)) (fun h45 => ?_)
        refine tf_blk _ b_Mod_bestRule_48 rfl ?_
        refine tf_cV (tf_gok _ _) (c_Mod_fitsAt l D q (d - 1) _ _ (by omega) hT hrs h52 (by omega) hp) 55 d_Mod_bestRule_52 rfl lk_Mod_299 cw_Mod_fitsAt (by rfl) in_Mod_fitsAt se_Mod_fitsAt (by exact hT.1.1) (by exact hT.1.2.1) (by rfl) (by rfl) (by omega) (by exact Nat.le_of_ble_eq_true rfl) rfl ?_
        rintro v52 L52 f52 ⟨rfl, rfl, rfl⟩
        refine tf_if_eq 65 58 d_Mod_bestRule_55 rfl rfl (fun h55 => ?_) (fun h55 => absurd (by rw [Bool.eq_false_iff.mpr c3]; rfl) h55)
        refine tf_blk _ b_Mod_bestRule_65 rfl ?_
        refine tf_goto 8 d_Mod_bestRule_68 rfl ?_
        refine tf_drop [0, 1, 2, 3, 4, 5] rfl ?_
        have h9 := ih (r + 1) b n (by omega)
        rw [show nI (r + 1) = nI r + 1 from nI_succ r] at h9
        rw [show tm_bst A R rs lo (nI p) (u + 1) r b n = tm_bst A R rs lo (nI p) u (r + 1) b n from if_neg (fun z => c3 z.2.2)]
        exact h9
      refine tf_blk _ b_Mod_bestRule_8 rfl ?_
      refine tm_get 14 d_Mod_bestRule_11 rfl fl_Mod_282 hT rfl ?_
      rw [h47]
      refine tf_ic_ge 71 17 d_Mod_bestRule_14 rfl rfl (fun h14 => absurd h14 (nI_ge (by omega) (by omega))) (fun h14 => ?_)
      refine tf_blk _ b_Mod_bestRule_17 rfl ?_
      refine tm_get 21 d_Mod_bestRule_18 rfl fl_Mod_106 hT rfl ?_
      refine tf_blk _ b_Mod_bestRule_21 rfl ?_
      refine tm_lald 24 d_Mod_bestRule_23 rfl hT (hv) ?_
      rw [hc]
      refine tf_blk _ b_Mod_bestRule_24 rfl ?_
      refine tf_cS (tf_gok _ _) (c_Mod_lengthOf l D q (d - 1) _ _ (by omega) (R r) (w := 4) (by decide)) 28 d_Mod_bestRule_25 rfl lk_Mod_274 cw_Mod_lengthOf (by rfl) sa_Mod_lengthOf (by omega) (by exact Nat.le_of_ble_eq_true rfl) rfl ?_
      rintro v25 L25 f25 ⟨rfl, rfl, rfl⟩
      refine tf_blk _ b_Mod_bestRule_28 rfl ?_
      refine tm_get 34 d_Mod_bestRule_31 rfl fl_Mod_97 hT rfl ?_
      refine tf_blk _ b_Mod_bestRule_34 rfl ?_
      refine tm_iald _ 37 d_Mod_bestRule_36 rfl hT rfl (hv) ?_
      rw [hc]
      refine tf_blk _ b_Mod_bestRule_37 rfl ?_
      refine tf_ic_ne 65 41 d_Mod_bestRule_38 rfl rfl (fun h38 => absurd h38 (not_not_intro c1)) (fun h38 => ?_)
      refine tf_blk _ b_Mod_bestRule_41 rfl ?_
      refine tf_ic_le 65 48 d_Mod_bestRule_45 rfl rfl (fun h45 => ?_) (fun h45 => absurd (Int32.not_lt.mp c2) h45)
      refine tf_blk _ b_Mod_bestRule_65 rfl ?_
      refine tf_goto 8 d_Mod_bestRule_68 rfl ?_
      refine tf_drop [0, 1, 2, 3, 4, 5] rfl ?_
      have h9 := ih (r + 1) b n (by omega)
      rw [show nI (r + 1) = nI r + 1 from nI_succ r] at h9
      rw [show tm_bst A R rs lo (nI p) (u + 1) r b n = tm_bst A R rs lo (nI p) u (r + 1) b n from if_neg (fun z => c2 z.2.1)]
      exact h9
    refine tf_blk _ b_Mod_bestRule_8 rfl ?_
    refine tm_get 14 d_Mod_bestRule_11 rfl fl_Mod_282 hT rfl ?_
    rw [h47]
    refine tf_ic_ge 71 17 d_Mod_bestRule_14 rfl rfl (fun h14 => absurd h14 (nI_ge (by omega) (by omega))) (fun h14 => ?_)
    refine tf_blk _ b_Mod_bestRule_17 rfl ?_
    refine tm_get 21 d_Mod_bestRule_18 rfl fl_Mod_106 hT rfl ?_
    refine tf_blk _ b_Mod_bestRule_21 rfl ?_
    refine tm_lald 24 d_Mod_bestRule_23 rfl hT (hv) ?_
    rw [hc]
    refine tf_blk _ b_Mod_bestRule_24 rfl ?_
    refine tf_cS (tf_gok _ _) (c_Mod_lengthOf l D q (d - 1) _ _ (by omega) (R r) (w := 4) (by decide)) 28 d_Mod_bestRule_25 rfl lk_Mod_274 cw_Mod_lengthOf (by rfl) sa_Mod_lengthOf (by omega) (by exact Nat.le_of_ble_eq_true rfl) rfl ?_
    rintro v25 L25 f25 ⟨rfl, rfl, rfl⟩
    refine tf_blk _ b_Mod_bestRule_28 rfl ?_
    refine tm_get 34 d_Mod_bestRule_31 rfl fl_Mod_97 hT rfl ?_
    refine tf_blk _ b_Mod_bestRule_34 rfl ?_
    refine tm_iald _ 37 d_Mod_bestRule_36 rfl hT rfl (hv) ?_
    rw [hc]
    refine tf_blk _ b_Mod_bestRule_37 rfl ?_
    refine tf_ic_ne 65 41 d_Mod_bestRule_38 rfl rfl (fun h38 => ?_) (fun h38 => absurd h38 (c1))
    refine tf_blk _ b_Mod_bestRule_65 rfl ?_
    refine tf_goto 8 d_Mod_bestRule_68 rfl ?_
    refine tf_drop [0, 1, 2, 3, 4, 5] rfl ?_
    have h9 := ih (r + 1) b n (by omega)
    rw [show nI (r + 1) = nI r + 1 from nI_succ r] at h9
    rw [show tm_bst A R rs lo (nI p) (u + 1) r b n = tm_bst A R rs lo (nI p) u (r + 1) b n from if_neg (fun z => c1 z.1)]
    exact h9
set_option maxHeartbeats 4000000 in
set_option maxRecDepth 100000 in
theorem c_Mod_bestRule (hd : 4 ≤ d) (hT : tm_at q ad m W0 L J A R f) {rs p rn : Nat} (hrs : rs ≤ 60) (h52 : J 52 = nI rs) (hrn : rn ≤ 40) (h47 : J 47 = nI rn) (hp : p ≤ 100) (lo : Int32) : tf_C l (tf_H D q) d i_Mod_bestRule [.ref m, .int lo, .int (nI p)] L f 0 0 (tf_rd (.int (tm_bst A R rs lo (nI p) rn 0 (kI (-1)) (kI 0))) L f) := by
  refine tf_C.of (tf_gok _ _) (by decide) w_1488 (Nat.le_of_ble_eq_true rfl) ?_
  refine tf_blk _ b_Mod_bestRule_0 rfl ?_
  exact t_Mod_bestRule l D q d _ _ hd hT hrs h52 hrn h47 hp lo rn 0 (kI (-1)) (kI 0) (by omega)
end
