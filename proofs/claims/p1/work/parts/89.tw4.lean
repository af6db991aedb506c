/-! the reference: rows of rules -/
def tm_by (t : Int64) (k : Int32) : Int64 := t >>> ((kI 8 * k).toInt64 &&& 63) &&& 255
/-- glyph k of a row, of which no byte from j on, m of them, may be 0 -/
def tm_go (t : Int64) (k most : Nat) : Nat → Nat → Int32
  | 0, _ => if k < most then (tm_by t (nI k)).toInt32 - kI 1 else kI (-1)
  | m + 1, j => if lg_cmp (tm_by t (nI j)) 0 = 0 then kI (-1) else tm_go t k most m (j + 1)
abbrev tm_gof (t : Int64) (k most : Nat) : Int32 := tm_go t k most k 0
theorem tm_go_no (t : Int64) {k most : Nat} (h : ¬ k < most) : ∀ m j, tm_go t k most m j = kI (-1) := by
  intro m
  induction m with
  | zero => intro j; exact if_neg h
  | succ m ih =>
    intro j
    rw [tm_go]
    split
    · rfl
    · exact ih (j + 1)
def tm_ln (t : Int64) (most : Nat) : Nat → Nat → Nat
  | 0, n => n
  | m + 1, n => if tm_gof t n most < 0 then n else tm_ln t most m (n + 1)
theorem tm_ln_le (t : Int64) (most : Nat) : ∀ m n, tm_ln t most m n ≤ n + m := by
  intro m
  induction m with
  | zero => intro n; exact Nat.le_refl _
  | succ m ih =>
    intro n
    rw [tm_ln]
    split
    · omega
    · have := ih (n + 1)
      omega
abbrev tm_len (t : Int64) (most : Nat) : Nat := tm_ln t most most 0
def tm_row (J : Nat → Int32) (t : Int64) (most : Nat) : Nat → Nat → Bool → Bool
  | 0, _, b => b
  | m + 1, k, b => tm_row J t most m (k + 1) (b && tm_isG J (tm_gof t k most))
section
variable (l : Launch) (D : va_G) (q : Nat → ClassId) (d : Nat) (L : List Nat) (f : tf_F) {ad : Nat → Nat} {m : Nat} {W0 : tf_F} {J : Nat → Int32} {A : Nat → Nat → Int32} {R : Nat → Int64}
set_option maxHeartbeats 4000000 in
set_option maxRecDepth 100000 in
theorem t_Mod_glyphOf (t : Int64) {k w : Nat} (hk : k ≤ 8) (hw : w ≤ 8) : ∀ m j, j + m = k → tf_W l (tf_H D q) tf_T (tf_QM (tf_H D q) (tf_rd (.int (tm_go t k w m j)) L f)) d i_Mod_glyphOf 3 [(0, .long t), (2, .int (nI k)), (3, .int (nI w)), (4, .int (nI j))] [] L f 0 0 := by
  intro m
  induction m with
  | zero =>
    intro j hj
    by_cases c1 : k < w
    · refine tf_blk _ b_Mod_glyphOf_3 rfl ?_
      refine tf_ic_ge 33 9 d_Mod_glyphOf_6 rfl rfl (fun h6 => ?_) (fun h6 => absurd (nI_le (by omega) (by omega)) h6)
      refine tf_blk _ b_Mod_glyphOf_33 rfl ?_
      refine tf_ic_lt 42 38 d_Mod_glyphOf_35 rfl rfl (fun h35 => ?_) (fun h35 => absurd ((nI_ltI (by omega) (by omega)).mpr c1) h35)
      refine tf_blk _ b_Mod_glyphOf_42 rfl ?_
      refine tf_ldc2 51 d_Mod_glyphOf_48 rfl w_1437 ?_
      refine tf_blk _ b_Mod_glyphOf_51 rfl ?_
      refine tf_iret d_Mod_glyphOf_55 rfl ?_
      exact ⟨by rw [tm_go, if_pos c1]; rfl, rfl, rfl⟩
    refine tf_blk _ b_Mod_glyphOf_3 rfl ?_
    refine tf_ic_ge 33 9 d_Mod_glyphOf_6 rfl rfl (fun h6 => ?_) (fun h6 => absurd (nI_le (by omega) (by omega)) h6)
    refine tf_blk _ b_Mod_glyphOf_33 rfl ?_
    refine tf_ic_lt 42 38 d_Mod_glyphOf_35 rfl rfl (fun h35 => absurd h35 (fun z => c1 ((nI_ltI (by omega) (by omega)).mp z))) (fun h35 => ?_)
    refine tf_blk _ b_Mod_glyphOf_38 rfl ?_
    refine tf_goto 55 d_Mod_glyphOf_39 rfl ?_
    refine tf_iret d_Mod_glyphOf_55 rfl ?_
    exact ⟨by rw [tm_go, if_neg c1], rfl, rfl⟩
  | succ m ih =>
    intro j hj
    refine tf_blk _ b_Mod_glyphOf_3 rfl ?_
    refine tf_ic_ge 33 9 d_Mod_glyphOf_6 rfl rfl (fun h6 => absurd h6 (nI_ge (by omega) (by omega))) (fun h6 => ?_)
    refine tf_blk _ b_Mod_glyphOf_9 rfl ?_
    refine tf_ldc2 19 d_Mod_glyphOf_16 rfl w_1437 ?_
    refine tf_blk _ b_Mod_glyphOf_19 rfl ?_
    refine tf_if_ne 27 25 d_Mod_glyphOf_22 rfl rfl (fun h22 => ?_) (fun h22 => ?_)
    · refine tf_blk _ b_Mod_glyphOf_27 rfl ?_
      refine tf_goto 3 d_Mod_glyphOf_30 rfl ?_
      rw [show tm_go t k w (m + 1) j = tm_go t k w m (j + 1) from if_neg h22]
      have h9 := ih (j + 1) (by omega)
      rw [nI_succ] at h9
      exact h9
    · refine tf_blk _ b_Mod_glyphOf_25 rfl ?_
      refine tf_iret d_Mod_glyphOf_26 rfl ?_
      exact ⟨by rw [show tm_go t k w (m + 1) j = kI (-1) from if_pos h22], rfl, rfl⟩
set_option maxHeartbeats 4000000 in
set_option maxRecDepth 100000 in
theorem c_Mod_glyphOf (t : Int64) {k w : Nat} (hk : k ≤ 8) (hw : w ≤ 8) : tf_C l (tf_H D q) d i_Mod_glyphOf [.long t, .int (nI k), .int (nI w)] L f 0 0 (tf_rd (.int (tm_gof t k w)) L f) := by
  refine tf_C.of (tf_gok _ _) (by decide) w_1470 (Nat.le_of_ble_eq_true rfl) ?_
  refine tf_blk _ b_Mod_glyphOf_0 rfl ?_
  exact t_Mod_glyphOf l D q d L f t hk hw k 0 (by omega)
set_option maxHeartbeats 4000000 in
set_option maxRecDepth 100000 in
theorem t_Mod_lengthOf (hd : 1 ≤ d) (t : Int64) {w : Nat} (hw : w ≤ 8) : ∀ m n, n + m = w → tf_W l (tf_H D q) tf_T (tf_QM (tf_H D q) (tf_rd (.int (nI (tm_ln t w m n))) L f)) d i_Mod_lengthOf 2 [(0, .long t), (2, .int (nI w)), (3, .int (nI n))] [] L f 0 0 := by
  intro m
  induction m with
  | zero =>
    intro n hn
    refine tf_blk _ b_Mod_lengthOf_2 rfl ?_
    refine tf_cS (tf_gok _ _) (c_Mod_glyphOf l D q (d - 1) _ _ t (by omega) hw) 8 d_Mod_lengthOf_5 rfl lk_Mod_270 cw_Mod_glyphOf (by rfl) sa_Mod_glyphOf (by omega) (by exact Nat.le_of_ble_eq_true rfl) rfl ?_
    rintro v5 L5 f5 ⟨rfl, rfl, rfl⟩
    refine tf_if_lt 17 11 d_Mod_lengthOf_8 rfl rfl (fun h8 => ?_) (fun h8 => absurd (by rw [show tm_gof t n w = kI (-1) from tm_go_no t (by omega) n 0]; decide) h8)
    refine tf_blk _ b_Mod_lengthOf_17 rfl ?_
    refine tf_iret d_Mod_lengthOf_18 rfl ?_
    exact ⟨rfl, rfl, rfl⟩
  | succ m ih =>
    intro n hn
    refine tf_blk _ b_Mod_lengthOf_2 rfl ?_
    refine tf_cS (tf_gok _ _) (c_Mod_glyphOf l D q (d - 1) _ _ t (by omega) hw) 8 d_Mod_lengthOf_5 rfl lk_Mod_270 cw_Mod_glyphOf (by rfl) sa_Mod_glyphOf (by omega) (by exact Nat.le_of_ble_eq_true rfl) rfl ?_
    rintro v5 L5 f5 ⟨rfl, rfl, rfl⟩
    refine tf_if_lt 17 11 d_Mod_lengthOf_8 rfl rfl (fun h8 => ?_) (fun h8 => ?_)
    · refine tf_blk _ b_Mod_lengthOf_17 rfl ?_
      refine tf_iret d_Mod_lengthOf_18 rfl ?_
      exact ⟨by rw [show tm_ln t w (m + 1) n = n from if_pos h8], rfl, rfl⟩
    · refine tf_blk _ b_Mod_lengthOf_11 rfl ?_
      refine tf_goto 2 d_Mod_lengthOf_14 rfl ?_
      rw [show tm_ln t w (m + 1) n = tm_ln t w m (n + 1) from if_neg h8]
      have h9 := ih (n + 1) (by omega)
      rw [nI_succ] at h9
      exact h9
set_option maxHeartbeats 4000000 in
set_option maxRecDepth 100000 in
theorem c_Mod_lengthOf (hd : 1 ≤ d) (t : Int64) {w : Nat} (hw : w ≤ 8) : tf_C l (tf_H D q) d i_Mod_lengthOf [.long t, .int (nI w)] L f 0 0 (tf_rd (.int (nI (tm_len t w))) L f) := by
  refine tf_C.of (tf_gok _ _) (by decide) w_1467 (Nat.le_of_ble_eq_true rfl) ?_
  refine tf_blk _ b_Mod_lengthOf_0 rfl ?_
  exact t_Mod_lengthOf l D q d L f hd t hw w 0 (by omega)
set_option maxHeartbeats 4000000 in
set_option maxRecDepth 100000 in
theorem t_Mod_isRow (hd : 2 ≤ d) (hT : tm_at q ad m W0 L J A R f) (t : Int64) {w : Nat} (hw : w ≤ 8) : ∀ u k (b : Bool), k + u = tm_len t w → tf_W l (tf_H D q) tf_T (tf_QM (tf_H D q) (tf_rd (.int (bI (tm_row J t w u k b))) L f)) d i_Mod_isRow 6 [(0, .ref m), (1, .long t), (3, .int (nI w)), (4, .int (bI b)), (5, .int (nI k))] [] L f 0 0 := by
  have hle : tm_len t w ≤ w := Nat.le_trans (tm_ln_le t w w 0) (by omega)
  intro u
  induction u with
  | zero =>
    intro k b hk
    refine tf_blk _ b_Mod_isRow_6 rfl ?_
    refine tf_cS (tf_gok _ _) (c_Mod_lengthOf l D q (d - 1) _ _ (by omega) t hw) 13 d_Mod_isRow_10 rfl lk_Mod_274 cw_Mod_lengthOf (by rfl) sa_Mod_lengthOf (by omega) (by exact Nat.le_of_ble_eq_true rfl) rfl ?_
    rintro v10 L10 f10 ⟨rfl, rfl, rfl⟩
    refine tf_ic_ge 48 16 d_Mod_isRow_13 rfl rfl (fun h13 => ?_) (fun h13 => absurd (nI_le (by omega) (by omega)) h13)
    refine tf_blk _ b_Mod_isRow_48 rfl ?_
    refine tf_zret d_Mod_isRow_50 rfl (bI_n _) ?_
    exact ⟨rfl, rfl, rfl⟩
  | succ u ih =>
    intro k b hk
    by_cases c1 : b = true
    · by_cases c2 : tm_isG J (tm_gof t k w) = true
      · refine tf_blk _ b_Mod_isRow_6 rfl ?_
        refine tf_cS (tf_gok _ _) (c_Mod_lengthOf l D q (d - 1) _ _ (by omega) t hw) 13 d_Mod_isRow_10 rfl lk_Mod_274 cw_Mod_lengthOf (by rfl) sa_Mod_lengthOf (by omega) (by exact Nat.le_of_ble_eq_true rfl) rfl ?_
        rintro v10 L10 f10 ⟨rfl, rfl, rfl⟩
        refine tf_ic_ge 48 16 d_Mod_isRow_13 rfl rfl (fun h13 => absurd h13 (nI_ge (by omega) (by omega))) (fun h13 => ?_)
        refine tf_blk _ b_Mod_isRow_16 rfl ?_
        refine tf_if_eq 39 21 d_Mod_isRow_18 rfl rfl (fun h18 => absurd h18 (by rw [c1]; decide)) (fun h18 => ?_)
        refine tf_blk _ b_Mod_isRow_21 rfl ?_
        refine tf_cS (tf_gok _ _) (c_Mod_glyphOf l D q (d - 1) _ _ t (by omega) hw) 29 d_Mod_isRow_26 rfl lk_Mod_270 cw_Mod_glyphOf (by rfl) sa_Mod_glyphOf (by omega) (by exact Nat.le_of_ble_eq_true rfl) rfl ?_
        rintro v26 L26 f26 ⟨rfl, rfl, rfl⟩
        refine tf_cV (tf_gok _ _) (c_Mod_isGlyph l D q (d - 1) _ _ hT _) 32 d_Mod_isRow_29 rfl lk_Mod_148 cw_Mod_isGlyph (by rfl) in_Mod_isGlyph se_Mod_isGlyph (by exact hT.1.1) (by exact hT.1.2.1) (by rfl) (by rfl) (by omega) (by exact Nat.le_of_ble_eq_true rfl) rfl ?_
        rintro v29 L29 f29 ⟨rfl, rfl, rfl⟩
        refine tf_if_eq 39 35 d_Mod_isRow_32 rfl rfl (fun h32 => absurd h32 (by rw [c2]; decide)) (fun h32 => ?_)
        refine tf_blk _ b_Mod_isRow_35 rfl ?_
        refine tf_goto 40 d_Mod_isRow_36 rfl ?_
        refine tf_blk _ b_Mod_isRow_40 rfl ?_
        refine tf_goto 6 d_Mod_isRow_45 rfl ?_
        have h9 := ih (k + 1) (b && tm_isG J (tm_gof t k w)) (by omega)
        rw [nI_succ, show bI (b && tm_isG J (tm_gof t k w)) = kI 1 from by rw [c1, c2]; rfl] at h9
        exact h9
      refine tf_blk _ b_Mod_isRow_6 rfl ?_
      refine tf_cS (tf_gok _ _) (c_Mod_lengthOf l D q (d - 1) _ _ (by omega) t hw) 13 d_Mod_isRow_10 rfl lk_Mod_274 cw_Mod_lengthOf (by rfl) sa_Mod_lengthOf (by omega) (by exact Nat.le_of_ble_eq_true rfl) rfl ?_
      rintro v10 L10 f10 ⟨rfl, rfl, rfl⟩
      refine tf_ic_ge 48 16 d_Mod_isRow_13 rfl rfl (fun h13 => absurd h13 (nI_ge (by omega) (by omega))) (fun h13 => ?_)
      refine tf_blk _ b_Mod_isRow_16 rfl ?_
      refine tf_if_eq 39 21 d_Mod_isRow_18 rfl rfl (fun h18 => absurd h18 (by rw [c1]; decide)) (fun h18 => ?_)
      refine tf_blk _ b_Mod_isRow_21 rfl ?_
      refine tf_cS (tf_gok _ _) (c_Mod_glyphOf l D q (d - 1) _ _ t (by omega) hw) 29 d_Mod_isRow_26 rfl lk_Mod_270 cw_Mod_glyphOf (by rfl) sa_Mod_glyphOf (by omega) (by exact Nat.le_of_ble_eq_true rfl) rfl ?_
      rintro v26 L26 f26 ⟨rfl, rfl, rfl⟩
      refine tf_cV (tf_gok _ _) (c_Mod_isGlyph l D q (d - 1) _ _ hT _) 32 d_Mod_isRow_29 rfl lk_Mod_148 cw_Mod_isGlyph (by rfl) in_Mod_isGlyph se_Mod_isGlyph (by exact hT.1.1) (by exact hT.1.2.1) (by rfl) (by rfl) (by omega) (by exact Nat.le_of_ble_eq_true rfl) rfl ?_
      rintro v29 L29 f29 ⟨rfl, rfl, rfl⟩
      refine tf_if_eq 39 35 d_Mod_isRow_32 rfl rfl (fun h32 => ?_) (fun h32 => absurd (by rw [Bool.eq_false_iff.mpr c2]; rfl) h32)
      refine tf_blk _ b_Mod_isRow_39 rfl ?_
      refine tf_blk _ b_Mod_isRow_40 rfl ?_
      refine tf_goto 6 d_Mod_isRow_45 rfl ?_
      have h9 := ih (k + 1) (b && tm_isG J (tm_gof t k w)) (by omega)
      rw [nI_succ, show bI (b && tm_isG J (tm_gof t k w)) = kI 0 from by rw [c1, Bool.eq_false_iff.mpr c2]; rfl] at h9
      exact h9
    refine tf_blk _ b_Mod_isRow_6 rfl ?_
    refine tf_cS (tf_gok _ _) (c_Mod_lengthOf l D q (d - 1) _ _ (by omega) t hw) 13 d_Mod_isRow_10 rfl lk_Mod_274 cw_Mod_lengthOf (by rfl) sa_Mod_lengthOf (by omega) (by exact Nat.le_of_ble_eq_true rfl) rfl ?_
    rintro v10 L10 f10 ⟨rfl, rfl, rfl⟩
    refine tf_ic_ge 48 16 d_Mod_isRow_13 rfl rfl (fun h13 => absurd h13 (nI_ge (by omega) (by omega))) (fun h13 => ?_)
    refine tf_blk _ b_Mod_isRow_16 rfl ?_
    refine tf_if_eq 39 21 d_Mod_isRow_18 rfl rfl (fun h18 => ?_) (fun h18 => absurd (by rw [Bool.eq_false_iff.mpr c1]; rfl) h18)
    refine tf_blk _ b_Mod_isRow_39 rfl ?_
    refine tf_blk _ b_Mod_isRow_40 rfl ?_
    refine tf_goto 6 d_Mod_isRow_45 rfl ?_
    have h9 := ih (k + 1) (b && tm_isG J (tm_gof t k w)) (by omega)
    rw [nI_succ, show bI (b && tm_isG J (tm_gof t k w)) = kI 0 from by rw [Bool.eq_false_iff.mpr c1]; rfl] at h9
    exact h9
set_option maxHeartbeats 4000000 in
set_option maxRecDepth 100000 in
theorem c_Mod_isRow (hd : 2 ≤ d) (hT : tm_at q ad m W0 L J A R f) (t : Int64) {w : Nat} (hw : w ≤ 8) : tf_C l (tf_H D q) d i_Mod_isRow [.ref m, .long t, .int (nI w)] L f 0 0 (tf_rd (.int (bI (tm_row J t w (tm_len t w) 0 true))) L f) := by
  refine tf_C.of (tf_gok _ _) (by decide) w_1474 (Nat.le_of_ble_eq_true rfl) ?_
  refine tf_blk _ b_Mod_isRow_0 rfl ?_
  exact t_Mod_isRow l D q d L f hd hT t hw (tm_len t w) 0 true (by omega)
set_option maxHeartbeats 4000000 in
set_option maxRecDepth 100000 in
theorem c_Mod_rule_n (hd : 3 ≤ d) (hT : tm_at q ad m W0 L J A R f) (lo ou : Int32) (be ip af : Int64) (hG : tm_isG J ou = false) : tf_C l (tf_H D q) d i_Mod_rule [.ref m, .int lo, .long be, .long ip, .long af, .int ou] L f 0 0 (tm_to q ad m W0 L (some (.int (kI 0))) (upd J 0 (kI 1)) (A) (R)) := by
  refine tf_C.of (tf_gok _ _) (by decide) w_1464 (Nat.le_of_ble_eq_true rfl) ?_
  refine tf_blk _ b_Mod_rule_0 rfl ?_
  refine tf_if_lt 61 4 d_Mod_rule_1 rfl rfl (fun h1 => ?_) (fun h1 => ?_)
  · refine tf_blk _ b_Mod_rule_61 rfl ?_
    refine tf_blk _ b_Mod_rule_62 rfl ?_
    refine tf_if_ne 74 70 d_Mod_rule_67 rfl rfl (fun h67 => absurd h67 (show ¬ ¬ kI 0 = 0 by decide)) (fun h67 => ?_)
    refine tf_blk _ b_Mod_rule_70 rfl ?_
    refine tf_goto 88 d_Mod_rule_71 rfl ?_
    refine tm_put 91 d_Mod_rule_88 rfl fw_Mod_123 hT (by decide) rfl rfl rfl (fun f hT => ?_)
    refine tf_blk _ b_Mod_rule_91 rfl ?_
    refine tm_get 95 d_Mod_rule_92 rfl fl_Mod_123 hT rfl ?_
    refine tf_if_le 100 98 d_Mod_rule_95 rfl rfl (fun h95 => absurd h95 (show ¬ kI 1 ≤ 0 by decide)) (fun h95 => ?_)
    refine tf_blk _ b_Mod_rule_98 rfl ?_
    refine tf_iret d_Mod_rule_99 rfl ?_
    exact ⟨rfl, rfl, hT⟩
  · refine tf_blk _ b_Mod_rule_4 rfl ?_
    refine tf_ic_ge 61 10 d_Mod_rule_7 rfl rfl (fun h7 => ?_) (fun h7 => ?_)
    · refine tf_blk _ b_Mod_rule_61 rfl ?_
      refine tf_blk _ b_Mod_rule_62 rfl ?_
      refine tf_if_ne 74 70 d_Mod_rule_67 rfl rfl (fun h67 => absurd h67 (show ¬ ¬ kI 0 = 0 by decide)) (fun h67 => ?_)
      refine tf_blk _ b_Mod_rule_70 rfl ?_
      refine tf_goto 88 d_Mod_rule_71 rfl ?_
      refine tm_put 91 d_Mod_rule_88 rfl fw_Mod_123 hT (by decide) rfl rfl rfl (fun f hT => ?_)
      refine tf_blk _ b_Mod_rule_91 rfl ?_
      refine tm_get 95 d_Mod_rule_92 rfl fl_Mod_123 hT rfl ?_
      refine tf_if_le 100 98 d_Mod_rule_95 rfl rfl (fun h95 => absurd h95 (show ¬ kI 1 ≤ 0 by decide)) (fun h95 => ?_)
      refine tf_blk _ b_Mod_rule_98 rfl ?_
      refine tf_iret d_Mod_rule_99 rfl ?_
      exact ⟨rfl, rfl, hT⟩
    · refine tf_blk _ b_Mod_rule_10 rfl ?_
      refine tf_cS (tf_gok _ _) (c_Mod_lengthOf l D q (d - 1) _ _ (by omega) ip (w := 4) (by decide)) 16 d_Mod_rule_13 rfl lk_Mod_274 cw_Mod_lengthOf (by rfl) sa_Mod_lengthOf (by omega) (by exact Nat.le_of_ble_eq_true rfl) rfl ?_
      rintro v13 L13 f13 ⟨rfl, rfl, rfl⟩
      refine tf_if_le 61 19 d_Mod_rule_16 rfl rfl (fun h16 => ?_) (fun h16 => ?_)
      · refine tf_blk _ b_Mod_rule_61 rfl ?_
        refine tf_blk _ b_Mod_rule_62 rfl ?_
        refine tf_if_ne 74 70 d_Mod_rule_67 rfl rfl (fun h67 => absurd h67 (show ¬ ¬ kI 0 = 0 by decide)) (fun h67 => ?_)
        refine tf_blk _ b_Mod_rule_70 rfl ?_
        refine tf_goto 88 d_Mod_rule_71 rfl ?_
        refine tm_put 91 d_Mod_rule_88 rfl fw_Mod_123 hT (by decide) rfl rfl rfl (fun f hT => ?_)
        refine tf_blk _ b_Mod_rule_91 rfl ?_
        refine tm_get 95 d_Mod_rule_92 rfl fl_Mod_123 hT rfl ?_
        refine tf_if_le 100 98 d_Mod_rule_95 rfl rfl (fun h95 => absurd h95 (show ¬ kI 1 ≤ 0 by decide)) (fun h95 => ?_)
        refine tf_blk _ b_Mod_rule_98 rfl ?_
        refine tf_iret d_Mod_rule_99 rfl ?_
        exact ⟨rfl, rfl, hT⟩
      · refine tf_blk _ b_Mod_rule_19 rfl ?_
        refine tf_cV (tf_gok _ _) (c_Mod_isRow l D q (d - 1) _ _ (by omega) hT be (w := 2) (by decide)) 25 d_Mod_rule_22 rfl lk_Mod_278 cw_Mod_isRow (by rfl) in_Mod_isRow se_Mod_isRow (by exact hT.1.1) (by exact hT.1.2.1) (by rfl) (by rfl) (by omega) (by exact Nat.le_of_ble_eq_true rfl) rfl ?_
        rintro v22 L22 f22 ⟨rfl, rfl, rfl⟩
        refine tf_if_eq 61 28 d_Mod_rule_25 rfl rfl (fun h25 => ?_) (fun h25 => ?_)
        · refine tf_blk _ b_Mod_rule_61 rfl ?_
          refine tf_blk _ b_Mod_rule_62 rfl ?_
          refine tf_if_ne 74 70 d_Mod_rule_67 rfl rfl (fun h67 => absurd h67 (show ¬ ¬ kI 0 = 0 by decide)) (fun h67 => ?_)
          refine tf_blk _ b_Mod_rule_70 rfl ?_
          refine tf_goto 88 d_Mod_rule_71 rfl ?_
          refine tm_put 91 d_Mod_rule_88 rfl fw_Mod_123 hT (by decide) rfl rfl rfl (fun f hT => ?_)
          refine tf_blk _ b_Mod_rule_91 rfl ?_
          refine tm_get 95 d_Mod_rule_92 rfl fl_Mod_123 hT rfl ?_
          refine tf_if_le 100 98 d_Mod_rule_95 rfl rfl (fun h95 => absurd h95 (show ¬ kI 1 ≤ 0 by decide)) (fun h95 => ?_)
          refine tf_blk _ b_Mod_rule_98 rfl ?_
          refine tf_iret d_Mod_rule_99 rfl ?_
          exact ⟨rfl, rfl, hT⟩
        · refine tf_blk _ b_Mod_rule_28 rfl ?_
          refine tf_cV (tf_gok _ _) (c_Mod_isRow l D q (d - 1) _ _ (by omega) hT ip (w := 4) (by decide)) 35 d_Mod_rule_32 rfl lk_Mod_278 cw_Mod_isRow (by rfl) in_Mod_isRow se_Mod_isRow (by exact hT.1.1) (by exact hT.1.2.1) (by rfl) (by rfl) (by omega) (by exact Nat.le_of_ble_eq_true rfl) rfl ?_
          rintro v32 L32 f32 ⟨rfl, rfl, rfl⟩
          refine tf_if_eq 61 38 d_Mod_rule_35 rfl rfl (fun h35 => ?_) (fun h35 => ?_)
          · refine tf_blk _ b_Mod_rule_61 rfl ?_
            refine tf_blk _ b_Mod_rule_62 rfl ?_
            refine tf_if_ne 74 70 d_Mod_rule_67 rfl rfl (fun h67 => absurd h67 (show ¬ ¬ kI 0 = 0 by decide)) (fun h67 => ?_)
            refine tf_blk _ b_Mod_rule_70 rfl ?_
            refine tf_goto 88 d_Mod_rule_71 rfl ?_
            refine tm_put 91 d_Mod_rule_88 rfl fw_Mod_123 hT (by decide) rfl rfl rfl (fun f hT => ?_)
            refine tf_blk _ b_Mod_rule_91 rfl ?_
            refine tm_get 95 d_Mod_rule_92 rfl fl_Mod_123 hT rfl ?_
            refine tf_if_le 100 98 d_Mod_rule_95 rfl rfl (fun h95 => absurd h95 (show ¬ kI 1 ≤ 0 by decide)) (fun h95 => ?_)
            refine tf_blk _ b_Mod_rule_98 rfl ?_
            refine tf_iret d_Mod_rule_99 rfl ?_
            exact ⟨rfl, rfl, hT⟩
          · refine tf_blk _ b_Mod_rule_38 rfl ?_
            refine tf_cV (tf_gok _ _) (c_Mod_isRow l D q (d - 1) _ _ (by omega) hT af (w := 2) (by decide)) 45 d_Mod_rule_42 rfl lk_Mod_278 cw_Mod_isRow (by rfl) in_Mod_isRow se_Mod_isRow (by exact hT.1.1) (by exact hT.1.2.1) (by rfl) (by rfl) (by omega) (by exact Nat.le_of_ble_eq_true rfl) rfl ?_
            rintro v42 L42 f42 ⟨rfl, rfl, rfl⟩
            refine tf_if_eq 61 48 d_Mod_rule_45 rfl rfl (fun h45 => ?_) (fun h45 => ?_)
            · refine tf_blk _ b_Mod_rule_61 rfl ?_
              refine tf_blk _ b_Mod_rule_62 rfl ?_
              refine tf_if_ne 74 70 d_Mod_rule_67 rfl rfl (fun h67 => absurd h67 (show ¬ ¬ kI 0 = 0 by decide)) (fun h67 => ?_)
              refine tf_blk _ b_Mod_rule_70 rfl ?_
              refine tf_goto 88 d_Mod_rule_71 rfl ?_
              refine tm_put 91 d_Mod_rule_88 rfl fw_Mod_123 hT (by decide) rfl rfl rfl (fun f hT => ?_)
              refine tf_blk _ b_Mod_rule_91 rfl ?_
              refine tm_get 95 d_Mod_rule_92 rfl fl_Mod_123 hT rfl ?_
              refine tf_if_le 100 98 d_Mod_rule_95 rfl rfl (fun h95 => absurd h95 (show ¬ kI 1 ≤ 0 by decide)) (fun h95 => ?_)
              refine tf_blk _ b_Mod_rule_98 rfl ?_
              refine tf_iret d_Mod_rule_99 rfl ?_
              exact ⟨rfl, rfl, hT⟩
            · refine tf_blk _ b_Mod_rule_48 rfl ?_
              refine tf_cV (tf_gok _ _) (c_Mod_isGlyph l D q (d - 1) _ _ hT _) 54 d_Mod_rule_51 rfl lk_Mod_148 cw_Mod_isGlyph (by rfl) in_Mod_isGlyph se_Mod_isGlyph (by exact hT.1.1) (by exact hT.1.2.1) (by rfl) (by rfl) (by omega) (by exact Nat.le_of_ble_eq_true rfl) rfl ?_
              rintro v51 L51 f51 ⟨rfl, rfl, rfl⟩
              refine tf_if_eq 61 57 d_Mod_rule_54 rfl rfl (fun h54 => ?_) (fun h54 => ?_)
              · refine tf_blk _ b_Mod_rule_61 rfl ?_
                refine tf_blk _ b_Mod_rule_62 rfl ?_
                refine tf_if_ne 74 70 d_Mod_rule_67 rfl rfl (fun h67 => absurd h67 (show ¬ ¬ kI 0 = 0 by decide)) (fun h67 => ?_)
                refine tf_blk _ b_Mod_rule_70 rfl ?_
                refine tf_goto 88 d_Mod_rule_71 rfl ?_
                refine tm_put 91 d_Mod_rule_88 rfl fw_Mod_123 hT (by decide) rfl rfl rfl (fun f hT => ?_)
                refine tf_blk _ b_Mod_rule_91 rfl ?_
                refine tm_get 95 d_Mod_rule_92 rfl fl_Mod_123 hT rfl ?_
                refine tf_if_le 100 98 d_Mod_rule_95 rfl rfl (fun h95 => absurd h95 (show ¬ kI 1 ≤ 0 by decide)) (fun h95 => ?_)
                refine tf_blk _ b_Mod_rule_98 rfl ?_
                refine tf_iret d_Mod_rule_99 rfl ?_
                exact ⟨rfl, rfl, hT⟩
              · exact absurd (by rw [hG]; rfl) h54
set_option maxHeartbeats 4000000 in
set_option maxRecDepth 100000 in
theorem c_Mod_shaped_00 (hT : tm_at q ad m W0 L J A R f) (i w : Int32) (hi : i = 0) (hw : w = kI 1) (h52 : J 52 = 0) : tf_C l (tf_H D q) d i_Mod_shaped [.ref m, .int i, .int w] L f 0 0 (tm_to q ad m W0 L (some (.int (kI 0))) (upd J 0 (kI 0)) (A) (R)) := by
  refine tf_C.of (tf_gok _ _) (by decide) w_1504 (Nat.le_of_ble_eq_true rfl) ?_
  refine tf_blk _ b_Mod_shaped_0 rfl ?_
  refine tf_if_lt 33 4 d_Mod_shaped_1 rfl rfl (fun h1 => absurd h1 (by rw [hi]; decide)) (fun h1 => ?_)
  refine tf_blk _ b_Mod_shaped_4 rfl ?_
  refine tf_if_ne 16 8 d_Mod_shaped_5 rfl rfl (fun h5 => ?_) (fun h5 => absurd h5 (by rw [hw]; decide))
  refine tf_blk _ b_Mod_shaped_16 rfl ?_
  refine tf_ic_ne 33 21 d_Mod_shaped_18 rfl rfl (fun h18 => absurd h18 (not_not_intro hw)) (fun h18 => ?_)
  refine tf_blk _ b_Mod_shaped_21 rfl ?_
  refine tm_get 26 d_Mod_shaped_23 rfl fl_Mod_292 hT rfl ?_
  refine tf_ic_gt 33 29 d_Mod_shaped_26 rfl rfl (fun h26 => absurd h26 (by rw [hi, h52]; decide)) (fun h26 => ?_)
  refine tf_blk _ b_Mod_shaped_29 rfl ?_
  refine tf_goto 34 d_Mod_shaped_30 rfl ?_
  refine tf_blk _ b_Mod_shaped_34 rfl ?_
  refine tf_if_eq 44 40 d_Mod_shaped_37 rfl rfl (fun h37 => absurd h37 (show ¬ kI 1 = 0 by decide)) (fun h37 => ?_)
  refine tf_blk _ b_Mod_shaped_40 rfl ?_
  refine tf_goto 45 d_Mod_shaped_41 rfl ?_
  refine tm_put 48 d_Mod_shaped_45 rfl fw_Mod_123 hT (by decide) rfl rfl rfl (fun f hT => ?_)
  refine tf_blk _ b_Mod_shaped_48 rfl ?_
  refine tf_if_ne 54 52 d_Mod_shaped_49 rfl rfl (fun h49 => ?_) (fun h49 => absurd h49 (show ¬ kI 1 = 0 by decide))
  refine tf_blk _ b_Mod_shaped_54 rfl ?_
  refine tf_if_ne 65 58 d_Mod_shaped_55 rfl rfl (fun h55 => ?_) (fun h55 => absurd h55 (by rw [hw]; decide))
  refine tf_blk _ b_Mod_shaped_65 rfl ?_
  refine tf_blk _ b_Mod_shaped_71 rfl ?_
  refine tf_ic_ge 135 77 d_Mod_shaped_74 rfl rfl (fun h74 => ?_) (fun h74 => absurd (by rw [hi]; decide) h74)
  refine tf_blk _ b_Mod_shaped_135 rfl ?_
  refine tf_iret d_Mod_shaped_137 rfl ?_
  exact ⟨rfl, rfl, hT⟩
end
