/-! the reference: xOf, yOf, turnPoint -/
def tm_xo (g : Nat → Int32) (p k : Nat) : Int32 := ((g (4 * p + k)).toUInt32 >>> ((kI 16).toUInt32 &&& Int32.toUInt32 31)).toInt32 - kI 8192
def tm_yo (g : Nat → Int32) (p k : Nat) : Int32 := (g (4 * p + k) &&& 65535) - kI 8192
def tm_pnt (J g : Nat → Int32) (p : Nat) : Int32 × Int32 := (tm_btw J (tm_xo g p 0) (tm_xo g p 1) (tm_xo g p 2) (tm_xo g p 3), tm_btw J (tm_yo g p 0) (tm_yo g p 1) (tm_yo g p 2) (tm_yo g p 3))
/-- a point mirrored, turned and shifted by a part -/
def tw_tp (t : Nat) (dx dy : Int32) (z : Int32 × Int32) : Int32 × Int32 := ((tw_rot (t % 4) (if t < 4 then z.1 else -z.1) z.2).1 + dx, (tw_rot (t % 4) (if t < 4 then z.1 else -z.1) z.2).2 + dy)
/-- .. by all parts of the pile -/
def tm_trn (X Y : Nat → Int32) (pg np tn : Nat → Nat) : Nat → Int32 × Int32 → Int32 × Int32
  | 0, z => z
  | e + 1, z => tm_trn X Y pg np tn e (tw_tp (tn e) (X (4 * pg e + np e)) (Y (4 * pg e + np e)) z)
/-- the pile's lower rows: at e the glyph pg e, its part np e, which is turned by tn e -/
def tm_pl (A : Nat → Nat → Int32) (pg np tn : Nat → Nat) (n : Nat) : Prop := ∀ e, e < n → A 25 e = nI (pg e) ∧ A 26 e = nI (np e + 1) ∧ pg e < 40 ∧ np e < 4 ∧ A 16 (4 * pg e + np e) = nI (tn e) ∧ tn e < 8
theorem nI_nle3 {t : Nat} (h : ¬ t < 4) (h8 : t < 8) : ¬ nI t ≤ kI 3 := (by decide : ∀ t, t < 8 → ¬ t < 4 → ¬ nI t ≤ kI 3) t h8 h
section
variable (l : Launch) (D : va_G) (q : Nat → ClassId) (d : Nat) (L : List Nat) (f : tf_F) {ad : Nat → Nat} {m : Nat} {W0 : tf_F} {J : Nat → Int32} {A : Nat → Nat → Int32} {R : Nat → Int64}
set_option maxHeartbeats 4000000 in
set_option maxRecDepth 100000 in
theorem c_Mod_xOf (hT : tm_at q ad m W0 L J A R f) {p k : Nat} (hp : p < 1600) (hk : k < 4) : tf_C l (tf_H D q) d i_Mod_xOf [.ref m, .int (nI p), .int (nI k)] L f 0 0 (tf_rd (.int (tm_xo (A 3) p k)) L f) := by
  have e0 : kI 4 * nI p + nI k = nI (4 * p + k) := by rw [show kI 4 = nI 4 from rfl, nI_mul, nI_add]
  have hv : vp_in (kI 4 * nI p + nI k) 6400 := by rw [e0]; exact vp_in_nI (by omega) (by omega)
  have hc : (kI 4 * nI p + nI k).toNatClampNeg = 4 * p + k := by rw [e0]; exact nI_clamp (show 4 * p + k < 2 ^ 31 by omega)
  refine tf_C.of (tf_gok _ _) (by decide) w_1363 (Nat.le_of_ble_eq_true rfl) ?_
  refine tf_blk _ b_Mod_xOf_0 rfl ?_
  refine tm_get 4 d_Mod_xOf_1 rfl fl_Mod_7 hT rfl ?_
  refine tf_blk _ b_Mod_xOf_4 rfl ?_
  refine tm_iald _ 10 d_Mod_xOf_9 rfl hT rfl (hv) ?_
  refine tf_blk _ b_Mod_xOf_10 rfl ?_
  refine tf_iret d_Mod_xOf_17 rfl ?_
  exact ⟨by rw [hc]; rfl, rfl, rfl⟩
set_option maxHeartbeats 4000000 in
set_option maxRecDepth 100000 in
theorem c_Mod_yOf (hT : tm_at q ad m W0 L J A R f) {p k : Nat} (hp : p < 1600) (hk : k < 4) : tf_C l (tf_H D q) d i_Mod_yOf [.ref m, .int (nI p), .int (nI k)] L f 0 0 (tf_rd (.int (tm_yo (A 3) p k)) L f) := by
  have e0 : kI 4 * nI p + nI k = nI (4 * p + k) := by rw [show kI 4 = nI 4 from rfl, nI_mul, nI_add]
  have hv : vp_in (kI 4 * nI p + nI k) 6400 := by rw [e0]; exact vp_in_nI (by omega) (by omega)
  have hc : (kI 4 * nI p + nI k).toNatClampNeg = 4 * p + k := by rw [e0]; exact nI_clamp (show 4 * p + k < 2 ^ 31 by omega)
  refine tf_C.of (tf_gok _ _) (by decide) w_1380 (Nat.le_of_ble_eq_true rfl) ?_
  refine tf_blk _ b_Mod_yOf_0 rfl ?_
  refine tm_get 4 d_Mod_yOf_1 rfl fl_Mod_7 hT rfl ?_
  refine tf_blk _ b_Mod_yOf_4 rfl ?_
  refine tm_iald _ 10 d_Mod_yOf_9 rfl hT rfl (hv) ?_
  refine tf_ldc 12 d_Mod_yOf_10 rfl w_1381 ?_
  refine tf_blk _ b_Mod_yOf_12 rfl ?_
  refine tf_iret d_Mod_yOf_17 rfl ?_
  exact ⟨by rw [hc]; rfl, rfl, rfl⟩
set_option maxHeartbeats 4000000 in
set_option maxRecDepth 100000 in
theorem t_Mod_turn {QB : tf_B} {kc ks p n c t : Nat} {e : Int32} (hT : tm_at q ad m W0 L J A R f) (hc : c < 160) (ht : t < 8) (h16 : A 16 c = nI t) : ∀ w k x y, k + w = t % 4 → tf_W l (tf_H D q) tf_T QB d i_Mod_turnPoint 142 [(0, .ref m), (1, .int (nI p)), (2, .int (nI n)), (3, .int (tw_rot w x y).1), (4, .int (tw_rot w x y).2), (5, .int e), (6, .int (nI c)), (7, .int (nI (t % 4)))] [] L f kc ks → tf_W l (tf_H D q) tf_T QB d i_Mod_turnPoint 111 [(0, .ref m), (1, .int (nI p)), (2, .int (nI n)), (3, .int x), (4, .int y), (5, .int e), (6, .int (nI c)), (7, .int (nI k))] [] L f kc ks := by
  have hv : vp_in (nI c) 160 := vp_in_nI (by omega) (by omega)
  have hcc : (nI c).toNatClampNeg = c := nI_clamp (by omega)
  have e4 : nI t - nI t / kI 4 * kI 4 = nI (t % 4) := tw_q4 ht
  intro w
  induction w with
  | zero =>
    intro k x y hk hK
    have hk : k = t % 4 := hk
    subst hk
    refine tf_blk _ b_Mod_turnPoint_111 rfl ?_
    refine tm_get 117 d_Mod_turnPoint_114 rfl fl_Mod_51 hT rfl ?_
    refine tf_blk _ b_Mod_turnPoint_117 rfl ?_
    refine tm_iald _ 120 d_Mod_turnPoint_119 rfl hT rfl (hv) ?_
    rw [hcc, h16]
    refine tf_blk _ b_Mod_turnPoint_120 rfl ?_
    refine tf_irem 122 d_Mod_turnPoint_121 rfl (by decide) ?_
    rw [e4]
    refine tf_ic_ge 142 125 d_Mod_turnPoint_122 rfl rfl (fun h122 => ?_) (fun h122 => absurd (nI_le (by omega) (by omega)) h122)
    refine tf_drop [0, 1, 2, 3, 4, 5, 6, 7] rfl ?_
    exact hK
  | succ w ih =>
    intro k x y hk hK
    refine tf_blk _ b_Mod_turnPoint_111 rfl ?_
    refine tm_get 117 d_Mod_turnPoint_114 rfl fl_Mod_51 hT rfl ?_
    refine tf_blk _ b_Mod_turnPoint_117 rfl ?_
    refine tm_iald _ 120 d_Mod_turnPoint_119 rfl hT rfl (hv) ?_
    rw [hcc, h16]
    refine tf_blk _ b_Mod_turnPoint_120 rfl ?_
    refine tf_irem 122 d_Mod_turnPoint_121 rfl (by decide) ?_
    rw [e4]
    refine tf_ic_ge 142 125 d_Mod_turnPoint_122 rfl rfl (fun h122 => absurd h122 (nI_ge (by omega) (by omega))) (fun h122 => ?_)
    refine tf_blk _ b_Mod_turnPoint_125 rfl ?_
    refine tf_goto 111 d_Mod_turnPoint_139 rfl ?_
    refine tf_drop [0, 1, 2, 3, 4, 5, 6, 7] rfl ?_
    have h9 := ih (k + 1) (-y) x (by omega) hK
    rw [show nI (k + 1) = nI k + 1 from nI_succ k] at h9
    exact h9
set_option maxHeartbeats 4000000 in
set_option maxRecDepth 100000 in
theorem t_Mod_turns (hT : tm_at q ad m W0 L J A R f) {p n : Nat} {pg np tn : Nat → Nat} (hn : n ≤ 5) : ∀ e x y, e ≤ n → tm_pl A pg np tn e → tf_W l (tf_H D q) tf_T (tf_QM (tf_H D q) (tm_to q ad m W0 L none (upd (upd J 27 (tm_trn (A 14) (A 15) pg np tn e (x, y)).1) 28 (tm_trn (A 14) (A 15) pg np tn e (x, y)).2) A R)) d i_Mod_turnPoint 64 [(0, .ref m), (1, .int (nI p)), (2, .int (nI n)), (3, .int x), (4, .int y), (5, .int (nI e - kI 1))] [] L f 0 0 := by
  intro e
  induction e with
  | zero =>
    intro x y he hP
    refine tf_blk _ b_Mod_turnPoint_64 rfl ?_
    refine tf_if_lt 170 69 d_Mod_turnPoint_66 rfl rfl (fun h66 => ?_) (fun h66 => absurd (show nI 0 - kI 1 < 0 by decide) h66)
    refine tf_blk _ b_Mod_turnPoint_170 rfl ?_
    refine tm_put 175 d_Mod_turnPoint_172 rfl fw_Mod_177 hT (by decide) rfl rfl rfl (fun f hT => ?_)
    refine tf_blk _ b_Mod_turnPoint_175 rfl ?_
    refine tm_put 181 d_Mod_turnPoint_178 rfl fw_Mod_180 hT (by decide) rfl rfl rfl (fun f hT => ?_)
    refine tf_vret d_Mod_turnPoint_181 rfl ?_
    exact ⟨rfl, rfl, hT⟩
  | succ e ih =>
    intro x y he hP
    obtain ⟨p1, p2, p3, p4, p5, p6⟩ := hP e (by omega)
    have ee : nI (e + 1) - kI 1 = nI e := by rw [show kI 1 = nI 1 from rfl, nI_subI (by omega)]; rfl
    rw [ee]
    have hev : vp_in (nI e) 6 := vp_in_nI (by omega) (by omega)
    have hec : (nI e).toNatClampNeg = e := nI_clamp (by omega)
    have e0 : kI 4 * nI (pg e) + nI (np e + 1) - kI 1 = nI (4 * pg e + np e) := by rw [show kI 4 = nI 4 from rfl, show kI 1 = nI 1 from rfl, nI_mul, nI_add, nI_subI (by omega)]; rfl
    have hv : vp_in (nI (4 * pg e + np e)) 160 := vp_in_nI (by omega) (by omega)
    have hc : (nI (4 * pg e + np e)).toNatClampNeg = 4 * pg e + np e := nI_clamp (show 4 * pg e + np e < 2 ^ 31 by omega)
    by_cases h4 : tn e < 4
    · refine tf_blk _ b_Mod_turnPoint_64 rfl ?_
      refine tf_if_lt 170 69 d_Mod_turnPoint_66 rfl rfl (fun h66 => absurd h66 (nI_pos (by omega))) (fun h66 => ?_)
      refine tf_blk _ b_Mod_turnPoint_69 rfl ?_
      refine tm_get 74 d_Mod_turnPoint_71 rfl fl_Mod_66 hT rfl ?_
      refine tf_blk _ b_Mod_turnPoint_74 rfl ?_
      refine tm_iald _ 77 d_Mod_turnPoint_76 rfl hT rfl (hev) ?_
      rw [hec, p1]
      refine tf_blk _ b_Mod_turnPoint_77 rfl ?_
      refine tm_get 82 d_Mod_turnPoint_79 rfl fl_Mod_69 hT rfl ?_
      refine tf_blk _ b_Mod_turnPoint_82 rfl ?_
      refine tm_iald _ 85 d_Mod_turnPoint_84 rfl hT rfl (hev) ?_
      rw [hec, p2]
      refine tf_blk _ b_Mod_turnPoint_85 rfl ?_
      refine tm_get 94 d_Mod_turnPoint_91 rfl fl_Mod_51 hT rfl ?_
      rw [e0]
      refine tf_blk _ b_Mod_turnPoint_94 rfl ?_
      refine tm_iald _ 97 d_Mod_turnPoint_96 rfl hT rfl (hv) ?_
      rw [hc, p5]
      refine tf_blk _ b_Mod_turnPoint_97 rfl ?_
      refine tf_ic_le 106 101 d_Mod_turnPoint_98 rfl rfl (fun h98 => ?_) (fun h98 => absurd (nI_le (b := 3) (by omega) (by omega)) h98)
      refine tf_blk _ b_Mod_turnPoint_106 rfl ?_
      refine tf_blk _ b_Mod_turnPoint_107 rfl ?_
      refine t_Mod_turn l D q d L f hT (by omega) p6 p5 (tn e % 4) 0 _ _ (by omega) ?_
      refine tf_blk _ b_Mod_turnPoint_142 rfl ?_
      refine tm_get 147 d_Mod_turnPoint_144 rfl fl_Mod_45 hT rfl ?_
      refine tf_blk _ b_Mod_turnPoint_147 rfl ?_
      refine tm_iald _ 150 d_Mod_turnPoint_149 rfl hT rfl (hv) ?_
      rw [hc]
      refine tf_blk _ b_Mod_turnPoint_150 rfl ?_
      refine tm_get 158 d_Mod_turnPoint_155 rfl fl_Mod_48 hT rfl ?_
      refine tf_blk _ b_Mod_turnPoint_158 rfl ?_
      refine tm_iald _ 161 d_Mod_turnPoint_160 rfl hT rfl (hv) ?_
      rw [hc]
      refine tf_blk _ b_Mod_turnPoint_161 rfl ?_
      refine tf_goto 64 d_Mod_turnPoint_167 rfl ?_
      refine tf_drop [0, 1, 2, 3, 4, 5] rfl ?_
      have h9 := ih (tw_tp (tn e) (A 14 (4 * pg e + np e)) (A 15 (4 * pg e + np e)) (x, y)).1 (tw_tp (tn e) (A 14 (4 * pg e + np e)) (A 15 (4 * pg e + np e)) (x, y)).2 (by omega) (fun z hz => hP z (by omega))
      rw [show nI e - kI 1 = nI e + kI (-1) from by rw [Int32.sub_eq_add_neg]; rfl] at h9
      simp only [tw_tp, if_pos h4] at h9
      have e8 : tm_trn (A 14) (A 15) pg np tn (e + 1) (x, y) = tm_trn (A 14) (A 15) pg np tn e (tw_tp (tn e) (A 14 (4 * pg e + np e)) (A 15 (4 * pg e + np e)) (x, y)) := rfl
      simp only [tw_tp, if_pos h4] at e8
      rw [e8]
      exact h9
    refine tf_blk _ b_Mod_turnPoint_64 rfl ?_
    refine tf_if_lt 170 69 d_Mod_turnPoint_66 rfl rfl (fun h66 => absurd h66 (nI_pos (by omega))) (fun h66 => ?_)
    refine tf_blk _ b_Mod_turnPoint_69 rfl ?_
    refine tm_get 74 d_Mod_turnPoint_71 rfl fl_Mod_66 hT rfl ?_
    refine tf_blk _ b_Mod_turnPoint_74 rfl ?_
    refine tm_iald _ 77 d_Mod_turnPoint_76 rfl hT rfl (hev) ?_
    rw [hec, p1]
    refine tf_blk _ b_Mod_turnPoint_77 rfl ?_
    refine tm_get 82 d_Mod_turnPoint_79 rfl fl_Mod_69 hT rfl ?_
    refine tf_blk _ b_Mod_turnPoint_82 rfl ?_
    refine tm_iald _ 85 d_Mod_turnPoint_84 rfl hT rfl (hev) ?_
    rw [hec, p2]
    refine tf_blk _ b_Mod_turnPoint_85 rfl ?_
    refine tm_get 94 d_Mod_turnPoint_91 rfl fl_Mod_51 hT rfl ?_
    rw [e0]
    refine tf_blk _ b_Mod_turnPoint_94 rfl ?_
    refine tm_iald _ 97 d_Mod_turnPoint_96 rfl hT rfl (hv) ?_
    rw [hc, p5]
    refine tf_blk _ b_Mod_turnPoint_97 rfl ?_
    refine tf_ic_le 106 101 d_Mod_turnPoint_98 rfl rfl (fun h98 => absurd h98 (nI_nle3 (by omega) p6)) (fun h98 => ?_)
    refine tf_blk _ b_Mod_turnPoint_101 rfl ?_
    refine tf_goto 107 d_Mod_turnPoint_103 rfl ?_
    refine tf_blk _ b_Mod_turnPoint_107 rfl ?_
    refine t_Mod_turn l D q d L f hT (by omega) p6 p5 (tn e % 4) 0 _ _ (by omega) ?_
    refine tf_blk _ b_Mod_turnPoint_142 rfl ?_
    refine tm_get 147 d_Mod_turnPoint_144 rfl fl_Mod_45 hT rfl ?_
    refine tf_blk _ b_Mod_turnPoint_147 rfl ?_
    refine tm_iald _ 150 d_Mod_turnPoint_149 rfl hT rfl (hv) ?_
    rw [hc]
    refine tf_blk _ b_Mod_turnPoint_150 rfl ?_
    refine tm_get 158 d_Mod_turnPoint_155 rfl fl_Mod_48 hT rfl ?_
    refine tf_blk _ b_Mod_turnPoint_158 rfl ?_
    refine tm_iald _ 161 d_Mod_turnPoint_160 rfl hT rfl (hv) ?_
    rw [hc]
    refine tf_blk _ b_Mod_turnPoint_161 rfl ?_
    refine tf_goto 64 d_Mod_turnPoint_167 rfl ?_
    refine tf_drop [0, 1, 2, 3, 4, 5] rfl ?_
    have h9 := ih (tw_tp (tn e) (A 14 (4 * pg e + np e)) (A 15 (4 * pg e + np e)) (x, y)).1 (tw_tp (tn e) (A 14 (4 * pg e + np e)) (A 15 (4 * pg e + np e)) (x, y)).2 (by omega) (fun z hz => hP z (by omega))
    rw [show nI e - kI 1 = nI e + kI (-1) from by rw [Int32.sub_eq_add_neg]; rfl] at h9
    simp only [tw_tp, if_neg h4] at h9
    have e8 : tm_trn (A 14) (A 15) pg np tn (e + 1) (x, y) = tm_trn (A 14) (A 15) pg np tn e (tw_tp (tn e) (A 14 (4 * pg e + np e)) (A 15 (4 * pg e + np e)) (x, y)) := rfl
    simp only [tw_tp, if_neg h4] at e8
    rw [e8]
    exact h9
set_option maxHeartbeats 4000000 in
set_option maxRecDepth 100000 in
theorem c_Mod_turnPoint (hd : 3 ≤ d) (hT : tm_at q ad m W0 L J A R f) {p n : Nat} {pg np tn : Nat → Nat} (hp : p < 1600) (hn : n ≤ 5) (hP : tm_pl A pg np tn n) : tf_C l (tf_H D q) d i_Mod_turnPoint [.ref m, .int (nI p), .int (nI n)] L f 0 0 (tm_to q ad m W0 L (none) (upd (upd J 27 (tm_trn (A 14) (A 15) pg np tn n (tm_pnt J (A 3) p)).1) 28 (tm_trn (A 14) (A 15) pg np tn n (tm_pnt J (A 3) p)).2) (A) (R)) := by
  refine tf_C.of (tf_gok _ _) (by decide) w_1359 (Nat.le_of_ble_eq_true rfl) ?_
  refine tf_blk _ b_Mod_turnPoint_0 rfl ?_
  refine tf_cV (tf_gok _ _) (c_Mod_xOf l D q (d - 1) _ _ hT (k := 0) hp (by decide)) 7 d_Mod_turnPoint_4 rfl lk_Mod_167 cw_Mod_xOf (by rfl) in_Mod_xOf se_Mod_xOf (by exact hT.1.1) (by exact hT.1.2.1) (by rfl) (by rfl) (by omega) (by exact Nat.le_of_ble_eq_true rfl) rfl ?_
  rintro v4 L4 f4 ⟨rfl, rfl, rfl⟩
  refine tf_blk _ b_Mod_turnPoint_7 rfl ?_
  refine tf_cV (tf_gok _ _) (c_Mod_xOf l D q (d - 1) _ _ hT (k := 1) hp (by decide)) 13 d_Mod_turnPoint_10 rfl lk_Mod_167 cw_Mod_xOf (by rfl) in_Mod_xOf se_Mod_xOf (by exact hT.1.1) (by exact hT.1.2.1) (by rfl) (by rfl) (by omega) (by exact Nat.le_of_ble_eq_true rfl) rfl ?_
  rintro v10 L10 f10 ⟨rfl, rfl, rfl⟩
  refine tf_blk _ b_Mod_turnPoint_13 rfl ?_
  refine tf_cV (tf_gok _ _) (c_Mod_xOf l D q (d - 1) _ _ hT (k := 2) hp (by decide)) 19 d_Mod_turnPoint_16 rfl lk_Mod_167 cw_Mod_xOf (by rfl) in_Mod_xOf se_Mod_xOf (by exact hT.1.1) (by exact hT.1.2.1) (by rfl) (by rfl) (by omega) (by exact Nat.le_of_ble_eq_true rfl) rfl ?_
  rintro v16 L16 f16 ⟨rfl, rfl, rfl⟩
  refine tf_blk _ b_Mod_turnPoint_19 rfl ?_
  refine tf_cV (tf_gok _ _) (c_Mod_xOf l D q (d - 1) _ _ hT (k := 3) hp (by decide)) 25 d_Mod_turnPoint_22 rfl lk_Mod_167 cw_Mod_xOf (by rfl) in_Mod_xOf se_Mod_xOf (by exact hT.1.1) (by exact hT.1.2.1) (by rfl) (by rfl) (by omega) (by exact Nat.le_of_ble_eq_true rfl) rfl ?_
  rintro v22 L22 f22 ⟨rfl, rfl, rfl⟩
  refine tf_cV (tf_gok _ _) (c_Mod_between l D q (d - 1) _ _ (by omega) hT _ _ _ _) 28 d_Mod_turnPoint_25 rfl lk_Mod_170 cw_Mod_between (by rfl) in_Mod_between se_Mod_between (by exact hT.1.1) (by exact hT.1.2.1) (by rfl) (by rfl) (by omega) (by exact Nat.le_of_ble_eq_true rfl) rfl ?_
  rintro v25 L25 f25 ⟨rfl, rfl, rfl⟩
  refine tf_blk _ b_Mod_turnPoint_28 rfl ?_
  refine tf_cV (tf_gok _ _) (c_Mod_yOf l D q (d - 1) _ _ hT (k := 0) hp (by decide)) 36 d_Mod_turnPoint_33 rfl lk_Mod_174 cw_Mod_yOf (by rfl) in_Mod_yOf se_Mod_yOf (by exact hT.1.1) (by exact hT.1.2.1) (by rfl) (by rfl) (by omega) (by exact Nat.le_of_ble_eq_true rfl) rfl ?_
  rintro v33 L33 f33 ⟨rfl, rfl, rfl⟩
  refine tf_blk _ b_Mod_turnPoint_36 rfl ?_
  refine tf_cV (tf_gok _ _) (c_Mod_yOf l D q (d - 1) _ _ hT (k := 1) hp (by decide)) 42 d_Mod_turnPoint_39 rfl lk_Mod_174 cw_Mod_yOf (by rfl) in_Mod_yOf se_Mod_yOf (by exact hT.1.1) (by exact hT.1.2.1) (by rfl) (by rfl) (by omega) (by exact Nat.le_of_ble_eq_true rfl) rfl ?_
  rintro v39 L39 f39 ⟨rfl, rfl, rfl⟩
  refine tf_blk _ b_Mod_turnPoint_42 rfl ?_
  refine tf_cV (tf_gok _ _) (c_Mod_yOf l D q (d - 1) _ _ hT (k := 2) hp (by decide)) 48 d_Mod_turnPoint_45 rfl lk_Mod_174 cw_Mod_yOf (by rfl) in_Mod_yOf se_Mod_yOf (by exact hT.1.1) (by exact hT.1.2.1) (by rfl) (by rfl) (by omega) (by exact Nat.le_of_ble_eq_true rfl) rfl ?_
  rintro v45 L45 f45 ⟨rfl, rfl, rfl⟩
  refine tf_blk _ b_Mod_turnPoint_48 rfl ?_
  refine tf_cV (tf_gok _ _) (c_Mod_yOf l D q (d - 1) _ _ hT (k := 3) hp (by decide)) 54 d_Mod_turnPoint_51 rfl lk_Mod_174 cw_Mod_yOf (by rfl) in_Mod_yOf se_Mod_yOf (by exact hT.1.1) (by exact hT.1.2.1) (by rfl) (by rfl) (by omega) (by exact Nat.le_of_ble_eq_true rfl) rfl ?_
  rintro v51 L51 f51 ⟨rfl, rfl, rfl⟩
  refine tf_cV (tf_gok _ _) (c_Mod_between l D q (d - 1) _ _ (by omega) hT _ _ _ _) 57 d_Mod_turnPoint_54 rfl lk_Mod_170 cw_Mod_between (by rfl) in_Mod_between se_Mod_between (by exact hT.1.1) (by exact hT.1.2.1) (by rfl) (by rfl) (by omega) (by exact Nat.le_of_ble_eq_true rfl) rfl ?_
  rintro v54 L54 f54 ⟨rfl, rfl, rfl⟩
  refine tf_blk _ b_Mod_turnPoint_57 rfl ?_
  exact t_Mod_turns l D q d _ _ hT hn n _ _ (Nat.le_refl n) hP
end
