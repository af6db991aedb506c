/-! the reference: point, place, pairAt, pair -/
def tm_pointA (A : Nat → Nat → Int32) (i pt : Nat) (x y b : Int32) : Nat → Nat → Int32 :=
  va_up (va_up (va_up A 3 (tw_fill (4 * (40 * i + pt)) (tm_pk x y) 4 0 (A 3))) 4 (upd (A 4) (40 * i + pt) (vp_nar .byte (kI 2 * A 7 i + (if b = 0 then kI 0 else kI 1)).toInt8.toInt32))) 5 (upd (A 5) i (nI pt + kI 1))
theorem tm_A3 {q : Nat → ClassId} {ad : Nat → Nat} {m : Nat} {W0 : tf_F} {L : List Nat} {J : Nat → Int32} {A : Nat → Nat → Int32} {R : Nat → Int64} {f : tf_F} (h : tm_at q ad m W0 L J A R f) : tm_at q ad m W0 L J (va_up A 3 (A 3)) R f := by
  have e9 : va_up A 3 (A 3) = A := by
    funext z
    by_cases z3 : z = 3
    · rw [z3, va_up_self]
    · exact va_up_ne _ _ z3
  rw [e9]
  exact h
theorem tm_A3u {q : Nat → ClassId} {ad : Nat → Nat} {m n k : Nat} {W0 : tf_F} {L : List Nat} {J : Nat → Int32} {A : Nat → Nat → Int32} {g : Nat → Int32} {v : Int32} {R : Nat → Int64} {f : tf_F} (h : tm_at q ad m W0 L J (va_up (va_up A n g) n (upd (va_up A n g n) k v)) R f) : tm_at q ad m W0 L J (va_up A n (upd g k v)) R f := by
  have e9 : va_up (va_up A n g) n (upd (va_up A n g n) k v) = va_up A n (upd g k v) := by
    funext z
    by_cases z3 : z = n
    · rw [z3, va_up_self, va_up_self, va_up_self]
    · rw [va_up_ne _ _ z3, va_up_ne _ _ z3, va_up_ne _ _ z3]
  rw [← e9]
  exact h
section
variable (l : Launch) (D : va_G) (q : Nat → ClassId) (d : Nat) (L : List Nat) (f : tf_F) {ad : Nat → Nat} {m : Nat} {W0 : tf_F} {J : Nat → Int32} {A : Nat → Nat → Int32} {R : Nat → Int64}
set_option maxHeartbeats 4000000 in
set_option maxRecDepth 100000 in
theorem t_Mod_point (hd : 1 ≤ d) {QB : tf_B} {kc ks i p : Nat} (hp : p < 1600) (x y b : Int32) : ∀ w k (g : Nat → Int32) (f : tf_F), k + w = 4 → tm_at q ad m W0 L J (va_up A 3 g) R f → (∀ f2 : tf_F, tm_at q ad m W0 L J (va_up A 3 (tw_fill (4 * p) (tm_pk x y) w k g)) R f2 → tf_W l (tf_H D q) tf_T QB d i_Mod_point 109 [(0, .ref m), (1, .int (nI i)), (2, .int x), (3, .int y), (4, .int b), (5, .int (nI p)), (6, .int (nI 4))] [] L f2 kc ks) → tf_W l (tf_H D q) tf_T QB d i_Mod_point 80 [(0, .ref m), (1, .int (nI i)), (2, .int x), (3, .int y), (4, .int b), (5, .int (nI p)), (6, .int (nI k))] [] L f kc ks := by
  intro w
  induction w with
  | zero =>
    intro k g f hk hT hK
    obtain rfl : k = 4 := hk
    refine tf_blk _ b_Mod_point_80 rfl ?_
    refine tf_ic_ge 109 86 d_Mod_point_83 rfl rfl (fun h83 => ?_) (fun h83 => absurd (nI_le (a := 4) (by omega) (by omega)) h83)
    exact hK _ hT
  | succ w ih =>
    intro k g f hk hT hK
    have e0 : kI 4 * nI p + nI k = nI (4 * p + k) := by rw [show kI 4 = nI 4 from rfl, nI_mul, nI_add]
    have hv : vp_in (kI 4 * nI p + nI k) 6400 := by rw [e0]; exact vp_in_nI (by omega) (by omega)
    have hc : (kI 4 * nI p + nI k).toNatClampNeg = 4 * p + k := by rw [e0]; exact nI_clamp (show 4 * p + k < 2 ^ 31 by omega)
    refine tf_blk _ b_Mod_point_80 rfl ?_
    refine tf_ic_ge 109 86 d_Mod_point_83 rfl rfl (fun h83 => absurd h83 (nI_ge (b := 4) (by omega) (by omega))) (fun h83 => ?_)
    refine tf_blk _ b_Mod_point_86 rfl ?_
    refine tm_get 90 d_Mod_point_87 rfl fl_Mod_7 hT rfl ?_
    refine tf_blk _ b_Mod_point_90 rfl ?_
    refine tf_cS (tf_gok _ _) (c_Mod_packed l D q (d - 1) _ _ _ _) 102 d_Mod_point_99 rfl lk_Mod_155 cw_Mod_packed (by rfl) sa_Mod_packed (by omega) (by exact Nat.le_of_ble_eq_true rfl) rfl ?_
    rintro v99 L99 f99 ⟨rfl, rfl, rfl⟩
    refine tm_iast _ 103 d_Mod_point_102 rfl hT rfl (hv) (fun f hT => ?_)
    refine tf_blk _ b_Mod_point_103 rfl ?_
    refine tf_goto 80 d_Mod_point_106 rfl ?_
    rw [hc] at hT
    have h9 := ih (k + 1) _ _ (by omega) (tm_A3u hT) hK
    rw [show nI (k + 1) = nI k + 1 from nI_succ k] at h9
    exact h9
set_option maxHeartbeats 4000000 in
set_option maxRecDepth 100000 in
theorem c_Mod_point_t0 (hd : 1 ≤ d) (hT : tm_at q ad m W0 L J A R f) {i pt : Nat} (hi : i < 40) (hpt : pt < 40) (x y b : Int32) (hG : tm_isG J (nI i) = true) (hx : tm_isP x = true) (hy : tm_isP y = true) (h9 : A 9 i = 0) (h5 : A 5 i = nI pt) (hb : b = 0) : tf_C l (tf_H D q) d i_Mod_point [.ref m, .int (nI i), .int x, .int y, .int b] L f 0 0 (tm_to q ad m W0 L (some (.int (nI pt + kI 1 - kI 1))) (upd J 0 (kI 0)) (tm_pointA A i pt x y b) (R)) := by
  have hiv : vp_in (nI i) 40 := vp_in_nI (by omega) (by omega)
  have hic : (nI i).toNatClampNeg = i := nI_clamp (by omega)
  have hp0 : kI 40 * nI i + nI pt = nI (40 * i + pt) := by rw [show kI 40 = nI 40 from rfl, nI_mul, nI_add]
  have hpv : vp_in (nI (40 * i + pt)) 1600 := vp_in_nI (by omega) (by omega)
  have hpc : (nI (40 * i + pt)).toNatClampNeg = 40 * i + pt := nI_clamp (by omega)
  refine tf_C.of (tf_gok _ _) (by decide) w_1306 (Nat.le_of_ble_eq_true rfl) ?_
  refine tf_blk _ b_Mod_point_0 rfl ?_
  refine tf_cV (tf_gok _ _) (c_Mod_isGlyph l D q (d - 1) _ _ hT _) 6 d_Mod_point_3 rfl lk_Mod_148 cw_Mod_isGlyph (by rfl) in_Mod_isGlyph se_Mod_isGlyph (by exact hT.1.1) (by exact hT.1.2.1) (by rfl) (by rfl) (by omega) (by exact Nat.le_of_ble_eq_true rfl) rfl ?_
  rintro v3 L3 f3 ⟨rfl, rfl, rfl⟩
  refine tf_if_eq 23 9 d_Mod_point_6 rfl rfl (fun h6 => absurd h6 (by rw [hG]; decide)) (fun h6 => ?_)
  refine tf_blk _ b_Mod_point_9 rfl ?_
  refine tf_cS (tf_gok _ _) (c_Mod_isPlace l D q (d - 1) _ _ _) 13 d_Mod_point_10 rfl lk_Mod_152 cw_Mod_isPlace (by rfl) sa_Mod_isPlace (by omega) (by exact Nat.le_of_ble_eq_true rfl) rfl ?_
  rintro v10 L10 f10 ⟨rfl, rfl, rfl⟩
  refine tf_if_eq 23 16 d_Mod_point_13 rfl rfl (fun h13 => absurd h13 (by rw [hx]; decide)) (fun h13 => ?_)
  refine tf_blk _ b_Mod_point_16 rfl ?_
  refine tf_cS (tf_gok _ _) (c_Mod_isPlace l D q (d - 1) _ _ _) 20 d_Mod_point_17 rfl lk_Mod_152 cw_Mod_isPlace (by rfl) sa_Mod_isPlace (by omega) (by exact Nat.le_of_ble_eq_true rfl) rfl ?_
  rintro v17 L17 f17 ⟨rfl, rfl, rfl⟩
  refine tf_if_ne 27 23 d_Mod_point_20 rfl rfl (fun h20 => ?_) (fun h20 => absurd h20 (by rw [hy]; decide))
  refine tf_blk _ b_Mod_point_27 rfl ?_
  refine tm_get 31 d_Mod_point_28 rfl fl_Mod_29 hT rfl ?_
  refine tf_blk _ b_Mod_point_31 rfl ?_
  first | refine tm_zald _ 33 d_Mod_point_32 rfl hT rfl (hiv) ?_ | refine tm_bald _ 33 d_Mod_point_32 rfl hT rfl (hiv) ?_
  refine tf_if_ne 47 36 d_Mod_point_33 rfl rfl (fun h33 => absurd h33 (not_not_intro (by rw [hic]; exact h9))) (fun h33 => ?_)
  refine tf_blk _ b_Mod_point_36 rfl ?_
  refine tm_get 40 d_Mod_point_37 rfl fl_Mod_17 hT rfl ?_
  refine tf_blk _ b_Mod_point_40 rfl ?_
  refine tm_iald _ 42 d_Mod_point_41 rfl hT rfl (hiv) ?_
  refine tf_blk _ b_Mod_point_42 rfl ?_
  refine tf_ic_ne 51 47 d_Mod_point_44 rfl rfl (fun h44 => ?_) (fun h44 => absurd h44 (by rw [hic, h5]; exact fun z => absurd ((nI_eq (b := 40) (by omega) (by omega)).mp z) (by omega)))
  refine tf_blk _ b_Mod_point_51 rfl ?_
  refine tm_put 55 d_Mod_point_52 rfl fw_Mod_123 hT (by decide) rfl rfl rfl (fun f hT => ?_)
  refine tf_blk _ b_Mod_point_55 rfl ?_
  refine tm_get 59 d_Mod_point_56 rfl fl_Mod_123 hT rfl ?_
  refine tf_if_le 64 62 d_Mod_point_59 rfl rfl (fun h59 => ?_) (fun h59 => absurd (show kI 0 ≤ 0 by decide) h59)
  refine tf_blk _ b_Mod_point_64 rfl ?_
  refine tm_get 72 d_Mod_point_69 rfl fl_Mod_17 hT rfl ?_
  refine tf_blk _ b_Mod_point_72 rfl ?_
  refine tm_iald _ 74 d_Mod_point_73 rfl hT rfl (hiv) ?_
  refine tf_blk _ b_Mod_point_74 rfl ?_
  rw [hic, h5, hp0]
  refine t_Mod_point l D q d _ (by omega) (p := 40 * i + pt) (by omega) x y b 4 0 (A 3) _ (by omega) (tm_A3 hT) (fun f2 hT => ?_)
  refine tf_blk _ b_Mod_point_109 rfl ?_
  refine tm_get 113 d_Mod_point_110 rfl fl_Mod_13 hT rfl ?_
  refine tf_blk _ b_Mod_point_113 rfl ?_
  refine tm_get 120 d_Mod_point_117 rfl fl_Mod_23 hT rfl ?_
  refine tf_blk _ b_Mod_point_120 rfl ?_
  refine tm_iald _ 122 d_Mod_point_121 rfl hT rfl (hiv) ?_
  refine tf_blk _ b_Mod_point_122 rfl ?_
  refine tf_if_eq 132 128 d_Mod_point_125 rfl rfl (fun h125 => ?_) (fun h125 => absurd (hb) h125)
  refine tf_blk _ b_Mod_point_132 rfl ?_
  refine tf_blk _ b_Mod_point_133 rfl ?_
  first | refine tm_zast _ 136 d_Mod_point_135 rfl hT rfl (hpv) (fun f hT => ?_) | refine tm_bast _ 136 d_Mod_point_135 rfl hT rfl (hpv) (fun f hT => ?_)
  refine tf_blk _ b_Mod_point_136 rfl ?_
  refine tm_get 140 d_Mod_point_137 rfl fl_Mod_17 hT rfl ?_
  refine tf_blk _ b_Mod_point_140 rfl ?_
  refine tm_iald _ 143 d_Mod_point_142 rfl hT rfl (hiv) ?_
  refine tf_blk _ b_Mod_point_143 rfl ?_
  refine tm_iast _ 146 d_Mod_point_145 rfl hT rfl (hiv) (fun f hT => ?_)
  refine tf_blk _ b_Mod_point_146 rfl ?_
  refine tm_get 150 d_Mod_point_147 rfl fl_Mod_17 hT rfl ?_
  refine tf_blk _ b_Mod_point_150 rfl ?_
  refine tm_iald _ 152 d_Mod_point_151 rfl hT rfl (hiv) ?_
  refine tf_blk _ b_Mod_point_152 rfl ?_
  refine tf_iret d_Mod_point_154 rfl ?_
  rw [hic, hpc] at hT
  refine ⟨?_, rfl, ?_⟩
  · rw [hic]
    show some (Value.int (upd (A 5) i (A 5 i + kI 1) i - kI 1)) = some (Value.int (nI pt + kI 1 - kI 1))
    rw [h5]
    simp [upd]
  · unfold tm_pointA
    rw [if_pos hb]
    rw [← h5]
    exact hT
set_option maxHeartbeats 4000000 in
set_option maxRecDepth 100000 in
theorem c_Mod_point_t1 (hd : 1 ≤ d) (hT : tm_at q ad m W0 L J A R f) {i pt : Nat} (hi : i < 40) (hpt : pt < 40) (x y b : Int32) (hG : tm_isG J (nI i) = true) (hx : tm_isP x = true) (hy : tm_isP y = true) (h9 : A 9 i = 0) (h5 : A 5 i = nI pt) (hb : ¬ b = 0) : tf_C l (tf_H D q) d i_Mod_point [.ref m, .int (nI i), .int x, .int y, .int b] L f 0 0 (tm_to q ad m W0 L (some (.int (nI pt + kI 1 - kI 1))) (upd J 0 (kI 0)) (tm_pointA A i pt x y b) (R)) := by
  have hiv : vp_in (nI i) 40 := vp_in_nI (by omega) (by omega)
  have hic : (nI i).toNatClampNeg = i := nI_clamp (by omega)
  have hp0 : kI 40 * nI i + nI pt = nI (40 * i + pt) := by rw [show kI 40 = nI 40 from rfl, nI_mul, nI_add]
  have hpv : vp_in (nI (40 * i + pt)) 1600 := vp_in_nI (by omega) (by omega)
  have hpc : (nI (40 * i + pt)).toNatClampNeg = 40 * i + pt := nI_clamp (by omega)
  refine tf_C.of (tf_gok _ _) (by decide) w_1306 (Nat.le_of_ble_eq_true rfl) ?_
  refine tf_blk _ b_Mod_point_0 rfl ?_
  refine tf_cV (tf_gok _ _) (c_Mod_isGlyph l D q (d - 1) _ _ hT _) 6 d_Mod_point_3 rfl lk_Mod_148 cw_Mod_isGlyph (by rfl) in_Mod_isGlyph se_Mod_isGlyph (by exact hT.1.1) (by exact hT.1.2.1) (by rfl) (by rfl) (by omega) (by exact Nat.le_of_ble_eq_true rfl) rfl ?_
  rintro v3 L3 f3 ⟨rfl, rfl, rfl⟩
  refine tf_if_eq 23 9 d_Mod_point_6 rfl rfl (fun h6 => absurd h6 (by rw [hG]; decide)) (fun h6 => ?_)
  refine tf_blk _ b_Mod_point_9 rfl ?_
  refine tf_cS (tf_gok _ _) (c_Mod_isPlace l D q (d - 1) _ _ _) 13 d_Mod_point_10 rfl lk_Mod_152 cw_Mod_isPlace (by rfl) sa_Mod_isPlace (by omega) (by exact Nat.le_of_ble_eq_true rfl) rfl ?_
  rintro v10 L10 f10 ⟨rfl, rfl, rfl⟩
  refine tf_if_eq 23 16 d_Mod_point_13 rfl rfl (fun h13 => absurd h13 (by rw [hx]; decide)) (fun h13 => ?_)
  refine tf_blk _ b_Mod_point_16 rfl ?_
  refine tf_cS (tf_gok _ _) (c_Mod_isPlace l D q (d - 1) _ _ _) 20 d_Mod_point_17 rfl lk_Mod_152 cw_Mod_isPlace (by rfl) sa_Mod_isPlace (by omega) (by exact Nat.le_of_ble_eq_true rfl) rfl ?_
  rintro v17 L17 f17 ⟨rfl, rfl, rfl⟩
  refine tf_if_ne 27 23 d_Mod_point_20 rfl rfl (fun h20 => ?_) (fun h20 => absurd h20 (by rw [hy]; decide))
  refine tf_blk _ b_Mod_point_27 rfl ?_
  refine tm_get 31 d_Mod_point_28 rfl fl_Mod_29 hT rfl ?_
  refine tf_blk _ b_Mod_point_31 rfl ?_
  first | refine tm_zald _ 33 d_Mod_point_32 rfl hT rfl (hiv) ?_ | refine tm_bald _ 33 d_Mod_point_32 rfl hT rfl (hiv) ?_
  refine tf_if_ne 47 36 d_Mod_point_33 rfl rfl (fun h33 => absurd h33 (not_not_intro (by rw [hic]; exact h9))) (fun h33 => ?_)
  refine tf_blk _ b_Mod_point_36 rfl ?_
  refine tm_get 40 d_Mod_point_37 rfl fl_Mod_17 hT rfl ?_
  refine tf_blk _ b_Mod_point_40 rfl ?_
  refine tm_iald _ 42 d_Mod_point_41 rfl hT rfl (hiv) ?_
  refine tf_blk _ b_Mod_point_42 rfl ?_
  refine tf_ic_ne 51 47 d_Mod_point_44 rfl rfl (fun h44 => ?_) (fun h44 => absurd h44 (by rw [hic, h5]; exact fun z => absurd ((nI_eq (b := 40) (by omega) (by omega)).mp z) (by omega)))
  refine tf_blk _ b_Mod_point_51 rfl ?_
  refine tm_put 55 d_Mod_point_52 rfl fw_Mod_123 hT (by decide) rfl rfl rfl (fun f hT => ?_)
  refine tf_blk _ b_Mod_point_55 rfl ?_
  refine tm_get 59 d_Mod_point_56 rfl fl_Mod_123 hT rfl ?_
  refine tf_if_le 64 62 d_Mod_point_59 rfl rfl (fun h59 => ?_) (fun h59 => absurd (show kI 0 ≤ 0 by decide) h59)
  refine tf_blk _ b_Mod_point_64 rfl ?_
  refine tm_get 72 d_Mod_point_69 rfl fl_Mod_17 hT rfl ?_
  refine tf_blk _ b_Mod_point_72 rfl ?_
  refine tm_iald _ 74 d_Mod_point_73 rfl hT rfl (hiv) ?_
  refine tf_blk _ b_Mod_point_74 rfl ?_
  rw [hic, h5, hp0]
  refine t_Mod_point l D q d _ (by omega) (p := 40 * i + pt) (by omega) x y b 4 0 (A 3) _ (by omega) (tm_A3 hT) (fun f2 hT => ?_)
  refine tf_blk _ b_Mod_point_109 rfl ?_
  refine tm_get 113 d_Mod_point_110 rfl fl_Mod_13 hT rfl ?_
  refine tf_blk _ b_Mod_point_113 rfl ?_
  refine tm_get 120 d_Mod_point_117 rfl fl_Mod_23 hT rfl ?_
  refine tf_blk _ b_Mod_point_120 rfl ?_
  refine tm_iald _ 122 d_Mod_point_121 rfl hT rfl (hiv) ?_
  refine tf_blk _ b_Mod_point_122 rfl ?_
  refine tf_if_eq 132 128 d_Mod_point_125 rfl rfl (fun h125 => absurd h125 (hb)) (fun h125 => ?_)
  refine tf_blk _ b_Mod_point_128 rfl ?_
  refine tf_goto 133 d_Mod_point_129 rfl ?_
  refine tf_blk _ b_Mod_point_133 rfl ?_
  first | refine tm_zast _ 136 d_Mod_point_135 rfl hT rfl (hpv) (fun f hT => ?_) | refine tm_bast _ 136 d_Mod_point_135 rfl hT rfl (hpv) (fun f hT => ?_)
  refine tf_blk _ b_Mod_point_136 rfl ?_
  refine tm_get 140 d_Mod_point_137 rfl fl_Mod_17 hT rfl ?_
  refine tf_blk _ b_Mod_point_140 rfl ?_
  refine tm_iald _ 143 d_Mod_point_142 rfl hT rfl (hiv) ?_
  refine tf_blk _ b_Mod_point_143 rfl ?_
  refine tm_iast _ 146 d_Mod_point_145 rfl hT rfl (hiv) (fun f hT => ?_)
  refine tf_blk _ b_Mod_point_146 rfl ?_
  refine tm_get 150 d_Mod_point_147 rfl fl_Mod_17 hT rfl ?_
  refine tf_blk _ b_Mod_point_150 rfl ?_
  refine tm_iald _ 152 d_Mod_point_151 rfl hT rfl (hiv) ?_
  refine tf_blk _ b_Mod_point_152 rfl ?_
  refine tf_iret d_Mod_point_154 rfl ?_
  rw [hic, hpc] at hT
  refine ⟨?_, rfl, ?_⟩
  · rw [hic]
    show some (Value.int (upd (A 5) i (A 5 i + kI 1) i - kI 1)) = some (Value.int (nI pt + kI 1 - kI 1))
    rw [h5]
    simp [upd]
  · unfold tm_pointA
    rw [if_neg hb]
    rw [← h5]
    exact hT
set_option maxHeartbeats 4000000 in
set_option maxRecDepth 100000 in
theorem c_Mod_place_1 (hd : 1 ≤ d) (hT : tm_at q ad m W0 L J A R f) {i : Nat} (hi : i < 40) (p k x y : Int32) (hb : ¬ (tm_isG J (nI i) = true ∧ ¬ p < 0 ∧ ¬ k < 0 ∧ ¬ J 1 ≤ k)) : tf_C l (tf_H D q) d i_Mod_place [.ref m, .int (nI i), .int p, .int k, .int x, .int y] L f 0 0 (tm_to q ad m W0 L (none) (upd J 0 (kI 1)) (A) (R)) := by
  refine tf_C.of (tf_gok _ _) (by decide) w_1324 (Nat.le_of_ble_eq_true rfl) ?_
  refine tf_blk _ b_Mod_place_0 rfl ?_
  refine tf_cV (tf_gok _ _) (c_Mod_isGlyph l D q (d - 1) _ _ hT _) 5 d_Mod_place_2 rfl lk_Mod_148 cw_Mod_isGlyph (by rfl) in_Mod_isGlyph se_Mod_isGlyph (by exact hT.1.1) (by exact hT.1.2.1) (by rfl) (by rfl) (by omega) (by exact Nat.le_of_ble_eq_true rfl) rfl ?_
  rintro v2 L2 f2 ⟨rfl, rfl, rfl⟩
  refine tf_if_eq 28 8 d_Mod_place_5 rfl rfl (fun h5 => ?_) (fun h5 => ?_)
  · refine tf_blk _ b_Mod_place_28 rfl ?_
    refine tf_blk _ b_Mod_place_29 rfl ?_
    refine tf_if_eq 47 37 d_Mod_place_34 rfl rfl (fun h34 => ?_) (fun h34 => absurd (show kI 0 = 0 by decide) h34)
    refine tf_blk _ b_Mod_place_47 rfl ?_
    refine tf_goto 72 d_Mod_place_48 rfl ?_
    refine tm_put 75 d_Mod_place_72 rfl fw_Mod_123 hT (by decide) rfl rfl rfl (fun f hT => ?_)
    refine tf_blk _ b_Mod_place_75 rfl ?_
    refine tm_get 79 d_Mod_place_76 rfl fl_Mod_123 hT rfl ?_
    refine tf_if_ne 105 82 d_Mod_place_79 rfl rfl (fun h79 => ?_) (fun h79 => absurd h79 (show ¬ kI 1 = 0 by decide))
    refine tf_vret d_Mod_place_105 rfl ?_
    exact ⟨rfl, rfl, hT⟩
  · refine tf_blk _ b_Mod_place_8 rfl ?_
    refine tf_if_lt 28 12 d_Mod_place_9 rfl rfl (fun h9 => ?_) (fun h9 => ?_)
    · refine tf_blk _ b_Mod_place_28 rfl ?_
      refine tf_blk _ b_Mod_place_29 rfl ?_
      refine tf_if_eq 47 37 d_Mod_place_34 rfl rfl (fun h34 => ?_) (fun h34 => absurd (show kI 0 = 0 by decide) h34)
      refine tf_blk _ b_Mod_place_47 rfl ?_
      refine tf_goto 72 d_Mod_place_48 rfl ?_
      refine tm_put 75 d_Mod_place_72 rfl fw_Mod_123 hT (by decide) rfl rfl rfl (fun f hT => ?_)
      refine tf_blk _ b_Mod_place_75 rfl ?_
      refine tm_get 79 d_Mod_place_76 rfl fl_Mod_123 hT rfl ?_
      refine tf_if_ne 105 82 d_Mod_place_79 rfl rfl (fun h79 => ?_) (fun h79 => absurd h79 (show ¬ kI 1 = 0 by decide))
      refine tf_vret d_Mod_place_105 rfl ?_
      exact ⟨rfl, rfl, hT⟩
    · refine tf_blk _ b_Mod_place_12 rfl ?_
      refine tf_if_lt 28 16 d_Mod_place_13 rfl rfl (fun h13 => ?_) (fun h13 => ?_)
      · refine tf_blk _ b_Mod_place_28 rfl ?_
        refine tf_blk _ b_Mod_place_29 rfl ?_
        refine tf_if_eq 47 37 d_Mod_place_34 rfl rfl (fun h34 => ?_) (fun h34 => absurd (show kI 0 = 0 by decide) h34)
        refine tf_blk _ b_Mod_place_47 rfl ?_
        refine tf_goto 72 d_Mod_place_48 rfl ?_
        refine tm_put 75 d_Mod_place_72 rfl fw_Mod_123 hT (by decide) rfl rfl rfl (fun f hT => ?_)
        refine tf_blk _ b_Mod_place_75 rfl ?_
        refine tm_get 79 d_Mod_place_76 rfl fl_Mod_123 hT rfl ?_
        refine tf_if_ne 105 82 d_Mod_place_79 rfl rfl (fun h79 => ?_) (fun h79 => absurd h79 (show ¬ kI 1 = 0 by decide))
        refine tf_vret d_Mod_place_105 rfl ?_
        exact ⟨rfl, rfl, hT⟩
      · refine tf_blk _ b_Mod_place_16 rfl ?_
        refine tm_get 21 d_Mod_place_18 rfl fl_Mod_119 hT rfl ?_
        refine tf_ic_ge 28 24 d_Mod_place_21 rfl rfl (fun h21 => ?_) (fun h21 => ?_)
        · refine tf_blk _ b_Mod_place_28 rfl ?_
          refine tf_blk _ b_Mod_place_29 rfl ?_
          refine tf_if_eq 47 37 d_Mod_place_34 rfl rfl (fun h34 => ?_) (fun h34 => absurd (show kI 0 = 0 by decide) h34)
          refine tf_blk _ b_Mod_place_47 rfl ?_
          refine tf_goto 72 d_Mod_place_48 rfl ?_
          refine tm_put 75 d_Mod_place_72 rfl fw_Mod_123 hT (by decide) rfl rfl rfl (fun f hT => ?_)
          refine tf_blk _ b_Mod_place_75 rfl ?_
          refine tm_get 79 d_Mod_place_76 rfl fl_Mod_123 hT rfl ?_
          refine tf_if_ne 105 82 d_Mod_place_79 rfl rfl (fun h79 => ?_) (fun h79 => absurd h79 (show ¬ kI 1 = 0 by decide))
          refine tf_vret d_Mod_place_105 rfl ?_
          exact ⟨rfl, rfl, hT⟩
        · exact absurd ⟨bI_t h5, h9, h13, h21⟩ hb
set_option maxHeartbeats 4000000 in
set_option maxRecDepth 100000 in
theorem c_Mod_place_p (hd : 1 ≤ d) (hT : tm_at q ad m W0 L J A R f) {i : Nat} (hi : i < 40) (p k x y : Int32) (hG : tm_isG J (nI i) = true) (hp : ¬ p < 0) (hk : ¬ k < 0) (hk2 : ¬ J 1 ≤ k) (hq5 : ¬ p < A 5 i) : tf_C l (tf_H D q) d i_Mod_place [.ref m, .int (nI i), .int p, .int k, .int x, .int y] L f 0 0 (tm_to q ad m W0 L (none) (upd J 0 (kI 1)) (A) (R)) := by
  have hiv : vp_in (nI i) 40 := vp_in_nI (by omega) (by omega)
  have hic : (nI i).toNatClampNeg = i := nI_clamp (by omega)
  refine tf_C.of (tf_gok _ _) (by decide) w_1324 (Nat.le_of_ble_eq_true rfl) ?_
  refine tf_blk _ b_Mod_place_0 rfl ?_
  refine tf_cV (tf_gok _ _) (c_Mod_isGlyph l D q (d - 1) _ _ hT _) 5 d_Mod_place_2 rfl lk_Mod_148 cw_Mod_isGlyph (by rfl) in_Mod_isGlyph se_Mod_isGlyph (by exact hT.1.1) (by exact hT.1.2.1) (by rfl) (by rfl) (by omega) (by exact Nat.le_of_ble_eq_true rfl) rfl ?_
  rintro v2 L2 f2 ⟨rfl, rfl, rfl⟩
  refine tf_if_eq 28 8 d_Mod_place_5 rfl rfl (fun h5 => absurd h5 (by rw [hG]; decide)) (fun h5 => ?_)
  refine tf_blk _ b_Mod_place_8 rfl ?_
  refine tf_if_lt 28 12 d_Mod_place_9 rfl rfl (fun h9 => absurd h9 (hp)) (fun h9 => ?_)
  refine tf_blk _ b_Mod_place_12 rfl ?_
  refine tf_if_lt 28 16 d_Mod_place_13 rfl rfl (fun h13 => absurd h13 (hk)) (fun h13 => ?_)
  refine tf_blk _ b_Mod_place_16 rfl ?_
  refine tm_get 21 d_Mod_place_18 rfl fl_Mod_119 hT rfl ?_
  refine tf_ic_ge 28 24 d_Mod_place_21 rfl rfl (fun h21 => absurd h21 (hk2)) (fun h21 => ?_)
  refine tf_blk _ b_Mod_place_24 rfl ?_
  refine tf_goto 29 d_Mod_place_25 rfl ?_
  refine tf_blk _ b_Mod_place_29 rfl ?_
  refine tf_if_eq 47 37 d_Mod_place_34 rfl rfl (fun h34 => absurd h34 (show ¬ kI 1 = 0 by decide)) (fun h34 => ?_)
  refine tf_blk _ b_Mod_place_37 rfl ?_
  refine tm_get 42 d_Mod_place_39 rfl fl_Mod_17 hT rfl ?_
  refine tf_blk _ b_Mod_place_42 rfl ?_
  refine tm_iald _ 44 d_Mod_place_43 rfl hT rfl (hiv) ?_
  refine tf_ic_lt 51 47 d_Mod_place_44 rfl rfl (fun h44 => absurd h44 (by rw [hic]; exact hq5)) (fun h44 => ?_)
  refine tf_blk _ b_Mod_place_47 rfl ?_
  refine tf_goto 72 d_Mod_place_48 rfl ?_
  refine tm_put 75 d_Mod_place_72 rfl fw_Mod_123 hT (by decide) rfl rfl rfl (fun f hT => ?_)
  refine tf_blk _ b_Mod_place_75 rfl ?_
  refine tm_get 79 d_Mod_place_76 rfl fl_Mod_123 hT rfl ?_
  refine tf_if_ne 105 82 d_Mod_place_79 rfl rfl (fun h79 => ?_) (fun h79 => absurd h79 (show ¬ kI 1 = 0 by decide))
  refine tf_vret d_Mod_place_105 rfl ?_
  exact ⟨rfl, rfl, hT⟩
set_option maxHeartbeats 4000000 in
set_option maxRecDepth 100000 in
theorem c_Mod_place_x (hd : 1 ≤ d) (hT : tm_at q ad m W0 L J A R f) {i : Nat} (hi : i < 40) (p k x y : Int32) (hG : tm_isG J (nI i) = true) (hp : ¬ p < 0) (hk : ¬ k < 0) (hk2 : ¬ J 1 ≤ k) (hq5 : p < A 5 i) (hx : ¬ (tm_isP x = true ∧ tm_isP y = true)) : tf_C l (tf_H D q) d i_Mod_place [.ref m, .int (nI i), .int p, .int k, .int x, .int y] L f 0 0 (tm_to q ad m W0 L (none) (upd J 0 (kI 2)) (A) (R)) := by
  have hiv : vp_in (nI i) 40 := vp_in_nI (by omega) (by omega)
  have hic : (nI i).toNatClampNeg = i := nI_clamp (by omega)
  refine tf_C.of (tf_gok _ _) (by decide) w_1324 (Nat.le_of_ble_eq_true rfl) ?_
  refine tf_blk _ b_Mod_place_0 rfl ?_
  refine tf_cV (tf_gok _ _) (c_Mod_isGlyph l D q (d - 1) _ _ hT _) 5 d_Mod_place_2 rfl lk_Mod_148 cw_Mod_isGlyph (by rfl) in_Mod_isGlyph se_Mod_isGlyph (by exact hT.1.1) (by exact hT.1.2.1) (by rfl) (by rfl) (by omega) (by exact Nat.le_of_ble_eq_true rfl) rfl ?_
  rintro v2 L2 f2 ⟨rfl, rfl, rfl⟩
  refine tf_if_eq 28 8 d_Mod_place_5 rfl rfl (fun h5 => absurd h5 (by rw [hG]; decide)) (fun h5 => ?_)
  refine tf_blk _ b_Mod_place_8 rfl ?_
  refine tf_if_lt 28 12 d_Mod_place_9 rfl rfl (fun h9 => absurd h9 (hp)) (fun h9 => ?_)
  refine tf_blk _ b_Mod_place_12 rfl ?_
  refine tf_if_lt 28 16 d_Mod_place_13 rfl rfl (fun h13 => absurd h13 (hk)) (fun h13 => ?_)
  refine tf_blk _ b_Mod_place_16 rfl ?_
  refine tm_get 21 d_Mod_place_18 rfl fl_Mod_119 hT rfl ?_
  refine tf_ic_ge 28 24 d_Mod_place_21 rfl rfl (fun h21 => absurd h21 (hk2)) (fun h21 => ?_)
  refine tf_blk _ b_Mod_place_24 rfl ?_
  refine tf_goto 29 d_Mod_place_25 rfl ?_
  refine tf_blk _ b_Mod_place_29 rfl ?_
  refine tf_if_eq 47 37 d_Mod_place_34 rfl rfl (fun h34 => absurd h34 (show ¬ kI 1 = 0 by decide)) (fun h34 => ?_)
  refine tf_blk _ b_Mod_place_37 rfl ?_
  refine tm_get 42 d_Mod_place_39 rfl fl_Mod_17 hT rfl ?_
  refine tf_blk _ b_Mod_place_42 rfl ?_
  refine tm_iald _ 44 d_Mod_place_43 rfl hT rfl (hiv) ?_
  refine tf_ic_lt 51 47 d_Mod_place_44 rfl rfl (fun h44 => ?_) (fun h44 => absurd (by rw [hic]; exact hq5) h44)
  refine tf_blk _ b_Mod_place_51 rfl ?_
  refine tf_cS (tf_gok _ _) (c_Mod_isPlace l D q (d - 1) _ _ _) 56 d_Mod_place_53 rfl lk_Mod_152 cw_Mod_isPlace (by rfl) sa_Mod_isPlace (by omega) (by exact Nat.le_of_ble_eq_true rfl) rfl ?_
  rintro v53 L53 f53 ⟨rfl, rfl, rfl⟩
  refine tf_if_eq 67 59 d_Mod_place_56 rfl rfl (fun h56 => ?_) (fun h56 => ?_)
  · refine tf_blk _ b_Mod_place_67 rfl ?_
    refine tf_goto 72 d_Mod_place_68 rfl ?_
    refine tm_put 75 d_Mod_place_72 rfl fw_Mod_123 hT (by decide) rfl rfl rfl (fun f hT => ?_)
    refine tf_blk _ b_Mod_place_75 rfl ?_
    refine tm_get 79 d_Mod_place_76 rfl fl_Mod_123 hT rfl ?_
    refine tf_if_ne 105 82 d_Mod_place_79 rfl rfl (fun h79 => ?_) (fun h79 => absurd h79 (show ¬ kI 2 = 0 by decide))
    refine tf_vret d_Mod_place_105 rfl ?_
    exact ⟨rfl, rfl, hT⟩
  · refine tf_blk _ b_Mod_place_59 rfl ?_
    refine tf_cS (tf_gok _ _) (c_Mod_isPlace l D q (d - 1) _ _ _) 64 d_Mod_place_61 rfl lk_Mod_152 cw_Mod_isPlace (by rfl) sa_Mod_isPlace (by omega) (by exact Nat.le_of_ble_eq_true rfl) rfl ?_
    rintro v61 L61 f61 ⟨rfl, rfl, rfl⟩
    refine tf_if_ne 71 67 d_Mod_place_64 rfl rfl (fun h64 => ?_) (fun h64 => ?_)
    · exact absurd ⟨bI_t h56, bI_t h64⟩ hx
    · refine tf_blk _ b_Mod_place_67 rfl ?_
      refine tf_goto 72 d_Mod_place_68 rfl ?_
      refine tm_put 75 d_Mod_place_72 rfl fw_Mod_123 hT (by decide) rfl rfl rfl (fun f hT => ?_)
      refine tf_blk _ b_Mod_place_75 rfl ?_
      refine tm_get 79 d_Mod_place_76 rfl fl_Mod_123 hT rfl ?_
      refine tf_if_ne 105 82 d_Mod_place_79 rfl rfl (fun h79 => ?_) (fun h79 => absurd h79 (show ¬ kI 2 = 0 by decide))
      refine tf_vret d_Mod_place_105 rfl ?_
      exact ⟨rfl, rfl, hT⟩
set_option maxHeartbeats 4000000 in
set_option maxRecDepth 100000 in
theorem c_Mod_place_t (hd : 1 ≤ d) (hT : tm_at q ad m W0 L J A R f) {i : Nat} (hi : i < 40) {p k : Nat} (hp : p < 40) (hk : k < 4) (x y : Int32) (hG : tm_isG J (nI i) = true) (hk2 : ¬ J 1 ≤ nI k) (hq5 : nI p < A 5 i) (hx : tm_isP x = true) (hy : tm_isP y = true) : tf_C l (tf_H D q) d i_Mod_place [.ref m, .int (nI i), .int (nI p), .int (nI k), .int x, .int y] L f 0 0 (tm_to q ad m W0 L (none) (upd J 0 (kI 0)) (va_up A 3 (upd (A 3) (160 * i + 4 * p + k) (tm_pk x y))) (R)) := by
  have hiv : vp_in (nI i) 40 := vp_in_nI (by omega) (by omega)
  have hic : (nI i).toNatClampNeg = i := nI_clamp (by omega)
  have e0 : kI 160 * nI i + kI 4 * nI p + nI k = nI (160 * i + 4 * p + k) := by rw [show kI 160 = nI 160 from rfl, show kI 4 = nI 4 from rfl, nI_mul, nI_mul, nI_add, nI_add]
  have hv : vp_in (kI 160 * nI i + kI 4 * nI p + nI k) 6400 := by rw [e0]; exact vp_in_nI (by omega) (by omega)
  have hc : (kI 160 * nI i + kI 4 * nI p + nI k).toNatClampNeg = 160 * i + 4 * p + k := by rw [e0]; exact nI_clamp (show 160 * i + 4 * p + k < 2 ^ 31 by omega)
  refine tf_C.of (tf_gok _ _) (by decide) w_1324 (Nat.le_of_ble_eq_true rfl) ?_
  refine tf_blk _ b_Mod_place_0 rfl ?_
  refine tf_cV (tf_gok _ _) (c_Mod_isGlyph l D q (d - 1) _ _ hT _) 5 d_Mod_place_2 rfl lk_Mod_148 cw_Mod_isGlyph (by rfl) in_Mod_isGlyph se_Mod_isGlyph (by exact hT.1.1) (by exact hT.1.2.1) (by rfl) (by rfl) (by omega) (by exact Nat.le_of_ble_eq_true rfl) rfl ?_
  rintro v2 L2 f2 ⟨rfl, rfl, rfl⟩
  refine tf_if_eq 28 8 d_Mod_place_5 rfl rfl (fun h5 => absurd h5 (by rw [hG]; decide)) (fun h5 => ?_)
  refine tf_blk _ b_Mod_place_8 rfl ?_
  refine tf_if_lt 28 12 d_Mod_place_9 rfl rfl (fun h9 => absurd h9 (nI_pos (by omega))) (fun h9 => ?_)
  refine tf_blk _ b_Mod_place_12 rfl ?_
  refine tf_if_lt 28 16 d_Mod_place_13 rfl rfl (fun h13 => absurd h13 (nI_pos (by omega))) (fun h13 => ?_)
  refine tf_blk _ b_Mod_place_16 rfl ?_
  refine tm_get 21 d_Mod_place_18 rfl fl_Mod_119 hT rfl ?_
  refine tf_ic_ge 28 24 d_Mod_place_21 rfl rfl (fun h21 => absurd h21 (hk2)) (fun h21 => ?_)
  refine tf_blk _ b_Mod_place_24 rfl ?_
  refine tf_goto 29 d_Mod_place_25 rfl ?_
  refine tf_blk _ b_Mod_place_29 rfl ?_
  refine tf_if_eq 47 37 d_Mod_place_34 rfl rfl (fun h34 => absurd h34 (show ¬ kI 1 = 0 by decide)) (fun h34 => ?_)
  refine tf_blk _ b_Mod_place_37 rfl ?_
  refine tm_get 42 d_Mod_place_39 rfl fl_Mod_17 hT rfl ?_
  refine tf_blk _ b_Mod_place_42 rfl ?_
  refine tm_iald _ 44 d_Mod_place_43 rfl hT rfl (hiv) ?_
  refine tf_ic_lt 51 47 d_Mod_place_44 rfl rfl (fun h44 => ?_) (fun h44 => absurd (by rw [hic]; exact hq5) h44)
  refine tf_blk _ b_Mod_place_51 rfl ?_
  refine tf_cS (tf_gok _ _) (c_Mod_isPlace l D q (d - 1) _ _ _) 56 d_Mod_place_53 rfl lk_Mod_152 cw_Mod_isPlace (by rfl) sa_Mod_isPlace (by omega) (by exact Nat.le_of_ble_eq_true rfl) rfl ?_
  rintro v53 L53 f53 ⟨rfl, rfl, rfl⟩
  refine tf_if_eq 67 59 d_Mod_place_56 rfl rfl (fun h56 => absurd h56 (by rw [hx]; decide)) (fun h56 => ?_)
  refine tf_blk _ b_Mod_place_59 rfl ?_
  refine tf_cS (tf_gok _ _) (c_Mod_isPlace l D q (d - 1) _ _ _) 64 d_Mod_place_61 rfl lk_Mod_152 cw_Mod_isPlace (by rfl) sa_Mod_isPlace (by omega) (by exact Nat.le_of_ble_eq_true rfl) rfl ?_
  rintro v61 L61 f61 ⟨rfl, rfl, rfl⟩
  refine tf_if_ne 71 67 d_Mod_place_64 rfl rfl (fun h64 => ?_) (fun h64 => absurd h64 (by rw [hy]; decide))
  refine tf_blk _ b_Mod_place_71 rfl ?_
  refine tm_put 75 d_Mod_place_72 rfl fw_Mod_123 hT (by decide) rfl rfl rfl (fun f hT => ?_)
  refine tf_blk _ b_Mod_place_75 rfl ?_
  refine tm_get 79 d_Mod_place_76 rfl fl_Mod_123 hT rfl ?_
  refine tf_if_ne 105 82 d_Mod_place_79 rfl rfl (fun h79 => absurd h79 (show ¬ ¬ kI 0 = 0 by decide)) (fun h79 => ?_)
  refine tf_blk _ b_Mod_place_82 rfl ?_
  refine tm_get 86 d_Mod_place_83 rfl fl_Mod_7 hT rfl ?_
  refine tf_blk _ b_Mod_place_86 rfl ?_
  refine tf_cS (tf_gok _ _) (c_Mod_packed l D q (d - 1) _ _ _ _) 104 d_Mod_place_101 rfl lk_Mod_155 cw_Mod_packed (by rfl) sa_Mod_packed (by omega) (by exact Nat.le_of_ble_eq_true rfl) rfl ?_
  rintro v101 L101 f101 ⟨rfl, rfl, rfl⟩
  refine tm_iast _ 105 d_Mod_place_104 rfl hT rfl (hv) (fun f hT => ?_)
  refine tf_vret d_Mod_place_105 rfl ?_
  rw [hc] at hT
  exact ⟨rfl, rfl, hT⟩
end
