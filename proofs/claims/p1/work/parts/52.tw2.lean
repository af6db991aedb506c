/-! the reference: floor, near, advance, close, pixel, sort, kern, type, place -/
def tm_fl (a b : Int64) : Int64 := if 0 ≤ lg_cmp (a - a / b * b) 0 then a / b else a / b - 1
def tm_nr (a b : Int64) : Int64 := tm_fl (2 * a + b) (2 * b)
abbrev tm_J0 (J : Nat → Int32) : Nat → Int32 := upd J 0 (kI 0)
abbrev tm_wr (A : Nat → Nat → Int32) (k : Nat) (x v : Int32) : Nat → Nat → Int32 := va_up A k (upd (A k) x.toNatClampNeg v)
def tm_adv (J : Nat → Int32) (A : Nat → Nat → Int32) (g x w : Int32) : Bool × (Nat → Nat → Int32) :=
  if bI (tm_isG (tm_J0 J) g) = 0 then (false, A) else if x < 0 then (false, A) else if tm_J0 J 1 ≤ x then (false, A) else if w < 0 then (false, A) else if w ≤ kI 4000 then (true, tm_wr A 8 (kI 4 * g + x) w) else (false, A)
def tm_close (J : Nat → Int32) (A : Nat → Nat → Int32) (g : Int32) : Bool × (Nat → Nat → Int32) :=
  if bI (tm_isG (tm_J0 J) g) = 0 then (false, A) else if A 9 g.toNatClampNeg = 0 then (if kI 3 ≤ A 5 g.toNatClampNeg - A 6 g.toNatClampNeg then
    (true, tm_wr (tm_wr (tm_wr A 11 g (A 11 g.toNatClampNeg + (A 5 g.toNatClampNeg - A 6 g.toNatClampNeg))) 6 g (A 5 g.toNatClampNeg)) 7 g (A 7 g.toNatClampNeg + kI 1)) else (false, A)) else (false, A)
def tm_pix (J : Nat → Int32) (A : Nat → Nat → Int32) (x y : Int32) : Int32 :=
  if x < 0 then kI (-1) else if y < 0 then kI (-1) else if tm_J0 J 32 ≤ x then kI (-1) else if y < tm_J0 J 32 then A 31 (tm_J0 J 32 * y + x).toNatClampNeg else kI (-1)
def tm_sort (J : Nat → Int32) (A : Nat → Nat → Int32) (s g t : Int32) : Bool × (Nat → Nat → Int32) :=
  if s < 0 then (false, A) else if kI 1 < s then (false, A) else if bI (tm_isG (tm_J0 J) g) = 0 then (false, A) else if t < 0 then (false, A) else if t ≤ kI 15 then (true, if s = 0 then tm_wr A 35 g (vp_nar .byte t.toInt8.toInt32) else tm_wr A 36 g (vp_nar .byte t.toInt8.toInt32)) else (false, A)
def tm_kern (A : Nat → Nat → Int32) (x y b : Int32) : Bool × (Nat → Nat → Int32) :=
  if x < kI 1 then (false, A) else if kI 15 < x then (false, A) else if y < kI 1 then (false, A) else if kI 15 < y then (false, A) else if bI (tm_isK b) = 0 then (false, A) else (true, tm_wr (tm_wr A 37 (kI 16 * x + y) (vp_nar .short b.toInt16.toInt32)) 38 (kI 16 * x + y) (vp_nar .boolean (kI 1)))
def tm_type (J : Nat → Int32) (A : Nat → Nat → Int32) (g : Int32) : Bool × (Nat → Int32) × (Nat → Nat → Int32) :=
  if bI (tm_isG (tm_J0 J) g) = 0 then (false, tm_J0 J, A) else if tm_J0 J 50 = kI 60 then (false, tm_J0 J, A) else (true, upd (tm_J0 J) 50 (tm_J0 J 50 + kI 1), tm_wr A 49 (tm_J0 J 50) g)
section
variable (l : Launch) (D : va_G) (q : Nat → ClassId) (d : Nat) (L : List Nat) (f : tf_F) {ad : Nat → Nat} {m : Nat} {W0 : tf_F} {J : Nat → Int32} {A : Nat → Nat → Int32} {R : Nat → Int64}
set_option maxHeartbeats 4000000 in
set_option maxRecDepth 100000 in
theorem c_Mod_floor {a b : Int64} (hb : ¬ b = 0) : tf_C l (tf_H D q) d i_Mod_floor [.long a, .long b] L f 0 0 (tf_rd (.long (tm_fl a b)) L f) := by
  refine tf_C.of (tf_gok _ _) (by decide) w_1375 (Nat.le_of_ble_eq_true rfl) ?_
  refine tf_blk _ b_Mod_floor_0 rfl ?_
  refine tf_ldiv 3 d_Mod_floor_2 rfl (hb) ?_
  refine tf_blk _ b_Mod_floor_3 rfl ?_
  refine tf_lrem 8 d_Mod_floor_7 rfl (hb) ?_
  refine tf_blk _ b_Mod_floor_8 rfl ?_
  refine tf_if_ge 20 13 d_Mod_floor_10 rfl rfl (fun h10 => ?_) (fun h10 => ?_)
  · refine tf_blk _ b_Mod_floor_20 rfl ?_
    refine tf_lret d_Mod_floor_22 rfl ?_
    first
      | exact ⟨by (rw [tm_fl, if_pos (show 0 ≤ lg_cmp (a - a / b * b) 0 from h10)]; try rfl), rfl, rfl⟩
      | exact ⟨by (rw [tm_fl, if_neg (show ¬ 0 ≤ lg_cmp (a - a / b * b) 0 from h10)]; try rfl), rfl, rfl⟩
  · refine tf_blk _ b_Mod_floor_13 rfl ?_
    refine tf_goto 22 d_Mod_floor_17 rfl ?_
    refine tf_lret d_Mod_floor_22 rfl ?_
    first
      | exact ⟨by (rw [tm_fl, if_pos (show 0 ≤ lg_cmp (a - a / b * b) 0 from h10)]; try rfl), rfl, rfl⟩
      | exact ⟨by (rw [tm_fl, if_neg (show ¬ 0 ≤ lg_cmp (a - a / b * b) 0 from h10)]; try rfl), rfl, rfl⟩
set_option maxHeartbeats 4000000 in
set_option maxRecDepth 100000 in
theorem c_Mod_near (hd : 1 ≤ d) {a b : Int64} (hb : ¬ 2 * b = 0) : tf_C l (tf_H D q) d i_Mod_near [.long a, .long b] L f 0 0 (tf_rd (.long (tm_nr a b)) L f) := by
  refine tf_C.of (tf_gok _ _) (by decide) w_1371 (Nat.le_of_ble_eq_true rfl) ?_
  refine tf_ldc2 3 d_Mod_near_0 rfl w_1372 ?_
  refine tf_blk _ b_Mod_near_3 rfl ?_
  refine tf_ldc2 10 d_Mod_near_7 rfl w_1372 ?_
  refine tf_blk _ b_Mod_near_10 rfl ?_
  refine tf_cS (tf_gok _ _) (c_Mod_floor l D q (d - 1) _ _ hb) 15 d_Mod_near_12 rfl lk_Mod_128 cw_Mod_floor (by rfl) sa_Mod_floor (by omega) (by exact Nat.le_of_ble_eq_true rfl) rfl ?_
  rintro v12 L12 f12 ⟨rfl, rfl, rfl⟩
  refine tf_lret d_Mod_near_15 rfl ?_
  exact ⟨rfl, rfl, rfl⟩
set_option maxHeartbeats 4000000 in
set_option maxRecDepth 100000 in
theorem c_Mod_advance (hd : 1 ≤ d) (hT : tm_at q ad m W0 L J A R f) (g x w : Int32) (hv : ¬ bI (tm_isG (tm_J0 J) g) = 0 → ¬ x < 0 → ¬ tm_J0 J 1 ≤ x → vp_in (kI 4 * g + x) 160) : tf_C l (tf_H D q) d i_Mod_advance [.ref m, .int g, .int x, .int w] L f 0 0 (tm_to q ad m W0 L (some (.int (bI (tm_adv J A g x w).1))) (tm_J0 J) ((tm_adv J A g x w).2) (R)) := by
  refine tf_C.of (tf_gok _ _) (by decide) w_1339 (Nat.le_of_ble_eq_true rfl) ?_
  refine tf_blk _ b_Mod_advance_0 rfl ?_
  refine tm_put 5 d_Mod_advance_2 rfl fw_Mod_123 hT (by decide) rfl rfl rfl (fun f hT => ?_)
  refine tf_blk _ b_Mod_advance_5 rfl ?_
  refine tf_cV (tf_gok _ _) (c_Mod_isGlyph l D q (d - 1) _ _ hT _) 10 d_Mod_advance_7 rfl lk_Mod_148 cw_Mod_isGlyph (by rfl) in_Mod_isGlyph se_Mod_isGlyph (by exact hT.1.1) (by exact hT.1.2.1) (by rfl) (by rfl) (by omega) (by exact Nat.le_of_ble_eq_true rfl) rfl ?_
  rintro v7 L7 f7 ⟨rfl, rfl, rfl⟩
  refine tf_if_eq 36 13 d_Mod_advance_10 rfl rfl (fun h10 => ?_) (fun h10 => ?_)
  · refine tf_blk _ b_Mod_advance_36 rfl ?_
    refine tf_zret d_Mod_advance_37 rfl (rfl) ?_
    simp only [tm_adv, h10, if_true, if_false]
    exact ⟨rfl, rfl, hT⟩
  · refine tf_blk _ b_Mod_advance_13 rfl ?_
    refine tf_if_lt 36 17 d_Mod_advance_14 rfl rfl (fun h14 => ?_) (fun h14 => ?_)
    · refine tf_blk _ b_Mod_advance_36 rfl ?_
      refine tf_zret d_Mod_advance_37 rfl (rfl) ?_
      simp only [tm_adv, h10, h14, (Int32.not_le.mpr h14), if_true, if_false]
      exact ⟨rfl, rfl, hT⟩
    · refine tf_blk _ b_Mod_advance_17 rfl ?_
      refine tm_get 22 d_Mod_advance_19 rfl fl_Mod_119 hT rfl ?_
      refine tf_ic_ge 36 25 d_Mod_advance_22 rfl rfl (fun h22 => ?_) (fun h22 => ?_)
      · refine tf_blk _ b_Mod_advance_36 rfl ?_
        refine tf_zret d_Mod_advance_37 rfl (rfl) ?_
        simp only [tm_adv, h10, h14, (Int32.not_lt.mp h14), h22, (Int32.not_lt.mpr h22), if_true, if_false]
        exact ⟨rfl, rfl, hT⟩
      · refine tf_blk _ b_Mod_advance_25 rfl ?_
        refine tf_if_lt 36 29 d_Mod_advance_26 rfl rfl (fun h26 => ?_) (fun h26 => ?_)
        · refine tf_blk _ b_Mod_advance_36 rfl ?_
          refine tf_zret d_Mod_advance_37 rfl (rfl) ?_
          simp only [tm_adv, h10, h14, (Int32.not_lt.mp h14), h22, (Int32.not_le.mp h22), h26, (Int32.not_le.mpr h26), if_true, if_false]
          exact ⟨rfl, rfl, hT⟩
        · refine tf_blk _ b_Mod_advance_29 rfl ?_
          refine tf_ic_le 38 36 d_Mod_advance_33 rfl rfl (fun h33 => ?_) (fun h33 => ?_)
          · refine tf_blk _ b_Mod_advance_38 rfl ?_
            refine tm_get 42 d_Mod_advance_39 rfl fl_Mod_26 hT rfl ?_
            refine tf_blk _ b_Mod_advance_42 rfl ?_
            refine tm_iast _ 49 d_Mod_advance_48 rfl hT rfl (hv h10 h14 h22) (fun f hT => ?_)
            refine tf_blk _ b_Mod_advance_49 rfl ?_
            refine tf_zret d_Mod_advance_50 rfl (rfl) ?_
            simp only [tm_adv, h10, h14, (Int32.not_lt.mp h14), h22, (Int32.not_le.mp h22), h26, (Int32.not_lt.mp h26), h33, (Int32.not_lt.mpr h33), if_true, if_false]
            exact ⟨rfl, rfl, hT⟩
          · refine tf_blk _ b_Mod_advance_36 rfl ?_
            refine tf_zret d_Mod_advance_37 rfl (rfl) ?_
            simp only [tm_adv, h10, h14, (Int32.not_lt.mp h14), h22, (Int32.not_le.mp h22), h26, (Int32.not_lt.mp h26), h33, (Int32.not_le.mp h33), if_true, if_false]
            exact ⟨rfl, rfl, hT⟩
set_option maxHeartbeats 4000000 in
set_option maxRecDepth 100000 in
theorem c_Mod_close (hd : 1 ≤ d) (hT : tm_at q ad m W0 L J A R f) (g : Int32) (hv : ¬ bI (tm_isG (tm_J0 J) g) = 0 → vp_in g 40) : tf_C l (tf_H D q) d i_Mod_close [.ref m, .int g] L f 0 0 (tm_to q ad m W0 L (some (.int (bI (tm_close J A g).1))) (tm_J0 J) ((tm_close J A g).2) (R)) := by
  refine tf_C.of (tf_gok _ _) (by decide) w_1320 (Nat.le_of_ble_eq_true rfl) ?_
  refine tf_blk _ b_Mod_close_0 rfl ?_
  refine tm_put 5 d_Mod_close_2 rfl fw_Mod_123 hT (by decide) rfl rfl rfl (fun f hT => ?_)
  refine tf_blk _ b_Mod_close_5 rfl ?_
  refine tf_cV (tf_gok _ _) (c_Mod_isGlyph l D q (d - 1) _ _ hT _) 10 d_Mod_close_7 rfl lk_Mod_148 cw_Mod_isGlyph (by rfl) in_Mod_isGlyph se_Mod_isGlyph (by exact hT.1.1) (by exact hT.1.2.1) (by rfl) (by rfl) (by omega) (by exact Nat.le_of_ble_eq_true rfl) rfl ?_
  rintro v7 L7 f7 ⟨rfl, rfl, rfl⟩
  refine tf_if_eq 39 13 d_Mod_close_10 rfl rfl (fun h10 => ?_) (fun h10 => ?_)
  · refine tf_blk _ b_Mod_close_39 rfl ?_
    refine tf_zret d_Mod_close_40 rfl (rfl) ?_
    simp only [tm_close, h10, if_true, if_false]
    exact ⟨rfl, rfl, hT⟩
  · refine tf_blk _ b_Mod_close_13 rfl ?_
    refine tm_get 17 d_Mod_close_14 rfl fl_Mod_29 hT rfl ?_
    refine tf_blk _ b_Mod_close_17 rfl ?_
    first | refine tm_zald _ 19 d_Mod_close_18 rfl hT rfl (hv h10) ?_ | refine tm_bald _ 19 d_Mod_close_18 rfl hT rfl (hv h10) ?_
    refine tf_if_ne 39 22 d_Mod_close_19 rfl rfl (fun h19 => ?_) (fun h19 => ?_)
    · refine tf_blk _ b_Mod_close_39 rfl ?_
      refine tf_zret d_Mod_close_40 rfl (rfl) ?_
      simp only [tm_close, h10, h19, if_true, if_false]
      exact ⟨rfl, rfl, hT⟩
    · refine tf_blk _ b_Mod_close_22 rfl ?_
      refine tm_get 26 d_Mod_close_23 rfl fl_Mod_17 hT rfl ?_
      refine tf_blk _ b_Mod_close_26 rfl ?_
      refine tm_iald _ 28 d_Mod_close_27 rfl hT rfl (hv h10) ?_
      refine tf_blk _ b_Mod_close_28 rfl ?_
      refine tm_get 32 d_Mod_close_29 rfl fl_Mod_20 hT rfl ?_
      refine tf_blk _ b_Mod_close_32 rfl ?_
      refine tm_iald _ 34 d_Mod_close_33 rfl hT rfl (hv h10) ?_
      refine tf_blk _ b_Mod_close_34 rfl ?_
      refine tf_ic_ge 41 39 d_Mod_close_36 rfl rfl (fun h36 => ?_) (fun h36 => ?_)
      · refine tf_blk _ b_Mod_close_41 rfl ?_
        refine tm_get 45 d_Mod_close_42 rfl fl_Mod_36 hT rfl ?_
        refine tf_blk _ b_Mod_close_45 rfl ?_
        refine tm_iald _ 48 d_Mod_close_47 rfl hT rfl (hv h10) ?_
        refine tf_blk _ b_Mod_close_48 rfl ?_
        refine tm_get 52 d_Mod_close_49 rfl fl_Mod_17 hT rfl ?_
        refine tf_blk _ b_Mod_close_52 rfl ?_
        refine tm_iald _ 54 d_Mod_close_53 rfl hT rfl (hv h10) ?_
        refine tf_blk _ b_Mod_close_54 rfl ?_
        refine tm_get 58 d_Mod_close_55 rfl fl_Mod_20 hT rfl ?_
        refine tf_blk _ b_Mod_close_58 rfl ?_
        refine tm_iald _ 60 d_Mod_close_59 rfl hT rfl (hv h10) ?_
        refine tf_blk _ b_Mod_close_60 rfl ?_
        refine tm_iast _ 63 d_Mod_close_62 rfl hT rfl (hv h10) (fun f hT => ?_)
        refine tf_blk _ b_Mod_close_63 rfl ?_
        refine tm_get 67 d_Mod_close_64 rfl fl_Mod_20 hT rfl ?_
        refine tf_blk _ b_Mod_close_67 rfl ?_
        refine tm_get 72 d_Mod_close_69 rfl fl_Mod_17 hT rfl ?_
        refine tf_blk _ b_Mod_close_72 rfl ?_
        refine tm_iald _ 74 d_Mod_close_73 rfl hT rfl (hv h10) ?_
        refine tm_iast _ 75 d_Mod_close_74 rfl hT rfl (hv h10) (fun f hT => ?_)
        refine tf_blk _ b_Mod_close_75 rfl ?_
        refine tm_get 79 d_Mod_close_76 rfl fl_Mod_23 hT rfl ?_
        refine tf_blk _ b_Mod_close_79 rfl ?_
        refine tm_iald _ 82 d_Mod_close_81 rfl hT rfl (hv h10) ?_
        refine tf_blk _ b_Mod_close_82 rfl ?_
        refine tm_iast _ 85 d_Mod_close_84 rfl hT rfl (hv h10) (fun f hT => ?_)
        refine tf_blk _ b_Mod_close_85 rfl ?_
        refine tf_zret d_Mod_close_86 rfl (rfl) ?_
        simp only [tm_close, h10, h19, h36, (Int32.not_lt.mpr h36), if_true, if_false]
        exact ⟨rfl, rfl, hT⟩
      · refine tf_blk _ b_Mod_close_39 rfl ?_
        refine tf_zret d_Mod_close_40 rfl (rfl) ?_
        simp only [tm_close, h10, h19, h36, (Int32.not_le.mp h36), if_true, if_false]
        exact ⟨rfl, rfl, hT⟩
set_option maxHeartbeats 4000000 in
set_option maxRecDepth 100000 in
theorem c_Mod_pixel (hT : tm_at q ad m W0 L J A R f) (x y : Int32) (hv : ¬ x < 0 → ¬ y < 0 → ¬ tm_J0 J 32 ≤ x → y < tm_J0 J 32 → vp_in (tm_J0 J 32 * y + x) 4096) : tf_C l (tf_H D q) d i_Mod_pixel [.ref m, .int x, .int y] L f 0 0 (tm_to q ad m W0 L (some (.int (tm_pix J A x y))) (tm_J0 J) (A) (R)) := by
  refine tf_C.of (tf_gok _ _) (by decide) w_1441 (Nat.le_of_ble_eq_true rfl) ?_
  refine tf_blk _ b_Mod_pixel_0 rfl ?_
  refine tm_put 5 d_Mod_pixel_2 rfl fw_Mod_123 hT (by decide) rfl rfl rfl (fun f hT => ?_)
  refine tf_blk _ b_Mod_pixel_5 rfl ?_
  refine tf_if_lt 29 9 d_Mod_pixel_6 rfl rfl (fun h6 => ?_) (fun h6 => ?_)
  · refine tf_blk _ b_Mod_pixel_29 rfl ?_
    refine tf_goto 46 d_Mod_pixel_30 rfl ?_
    refine tf_iret d_Mod_pixel_46 rfl ?_
    simp only [tm_pix, h6, (Int32.not_le.mpr h6), if_true, if_false]
    exact ⟨rfl, rfl, hT⟩
  · refine tf_blk _ b_Mod_pixel_9 rfl ?_
    refine tf_if_lt 29 13 d_Mod_pixel_10 rfl rfl (fun h10 => ?_) (fun h10 => ?_)
    · refine tf_blk _ b_Mod_pixel_29 rfl ?_
      refine tf_goto 46 d_Mod_pixel_30 rfl ?_
      refine tf_iret d_Mod_pixel_46 rfl ?_
      simp only [tm_pix, h6, (Int32.not_lt.mp h6), h10, (Int32.not_le.mpr h10), if_true, if_false]
      exact ⟨rfl, rfl, hT⟩
    · refine tf_blk _ b_Mod_pixel_13 rfl ?_
      refine tm_get 18 d_Mod_pixel_15 rfl fl_Mod_216 hT rfl ?_
      refine tf_ic_ge 29 21 d_Mod_pixel_18 rfl rfl (fun h18 => ?_) (fun h18 => ?_)
      · refine tf_blk _ b_Mod_pixel_29 rfl ?_
        refine tf_goto 46 d_Mod_pixel_30 rfl ?_
        refine tf_iret d_Mod_pixel_46 rfl ?_
        simp only [tm_pix, h6, (Int32.not_lt.mp h6), h10, (Int32.not_lt.mp h10), h18, (Int32.not_lt.mpr h18), if_true, if_false]
        exact ⟨rfl, rfl, hT⟩
      · refine tf_blk _ b_Mod_pixel_21 rfl ?_
        refine tm_get 26 d_Mod_pixel_23 rfl fl_Mod_216 hT rfl ?_
        refine tf_ic_lt 33 29 d_Mod_pixel_26 rfl rfl (fun h26 => ?_) (fun h26 => ?_)
        · refine tf_blk _ b_Mod_pixel_33 rfl ?_
          refine tm_get 37 d_Mod_pixel_34 rfl fl_Mod_75 hT rfl ?_
          refine tf_blk _ b_Mod_pixel_37 rfl ?_
          refine tm_get 41 d_Mod_pixel_38 rfl fl_Mod_216 hT rfl ?_
          refine tf_blk _ b_Mod_pixel_41 rfl ?_
          refine tm_iald _ 46 d_Mod_pixel_45 rfl hT rfl (hv h6 h10 h18 h26) ?_
          refine tf_iret d_Mod_pixel_46 rfl ?_
          simp only [tm_pix, h6, (Int32.not_lt.mp h6), h10, (Int32.not_lt.mp h10), h18, (Int32.not_le.mp h18), h26, (Int32.not_le.mpr h26), if_true, if_false]
          exact ⟨rfl, rfl, hT⟩
        · refine tf_blk _ b_Mod_pixel_29 rfl ?_
          refine tf_goto 46 d_Mod_pixel_30 rfl ?_
          refine tf_iret d_Mod_pixel_46 rfl ?_
          simp only [tm_pix, h6, (Int32.not_lt.mp h6), h10, (Int32.not_lt.mp h10), h18, (Int32.not_le.mp h18), h26, (Int32.not_lt.mp h26), if_true, if_false]
          exact ⟨rfl, rfl, hT⟩
set_option maxHeartbeats 4000000 in
set_option maxRecDepth 100000 in
theorem c_Mod_sort (hd : 1 ≤ d) (hT : tm_at q ad m W0 L J A R f) (s g t : Int32) (hv : ¬ bI (tm_isG (tm_J0 J) g) = 0 → vp_in g 40) : tf_C l (tf_H D q) d i_Mod_sort [.ref m, .int s, .int g, .int t] L f 0 0 (tm_to q ad m W0 L (some (.int (bI (tm_sort J A s g t).1))) (tm_J0 J) ((tm_sort J A s g t).2) (R)) := by
  refine tf_C.of (tf_gok _ _) (by decide) w_1445 (Nat.le_of_ble_eq_true rfl) ?_
  refine tf_blk _ b_Mod_sort_0 rfl ?_
  refine tm_put 5 d_Mod_sort_2 rfl fw_Mod_123 hT (by decide) rfl rfl rfl (fun f hT => ?_)
  refine tf_blk _ b_Mod_sort_5 rfl ?_
  refine tf_if_lt 32 9 d_Mod_sort_6 rfl rfl (fun h6 => ?_) (fun h6 => ?_)
  · refine tf_blk _ b_Mod_sort_32 rfl ?_
    refine tf_zret d_Mod_sort_33 rfl (rfl) ?_
    simp only [tm_sort, h6, (Int32.not_le.mpr h6), if_true, if_false]
    exact ⟨rfl, rfl, hT⟩
  · refine tf_blk _ b_Mod_sort_9 rfl ?_
    refine tf_ic_gt 32 14 d_Mod_sort_11 rfl rfl (fun h11 => ?_) (fun h11 => ?_)
    · refine tf_blk _ b_Mod_sort_32 rfl ?_
      refine tf_zret d_Mod_sort_33 rfl (rfl) ?_
      simp only [tm_sort, h6, (Int32.not_lt.mp h6), h11, (Int32.not_le.mpr h11), if_true, if_false]
      exact ⟨rfl, rfl, hT⟩
    · refine tf_blk _ b_Mod_sort_14 rfl ?_
      refine tf_cV (tf_gok _ _) (c_Mod_isGlyph l D q (d - 1) _ _ hT _) 19 d_Mod_sort_16 rfl lk_Mod_148 cw_Mod_isGlyph (by rfl) in_Mod_isGlyph se_Mod_isGlyph (by exact hT.1.1) (by exact hT.1.2.1) (by rfl) (by rfl) (by omega) (by exact Nat.le_of_ble_eq_true rfl) rfl ?_
      rintro v16 L16 f16 ⟨rfl, rfl, rfl⟩
      refine tf_if_eq 32 22 d_Mod_sort_19 rfl rfl (fun h19 => ?_) (fun h19 => ?_)
      · refine tf_blk _ b_Mod_sort_32 rfl ?_
        refine tf_zret d_Mod_sort_33 rfl (rfl) ?_
        simp only [tm_sort, h6, (Int32.not_lt.mp h6), h11, (Int32.not_lt.mp h11), h19, if_true, if_false]
        exact ⟨rfl, rfl, hT⟩
      · refine tf_blk _ b_Mod_sort_22 rfl ?_
        refine tf_if_lt 32 26 d_Mod_sort_23 rfl rfl (fun h23 => ?_) (fun h23 => ?_)
        · refine tf_blk _ b_Mod_sort_32 rfl ?_
          refine tf_zret d_Mod_sort_33 rfl (rfl) ?_
          simp only [tm_sort, h6, (Int32.not_lt.mp h6), h11, (Int32.not_lt.mp h11), h19, h23, (Int32.not_le.mpr h23), if_true, if_false]
          exact ⟨rfl, rfl, hT⟩
        · refine tf_blk _ b_Mod_sort_26 rfl ?_
          refine tf_ic_le 34 32 d_Mod_sort_29 rfl rfl (fun h29 => ?_) (fun h29 => ?_)
          · refine tf_blk _ b_Mod_sort_34 rfl ?_
            refine tf_if_ne 49 38 d_Mod_sort_35 rfl rfl (fun h35 => ?_) (fun h35 => ?_)
            · refine tf_blk _ b_Mod_sort_49 rfl ?_
              refine tm_get 53 d_Mod_sort_50 rfl fl_Mod_81 hT rfl ?_
              refine tf_blk _ b_Mod_sort_53 rfl ?_
              first | refine tm_zast _ 57 d_Mod_sort_56 rfl hT rfl (hv h19) (fun f hT => ?_) | refine tm_bast _ 57 d_Mod_sort_56 rfl hT rfl (hv h19) (fun f hT => ?_)
              refine tf_blk _ b_Mod_sort_57 rfl ?_
              refine tf_zret d_Mod_sort_58 rfl (rfl) ?_
              simp only [tm_sort, h6, (Int32.not_lt.mp h6), h11, (Int32.not_lt.mp h11), h19, h23, (Int32.not_lt.mp h23), h29, (Int32.not_lt.mpr h29), h35, if_true, if_false]
              exact ⟨rfl, rfl, hT⟩
            · refine tf_blk _ b_Mod_sort_38 rfl ?_
              refine tm_get 42 d_Mod_sort_39 rfl fl_Mod_78 hT rfl ?_
              refine tf_blk _ b_Mod_sort_42 rfl ?_
              first | refine tm_zast _ 46 d_Mod_sort_45 rfl hT rfl (hv h19) (fun f hT => ?_) | refine tm_bast _ 46 d_Mod_sort_45 rfl hT rfl (hv h19) (fun f hT => ?_)
              refine tf_goto 57 d_Mod_sort_46 rfl ?_
              refine tf_blk _ b_Mod_sort_57 rfl ?_
              refine tf_zret d_Mod_sort_58 rfl (rfl) ?_
              simp only [tm_sort, h6, (Int32.not_lt.mp h6), h11, (Int32.not_lt.mp h11), h19, h23, (Int32.not_lt.mp h23), h29, (Int32.not_lt.mpr h29), h35, if_true, if_false]
              exact ⟨rfl, rfl, hT⟩
          · refine tf_blk _ b_Mod_sort_32 rfl ?_
            refine tf_zret d_Mod_sort_33 rfl (rfl) ?_
            simp only [tm_sort, h6, (Int32.not_lt.mp h6), h11, (Int32.not_lt.mp h11), h19, h23, (Int32.not_lt.mp h23), h29, (Int32.not_le.mp h29), if_true, if_false]
            exact ⟨rfl, rfl, hT⟩
set_option maxHeartbeats 4000000 in
set_option maxRecDepth 100000 in
theorem c_Mod_kern (hd : 1 ≤ d) (hT : tm_at q ad m W0 L J A R f) (x y b : Int32) (hv : ¬ x < kI 1 → ¬ kI 15 < x → ¬ y < kI 1 → ¬ kI 15 < y → vp_in (kI 16 * x + y) 256) : tf_C l (tf_H D q) d i_Mod_kern [.ref m, .int x, .int y, .int b] L f 0 0 (tm_to q ad m W0 L (some (.int (bI (tm_kern A x y b).1))) (tm_J0 J) ((tm_kern A x y b).2) (R)) := by
  refine tf_C.of (tf_gok _ _) (by decide) w_1449 (Nat.le_of_ble_eq_true rfl) ?_
  refine tf_blk _ b_Mod_kern_0 rfl ?_
  refine tm_put 5 d_Mod_kern_2 rfl fw_Mod_123 hT (by decide) rfl rfl rfl (fun f hT => ?_)
  refine tf_blk _ b_Mod_kern_5 rfl ?_
  refine tf_ic_lt 34 10 d_Mod_kern_7 rfl rfl (fun h7 => ?_) (fun h7 => ?_)
  · refine tf_blk _ b_Mod_kern_34 rfl ?_
    refine tf_zret d_Mod_kern_35 rfl (rfl) ?_
    simp only [tm_kern, h7, (Int32.not_le.mpr h7), if_true, if_false]
    exact ⟨rfl, rfl, hT⟩
  · refine tf_blk _ b_Mod_kern_10 rfl ?_
    refine tf_ic_gt 34 16 d_Mod_kern_13 rfl rfl (fun h13 => ?_) (fun h13 => ?_)
    · refine tf_blk _ b_Mod_kern_34 rfl ?_
      refine tf_zret d_Mod_kern_35 rfl (rfl) ?_
      simp only [tm_kern, h7, (Int32.not_lt.mp h7), h13, (Int32.not_le.mpr h13), if_true, if_false]
      exact ⟨rfl, rfl, hT⟩
    · refine tf_blk _ b_Mod_kern_16 rfl ?_
      refine tf_ic_lt 34 21 d_Mod_kern_18 rfl rfl (fun h18 => ?_) (fun h18 => ?_)
      · refine tf_blk _ b_Mod_kern_34 rfl ?_
        refine tf_zret d_Mod_kern_35 rfl (rfl) ?_
        simp only [tm_kern, h7, (Int32.not_lt.mp h7), h13, (Int32.not_lt.mp h13), h18, (Int32.not_le.mpr h18), if_true, if_false]
        exact ⟨rfl, rfl, hT⟩
      · refine tf_blk _ b_Mod_kern_21 rfl ?_
        refine tf_ic_gt 34 27 d_Mod_kern_24 rfl rfl (fun h24 => ?_) (fun h24 => ?_)
        · refine tf_blk _ b_Mod_kern_34 rfl ?_
          refine tf_zret d_Mod_kern_35 rfl (rfl) ?_
          simp only [tm_kern, h7, (Int32.not_lt.mp h7), h13, (Int32.not_lt.mp h13), h18, (Int32.not_lt.mp h18), h24, (Int32.not_le.mpr h24), if_true, if_false]
          exact ⟨rfl, rfl, hT⟩
        · refine tf_blk _ b_Mod_kern_27 rfl ?_
          refine tf_cS (tf_gok _ _) (c_Mod_isKern l D q (d - 1) _ _ _) 31 d_Mod_kern_28 rfl lk_Mod_261 cw_Mod_isKern (by rfl) sa_Mod_isKern (by omega) (by exact Nat.le_of_ble_eq_true rfl) rfl ?_
          rintro v28 L28 f28 ⟨rfl, rfl, rfl⟩
          refine tf_if_ne 36 34 d_Mod_kern_31 rfl rfl (fun h31 => ?_) (fun h31 => ?_)
          · refine tf_blk _ b_Mod_kern_36 rfl ?_
            refine tm_get 40 d_Mod_kern_37 rfl fl_Mod_84 hT rfl ?_
            refine tf_blk _ b_Mod_kern_40 rfl ?_
            refine tm_sast _ 49 d_Mod_kern_48 rfl hT rfl (hv h7 h13 h18 h24) (fun f hT => ?_)
            refine tf_blk _ b_Mod_kern_49 rfl ?_
            refine tm_get 53 d_Mod_kern_50 rfl fl_Mod_88 hT rfl ?_
            refine tf_blk _ b_Mod_kern_53 rfl ?_
            first | refine tm_zast _ 61 d_Mod_kern_60 rfl hT rfl (hv h7 h13 h18 h24) (fun f hT => ?_) | refine tm_bast _ 61 d_Mod_kern_60 rfl hT rfl (hv h7 h13 h18 h24) (fun f hT => ?_)
            refine tf_blk _ b_Mod_kern_61 rfl ?_
            refine tf_zret d_Mod_kern_62 rfl (rfl) ?_
            simp only [tm_kern, h7, (Int32.not_lt.mp h7), h13, (Int32.not_lt.mp h13), h18, (Int32.not_lt.mp h18), h24, (Int32.not_lt.mp h24), h31, if_true, if_false]
            exact ⟨rfl, rfl, hT⟩
          · refine tf_blk _ b_Mod_kern_34 rfl ?_
            refine tf_zret d_Mod_kern_35 rfl (rfl) ?_
            simp only [tm_kern, h7, (Int32.not_lt.mp h7), h13, (Int32.not_lt.mp h13), h18, (Int32.not_lt.mp h18), h24, (Int32.not_lt.mp h24), h31, if_true, if_false]
            exact ⟨rfl, rfl, hT⟩
set_option maxHeartbeats 4000000 in
set_option maxRecDepth 100000 in
theorem c_Mod_type (hd : 1 ≤ d) (hT : tm_at q ad m W0 L J A R f) (g : Int32) (hv : ¬ tm_J0 J 50 = kI 60 → vp_in (tm_J0 J 50) 60) : tf_C l (tf_H D q) d i_Mod_type [.ref m, .int g] L f 0 0 (tm_to q ad m W0 L (some (.int (bI (tm_type J A g).1))) ((tm_type J A g).2.1) ((tm_type J A g).2.2) (R)) := by
  refine tf_C.of (tf_gok _ _) (by decide) w_1480 (Nat.le_of_ble_eq_true rfl) ?_
  refine tf_blk _ b_Mod_type_0 rfl ?_
  refine tm_put 5 d_Mod_type_2 rfl fw_Mod_123 hT (by decide) rfl rfl rfl (fun f hT => ?_)
  refine tf_blk _ b_Mod_type_5 rfl ?_
  refine tf_cV (tf_gok _ _) (c_Mod_isGlyph l D q (d - 1) _ _ hT _) 10 d_Mod_type_7 rfl lk_Mod_148 cw_Mod_isGlyph (by rfl) in_Mod_isGlyph se_Mod_isGlyph (by exact hT.1.1) (by exact hT.1.2.1) (by rfl) (by rfl) (by omega) (by exact Nat.le_of_ble_eq_true rfl) rfl ?_
  rintro v7 L7 f7 ⟨rfl, rfl, rfl⟩
  refine tf_if_eq 22 13 d_Mod_type_10 rfl rfl (fun h10 => ?_) (fun h10 => ?_)
  · refine tf_blk _ b_Mod_type_22 rfl ?_
    refine tf_zret d_Mod_type_23 rfl (rfl) ?_
    simp only [tm_type, h10, if_true, if_false]
    exact ⟨rfl, rfl, hT⟩
  · refine tf_blk _ b_Mod_type_13 rfl ?_
    refine tm_get 17 d_Mod_type_14 rfl fl_Mod_289 hT rfl ?_
    refine tf_blk _ b_Mod_type_17 rfl ?_
    refine tf_ic_ne 24 22 d_Mod_type_19 rfl rfl (fun h19 => ?_) (fun h19 => ?_)
    · refine tf_blk _ b_Mod_type_24 rfl ?_
      refine tm_get 28 d_Mod_type_25 rfl fl_Mod_113 hT rfl ?_
      refine tf_blk _ b_Mod_type_28 rfl ?_
      refine tm_get 32 d_Mod_type_29 rfl fl_Mod_289 hT rfl ?_
      refine tf_blk _ b_Mod_type_32 rfl ?_
      refine tm_iast _ 34 d_Mod_type_33 rfl hT rfl (hv h19) (fun f hT => ?_)
      refine tf_blk _ b_Mod_type_34 rfl ?_
      refine tm_get 39 d_Mod_type_36 rfl fl_Mod_289 hT rfl ?_
      refine tf_blk _ b_Mod_type_39 rfl ?_
      refine tm_put 44 d_Mod_type_41 rfl fw_Mod_289 hT (by decide) rfl rfl rfl (fun f hT => ?_)
      refine tf_blk _ b_Mod_type_44 rfl ?_
      refine tf_zret d_Mod_type_45 rfl (rfl) ?_
      simp only [tm_type, h10, h19, if_true, if_false]
      exact ⟨rfl, rfl, hT⟩
    · refine tf_blk _ b_Mod_type_22 rfl ?_
      refine tf_zret d_Mod_type_23 rfl (rfl) ?_
      simp only [tm_type, h10, h19, if_true, if_false]
      exact ⟨rfl, rfl, hT⟩
end
