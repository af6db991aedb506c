/-! the reference: roads without a glyph, height, pairAt, rows of rules, shape of an empty text -/
/-- a height has been told -/
def tm_told (g : Nat → Int32) (y : Int32) : Nat → Nat → Bool → Bool
  | 0, _, b => b
  | m + 1, k, b => tm_told g y m (k + 1) (b || decide (g k = y))
def tm_height (J : Nat → Int32) (A : Nat → Nat → Int32) (n : Nat) (y : Int32) : Bool × (Nat → Int32) × (Nat → Nat → Int32) :=
  if bI (tm_isP y) = 0 then (false, tm_J0 J, A) else if ¬ bI (tm_told (A 29) y n 0 false) = 0 then (false, tm_J0 J, A) else if nI n = kI 8 then (false, tm_J0 J, A) else (true, upd (tm_J0 J) 30 (nI n + kI 1), tm_wr A 29 (nI n) y)
section
variable (l : Launch) (D : va_G) (q : Nat → ClassId) (d : Nat) (L : List Nat) (f : tf_F) {ad : Nat → Nat} {m : Nat} {W0 : tf_F} {J : Nat → Int32} {A : Nat → Nat → Int32} {R : Nat → Int64}
set_option maxHeartbeats 4000000 in
set_option maxRecDepth 100000 in
theorem c_Mod_point_n (hd : 1 ≤ d) (hT : tm_at q ad m W0 L J A R f) (g x y b : Int32) (hG : tm_isG J g = false) : tf_C l (tf_H D q) d i_Mod_point [.ref m, .int g, .int x, .int y, .int b] L f 0 0 (tm_to q ad m W0 L (some (.int (kI 0))) (upd J 0 (kI 1)) (A) (R)) := by
  refine tf_C.of (tf_gok _ _) (by decide) w_1306 (Nat.le_of_ble_eq_true rfl) ?_
  refine tf_blk _ b_Mod_point_0 rfl ?_
  refine tf_cV (tf_gok _ _) (c_Mod_isGlyph l D q (d - 1) _ _ hT _) 6 d_Mod_point_3 rfl lk_Mod_148 cw_Mod_isGlyph (by rfl) in_Mod_isGlyph se_Mod_isGlyph (by exact hT.1.1) (by exact hT.1.2.1) (by rfl) (by rfl) (by omega) (by exact Nat.le_of_ble_eq_true rfl) rfl ?_
  rintro v3 L3 f3 ⟨rfl, rfl, rfl⟩
  refine tf_if_eq 23 9 d_Mod_point_6 rfl rfl (fun h6 => ?_) (fun h6 => absurd (by rw [hG]; rfl) h6)
  refine tf_blk _ b_Mod_point_23 rfl ?_
  refine tf_goto 52 d_Mod_point_24 rfl ?_
  refine tm_put 55 d_Mod_point_52 rfl fw_Mod_123 hT (by decide) rfl rfl rfl (fun f hT => ?_)
  refine tf_blk _ b_Mod_point_55 rfl ?_
  refine tm_get 59 d_Mod_point_56 rfl fl_Mod_123 hT rfl ?_
  refine tf_if_le 64 62 d_Mod_point_59 rfl rfl (fun h59 => absurd h59 (show ¬ kI 1 ≤ 0 by decide)) (fun h59 => ?_)
  refine tf_blk _ b_Mod_point_62 rfl ?_
  refine tf_iret d_Mod_point_63 rfl ?_
  exact ⟨rfl, rfl, hT⟩
set_option maxHeartbeats 4000000 in
set_option maxRecDepth 100000 in
theorem c_Mod_place_n (hd : 1 ≤ d) (hT : tm_at q ad m W0 L J A R f) (g p k x y : Int32) (hG : tm_isG J g = false) : tf_C l (tf_H D q) d i_Mod_place [.ref m, .int g, .int p, .int k, .int x, .int y] L f 0 0 (tm_to q ad m W0 L (none) (upd J 0 (kI 1)) (A) (R)) := by
  refine tf_C.of (tf_gok _ _) (by decide) w_1324 (Nat.le_of_ble_eq_true rfl) ?_
  refine tf_blk _ b_Mod_place_0 rfl ?_
  refine tf_cV (tf_gok _ _) (c_Mod_isGlyph l D q (d - 1) _ _ hT _) 5 d_Mod_place_2 rfl lk_Mod_148 cw_Mod_isGlyph (by rfl) in_Mod_isGlyph se_Mod_isGlyph (by exact hT.1.1) (by exact hT.1.2.1) (by rfl) (by rfl) (by omega) (by exact Nat.le_of_ble_eq_true rfl) rfl ?_
  rintro v2 L2 f2 ⟨rfl, rfl, rfl⟩
  refine tf_if_eq 28 8 d_Mod_place_5 rfl rfl (fun h5 => ?_) (fun h5 => absurd (by rw [hG]; rfl) h5)
  refine tf_blk _ b_Mod_place_28 rfl ?_
  refine tf_blk _ b_Mod_place_29 rfl ?_
  refine tf_if_eq 47 37 d_Mod_place_34 rfl rfl (fun h34 => ?_) (fun h34 => absurd (show kI 0 = 0 by decide) h34)
  refine tf_blk _ b_Mod_place_47 rfl ?_
  refine tf_goto 72 d_Mod_place_48 rfl ?_
  refine tm_put 75 d_Mod_place_72 rfl fw_Mod_123 hT (by decide) rfl rfl rfl (fun f hT => ?_)
  refine tf_blk _ b_Mod_place_75 rfl ?_
  refine tm_get 79 d_Mod_place_76 rfl fl_Mod_123 hT rfl ?_
  refine tf_if_ne 105 82 d_Mod_place_79 rfl rfl (fun h79 => ?_) (fun h79 => absurd h79 (show ¬ kI 1 = 0 by decide))
  refine tf_vret d_Mod_place_105 rfl ?_
  exact ⟨rfl, rfl, hT⟩
set_option maxHeartbeats 4000000 in
set_option maxRecDepth 100000 in
theorem c_Mod_component_n (hd : 1 ≤ d) (hT : tm_at q ad m W0 L J A R f) (g k x y t : Int32) (hG : tm_isG J g = false) : tf_C l (tf_H D q) d i_Mod_component [.ref m, .int g, .int k, .int x, .int y, .int t] L f 0 0 (tm_to q ad m W0 L (none) (upd J 0 (kI 1)) (A) (R)) := by
  refine tf_C.of (tf_gok _ _) (by decide) w_1328 (Nat.le_of_ble_eq_true rfl) ?_
  refine tf_blk _ b_Mod_component_0 rfl ?_
  refine tf_cV (tf_gok _ _) (c_Mod_isGlyph l D q (d - 1) _ _ hT _) 5 d_Mod_component_2 rfl lk_Mod_148 cw_Mod_isGlyph (by rfl) in_Mod_isGlyph se_Mod_isGlyph (by exact hT.1.1) (by exact hT.1.2.1) (by rfl) (by rfl) (by omega) (by exact Nat.le_of_ble_eq_true rfl) rfl ?_
  rintro v2 L2 f2 ⟨rfl, rfl, rfl⟩
  refine tf_if_eq 52 8 d_Mod_component_5 rfl rfl (fun h5 => ?_) (fun h5 => absurd (by rw [hG]; rfl) h5)
  refine tf_blk _ b_Mod_component_52 rfl ?_
  refine tf_blk _ b_Mod_component_53 rfl ?_
  refine tf_if_ne 65 61 d_Mod_component_58 rfl rfl (fun h58 => absurd h58 (show ¬ ¬ kI 0 = 0 by decide)) (fun h58 => ?_)
  refine tf_blk _ b_Mod_component_61 rfl ?_
  refine tf_goto 116 d_Mod_component_62 rfl ?_
  refine tm_put 119 d_Mod_component_116 rfl fw_Mod_123 hT (by decide) rfl rfl rfl (fun f hT => ?_)
  refine tf_blk _ b_Mod_component_119 rfl ?_
  refine tm_get 123 d_Mod_component_120 rfl fl_Mod_123 hT rfl ?_
  refine tf_if_le 127 126 d_Mod_component_123 rfl rfl (fun h123 => absurd h123 (show ¬ kI 1 ≤ 0 by decide)) (fun h123 => ?_)
  refine tf_vret d_Mod_component_126 rfl ?_
  exact ⟨rfl, rfl, hT⟩
set_option maxHeartbeats 4000000 in
set_option maxRecDepth 100000 in
theorem c_Mod_outline_n (hd : 1 ≤ d) (hT : tm_at q ad m W0 L J A R f) (g k w : Int32) (hG : tm_isG J g = false) : tf_C l (tf_H D q) d i_Mod_outline [.ref m, .int g, .int k, .int w] L f 0 0 (tm_to q ad m W0 L (some (.int (kI 0))) (upd J 0 (kI 1)) (A) (R)) := by
  refine tf_C.of (tf_gok _ _) (by decide) w_1347 (Nat.le_of_ble_eq_true rfl) ?_
  refine tf_blk _ b_Mod_outline_0 rfl ?_
  refine tf_cV (tf_gok _ _) (c_Mod_isGlyph l D q (d - 1) _ _ hT _) 6 d_Mod_outline_3 rfl lk_Mod_148 cw_Mod_isGlyph (by rfl) in_Mod_isGlyph se_Mod_isGlyph (by exact hT.1.1) (by exact hT.1.2.1) (by rfl) (by rfl) (by omega) (by exact Nat.le_of_ble_eq_true rfl) rfl ?_
  rintro v3 L3 f3 ⟨rfl, rfl, rfl⟩
  refine tf_if_eq 23 9 d_Mod_outline_6 rfl rfl (fun h6 => ?_) (fun h6 => absurd (by rw [hG]; rfl) h6)
  refine tf_blk _ b_Mod_outline_23 rfl ?_
  refine tf_goto 28 d_Mod_outline_24 rfl ?_
  refine tm_put 31 d_Mod_outline_28 rfl fw_Mod_123 hT (by decide) rfl rfl rfl (fun f hT => ?_)
  refine tf_blk _ b_Mod_outline_31 rfl ?_
  refine tm_get 35 d_Mod_outline_32 rfl fl_Mod_123 hT rfl ?_
  refine tf_if_le 40 38 d_Mod_outline_35 rfl rfl (fun h35 => absurd h35 (show ¬ kI 1 ≤ 0 by decide)) (fun h35 => ?_)
  refine tf_blk _ b_Mod_outline_38 rfl ?_
  refine tf_iret d_Mod_outline_39 rfl ?_
  exact ⟨rfl, rfl, hT⟩
set_option maxHeartbeats 4000000 in
set_option maxRecDepth 100000 in
theorem c_Mod_draw_n (hd : 1 ≤ d) (hT : tm_at q ad m W0 L J A R f) (g s b : Int32) (hG : tm_isG J g = false) : tf_C l (tf_H D q) d i_Mod_draw [.ref m, .int g, .int s, .int b] L f 0 0 (tm_to q ad m W0 L (some (.int (kI 0))) (upd J 0 (kI 1)) (A) (R)) := by
  refine tf_C.of (tf_gok _ _) (by decide) w_1393 (Nat.le_of_ble_eq_true rfl) ?_
  refine tf_blk _ b_Mod_draw_0 rfl ?_
  refine tf_cV (tf_gok _ _) (c_Mod_isGlyph l D q (d - 1) _ _ hT _) 6 d_Mod_draw_3 rfl lk_Mod_148 cw_Mod_isGlyph (by rfl) in_Mod_isGlyph se_Mod_isGlyph (by exact hT.1.1) (by exact hT.1.2.1) (by rfl) (by rfl) (by omega) (by exact Nat.le_of_ble_eq_true rfl) rfl ?_
  rintro v3 L3 f3 ⟨rfl, rfl, rfl⟩
  refine tf_if_eq 35 9 d_Mod_draw_6 rfl rfl (fun h6 => ?_) (fun h6 => absurd (by rw [hG]; rfl) h6)
  refine tf_blk _ b_Mod_draw_35 rfl ?_
  refine tf_goto 40 d_Mod_draw_36 rfl ?_
  refine tm_put 43 d_Mod_draw_40 rfl fw_Mod_123 hT (by decide) rfl rfl rfl (fun f hT => ?_)
  refine tf_blk _ b_Mod_draw_43 rfl ?_
  refine tm_get 47 d_Mod_draw_44 rfl fl_Mod_123 hT rfl ?_
  refine tf_if_le 52 50 d_Mod_draw_47 rfl rfl (fun h47 => absurd h47 (show ¬ kI 1 ≤ 0 by decide)) (fun h47 => ?_)
  refine tf_blk _ b_Mod_draw_50 rfl ?_
  refine tf_iret d_Mod_draw_51 rfl ?_
  exact ⟨rfl, rfl, hT⟩
set_option maxHeartbeats 4000000 in
set_option maxRecDepth 100000 in
theorem c_Mod_pair_n (hd : 1 ≤ d) (hT : tm_at q ad m W0 L J A R f) (g y b : Int32) (hG : tm_isG (tm_J0 J) g = false) : tf_C l (tf_H D q) d i_Mod_pair [.ref m, .int g, .int y, .int b] L f 0 0 (tm_to q ad m W0 L (some (.int (kI 0))) (tm_J0 J) (A) (R)) := by
  refine tf_C.of (tf_gok _ _) (by decide) w_1456 (Nat.le_of_ble_eq_true rfl) ?_
  refine tf_blk _ b_Mod_pair_0 rfl ?_
  refine tm_put 5 d_Mod_pair_2 rfl fw_Mod_123 hT (by decide) rfl rfl rfl (fun f hT => ?_)
  refine tf_blk _ b_Mod_pair_5 rfl ?_
  refine tf_cV (tf_gok _ _) (c_Mod_isGlyph l D q (d - 1) _ _ hT _) 10 d_Mod_pair_7 rfl lk_Mod_148 cw_Mod_isGlyph (by rfl) in_Mod_isGlyph se_Mod_isGlyph (by exact hT.1.1) (by exact hT.1.2.1) (by rfl) (by rfl) (by omega) (by exact Nat.le_of_ble_eq_true rfl) rfl ?_
  rintro v7 L7 f7 ⟨rfl, rfl, rfl⟩
  refine tf_if_eq 28 13 d_Mod_pair_10 rfl rfl (fun h10 => ?_) (fun h10 => absurd (by rw [hG]; rfl) h10)
  refine tf_blk _ b_Mod_pair_28 rfl ?_
  refine tf_zret d_Mod_pair_29 rfl (rfl) ?_
  exact ⟨rfl, rfl, hT⟩
set_option maxHeartbeats 4000000 in
set_option maxRecDepth 100000 in
theorem c_Mod_shaped_n (hT : tm_at q ad m W0 L J A R f) (i w : Int32) (hb : ¬ (¬ i < 0 ∧ ((w = 0 ∧ i < J 52) ∨ (w = kI 1 ∧ ¬ J 52 < i)))) : tf_C l (tf_H D q) d i_Mod_shaped [.ref m, .int i, .int w] L f 0 0 (tm_to q ad m W0 L (some (.int (kI 0))) (upd J 0 (kI 1)) (A) (R)) := by
  refine tf_C.of (tf_gok _ _) (by decide) w_1504 (Nat.le_of_ble_eq_true rfl) ?_
  refine tf_blk _ b_Mod_shaped_0 rfl ?_
  refine tf_if_lt 33 4 d_Mod_shaped_1 rfl rfl (fun h1 => ?_) (fun h1 => ?_)
  · refine tf_blk _ b_Mod_shaped_33 rfl ?_
    refine tf_blk _ b_Mod_shaped_34 rfl ?_
    refine tf_if_eq 44 40 d_Mod_shaped_37 rfl rfl (fun h37 => ?_) (fun h37 => absurd (show kI 0 = 0 by decide) h37)
    refine tf_blk _ b_Mod_shaped_44 rfl ?_
    refine tm_put 48 d_Mod_shaped_45 rfl fw_Mod_123 hT (by decide) rfl rfl rfl (fun f hT => ?_)
    refine tf_blk _ b_Mod_shaped_48 rfl ?_
    refine tf_if_ne 54 52 d_Mod_shaped_49 rfl rfl (fun h49 => absurd h49 (show ¬ ¬ kI 0 = 0 by decide)) (fun h49 => ?_)
    refine tf_blk _ b_Mod_shaped_52 rfl ?_
    refine tf_iret d_Mod_shaped_53 rfl ?_
    exact ⟨rfl, rfl, hT⟩
  · refine tf_blk _ b_Mod_shaped_4 rfl ?_
    refine tf_if_ne 16 8 d_Mod_shaped_5 rfl rfl (fun h5 => ?_) (fun h5 => ?_)
    · refine tf_blk _ b_Mod_shaped_16 rfl ?_
      refine tf_ic_ne 33 21 d_Mod_shaped_18 rfl rfl (fun h18 => ?_) (fun h18 => ?_)
      · refine tf_blk _ b_Mod_shaped_33 rfl ?_
        refine tf_blk _ b_Mod_shaped_34 rfl ?_
        refine tf_if_eq 44 40 d_Mod_shaped_37 rfl rfl (fun h37 => ?_) (fun h37 => absurd (show kI 0 = 0 by decide) h37)
        refine tf_blk _ b_Mod_shaped_44 rfl ?_
        refine tm_put 48 d_Mod_shaped_45 rfl fw_Mod_123 hT (by decide) rfl rfl rfl (fun f hT => ?_)
        refine tf_blk _ b_Mod_shaped_48 rfl ?_
        refine tf_if_ne 54 52 d_Mod_shaped_49 rfl rfl (fun h49 => absurd h49 (show ¬ ¬ kI 0 = 0 by decide)) (fun h49 => ?_)
        refine tf_blk _ b_Mod_shaped_52 rfl ?_
        refine tf_iret d_Mod_shaped_53 rfl ?_
        exact ⟨rfl, rfl, hT⟩
      · refine tf_blk _ b_Mod_shaped_21 rfl ?_
        refine tm_get 26 d_Mod_shaped_23 rfl fl_Mod_292 hT rfl ?_
        refine tf_ic_gt 33 29 d_Mod_shaped_26 rfl rfl (fun h26 => ?_) (fun h26 => ?_)
        · refine tf_blk _ b_Mod_shaped_33 rfl ?_
          refine tf_blk _ b_Mod_shaped_34 rfl ?_
          refine tf_if_eq 44 40 d_Mod_shaped_37 rfl rfl (fun h37 => ?_) (fun h37 => absurd (show kI 0 = 0 by decide) h37)
          refine tf_blk _ b_Mod_shaped_44 rfl ?_
          refine tm_put 48 d_Mod_shaped_45 rfl fw_Mod_123 hT (by decide) rfl rfl rfl (fun f hT => ?_)
          refine tf_blk _ b_Mod_shaped_48 rfl ?_
          refine tf_if_ne 54 52 d_Mod_shaped_49 rfl rfl (fun h49 => absurd h49 (show ¬ ¬ kI 0 = 0 by decide)) (fun h49 => ?_)
          refine tf_blk _ b_Mod_shaped_52 rfl ?_
          refine tf_iret d_Mod_shaped_53 rfl ?_
          exact ⟨rfl, rfl, hT⟩
        · exfalso
          have e1 : kI 1 = 1 := rfl
          first
          | (rw [h5] at h18; exact absurd h18 (by decide))
          | (simp [e1, h1, (Int32.not_lt.mp h1), h5, h18, h26, (Int32.not_lt.mp h26), ] at hb; done)
    · refine tf_blk _ b_Mod_shaped_8 rfl ?_
      refine tm_get 13 d_Mod_shaped_10 rfl fl_Mod_292 hT rfl ?_
      refine tf_ic_lt 29 16 d_Mod_shaped_13 rfl rfl (fun h13 => ?_) (fun h13 => ?_)
      · exfalso
        have e1 : kI 1 = 1 := rfl
        first
        | (rw [h5] at h18; exact absurd h18 (by decide))
        | (simp [e1, h1, (Int32.not_lt.mp h1), h5, h13, (Int32.not_le.mpr h13), ] at hb; done)
      · refine tf_blk _ b_Mod_shaped_16 rfl ?_
        refine tf_ic_ne 33 21 d_Mod_shaped_18 rfl rfl (fun h18 => ?_) (fun h18 => ?_)
        · refine tf_blk _ b_Mod_shaped_33 rfl ?_
          refine tf_blk _ b_Mod_shaped_34 rfl ?_
          refine tf_if_eq 44 40 d_Mod_shaped_37 rfl rfl (fun h37 => ?_) (fun h37 => absurd (show kI 0 = 0 by decide) h37)
          refine tf_blk _ b_Mod_shaped_44 rfl ?_
          refine tm_put 48 d_Mod_shaped_45 rfl fw_Mod_123 hT (by decide) rfl rfl rfl (fun f hT => ?_)
          refine tf_blk _ b_Mod_shaped_48 rfl ?_
          refine tf_if_ne 54 52 d_Mod_shaped_49 rfl rfl (fun h49 => absurd h49 (show ¬ ¬ kI 0 = 0 by decide)) (fun h49 => ?_)
          refine tf_blk _ b_Mod_shaped_52 rfl ?_
          refine tf_iret d_Mod_shaped_53 rfl ?_
          exact ⟨rfl, rfl, hT⟩
        · refine tf_blk _ b_Mod_shaped_21 rfl ?_
          refine tm_get 26 d_Mod_shaped_23 rfl fl_Mod_292 hT rfl ?_
          refine tf_ic_gt 33 29 d_Mod_shaped_26 rfl rfl (fun h26 => ?_) (fun h26 => ?_)
          · refine tf_blk _ b_Mod_shaped_33 rfl ?_
            refine tf_blk _ b_Mod_shaped_34 rfl ?_
            refine tf_if_eq 44 40 d_Mod_shaped_37 rfl rfl (fun h37 => ?_) (fun h37 => absurd (show kI 0 = 0 by decide) h37)
            refine tf_blk _ b_Mod_shaped_44 rfl ?_
            refine tm_put 48 d_Mod_shaped_45 rfl fw_Mod_123 hT (by decide) rfl rfl rfl (fun f hT => ?_)
            refine tf_blk _ b_Mod_shaped_48 rfl ?_
            refine tf_if_ne 54 52 d_Mod_shaped_49 rfl rfl (fun h49 => absurd h49 (show ¬ ¬ kI 0 = 0 by decide)) (fun h49 => ?_)
            refine tf_blk _ b_Mod_shaped_52 rfl ?_
            refine tf_iret d_Mod_shaped_53 rfl ?_
            exact ⟨rfl, rfl, hT⟩
          · exfalso
            have e1 : kI 1 = 1 := rfl
            first
            | (rw [h5] at h18; exact absurd h18 (by decide))
            | (simp [e1, h1, (Int32.not_lt.mp h1), h5, h13, (Int32.not_lt.mp h13), h18, h26, (Int32.not_lt.mp h26), ] at hb; done)
set_option maxHeartbeats 4000000 in
set_option maxRecDepth 100000 in
theorem t_Mod_height (hT : tm_at q ad m W0 L J A R f) {n : Nat} (hn : n ≤ 8) (h30 : J 30 = nI n) (y : Int32) {QB : tf_B} {kc ks : Nat} : ∀ w k (b : Bool), k + w = n → tf_W l (tf_H D q) tf_T QB d i_Mod_height 43 [(0, .ref m), (1, .int y), (2, .int (bI (tm_told (A 29) y w k b))), (3, .int (nI n))] [] L f kc ks → tf_W l (tf_H D q) tf_T QB d i_Mod_height 9 [(0, .ref m), (1, .int y), (2, .int (bI b)), (3, .int (nI k))] [] L f kc ks := by
  intro w
  induction w with
  | zero =>
    intro k b hk hK
    obtain rfl : k = n := hk
    refine tf_blk _ b_Mod_height_9 rfl ?_
    refine tm_get 14 d_Mod_height_11 rfl fl_Mod_203 hT rfl ?_
    rw [h30]
    refine tf_ic_ge 43 17 d_Mod_height_14 rfl rfl (fun h14 => ?_) (fun h14 => absurd (nI_le (by omega) (by omega)) h14)
    exact hK
  | succ w ih =>
    intro k b hk hK
    have hkc : (nI k).toNatClampNeg = k := nI_clamp (by omega)
    by_cases c1 : b = true
    · refine tf_blk _ b_Mod_height_9 rfl ?_
      refine tm_get 14 d_Mod_height_11 rfl fl_Mod_203 hT rfl ?_
      rw [h30]
      refine tf_ic_ge 43 17 d_Mod_height_14 rfl rfl (fun h14 => absurd h14 (nI_ge (by omega) (by omega))) (fun h14 => ?_)
      refine tf_blk _ b_Mod_height_17 rfl ?_
      refine tf_if_ne 31 21 d_Mod_height_18 rfl rfl (fun h18 => ?_) (fun h18 => absurd h18 (by rw [c1]; decide))
      refine tf_blk _ b_Mod_height_31 rfl ?_
      refine tf_goto 36 d_Mod_height_32 rfl ?_
      refine tf_blk _ b_Mod_height_36 rfl ?_
      refine tf_goto 9 d_Mod_height_40 rfl ?_
      have h9 := ih (k + 1) (b || decide (A 29 k = y)) (by omega) hK
      rw [nI_succ, show bI (b || decide (A 29 k = y)) = kI 1 from by rw [c1]; rfl] at h9
      exact h9
    have c0 : b = false := by cases b with | false => rfl | true => exact absurd rfl c1
    by_cases c2 : A 29 k = y
    · refine tf_blk _ b_Mod_height_9 rfl ?_
      refine tm_get 14 d_Mod_height_11 rfl fl_Mod_203 hT rfl ?_
      rw [h30]
      refine tf_ic_ge 43 17 d_Mod_height_14 rfl rfl (fun h14 => absurd h14 (nI_ge (by omega) (by omega))) (fun h14 => ?_)
      refine tf_blk _ b_Mod_height_17 rfl ?_
      refine tf_if_ne 31 21 d_Mod_height_18 rfl rfl (fun h18 => absurd h18 (not_not_intro (by rw [c0]; rfl))) (fun h18 => ?_)
      refine tf_blk _ b_Mod_height_21 rfl ?_
      refine tm_get 25 d_Mod_height_22 rfl fl_Mod_72 hT rfl ?_
      refine tf_blk _ b_Mod_height_25 rfl ?_
      refine tm_iald _ 27 d_Mod_height_26 rfl hT rfl (vp_in_nI (by omega) (by omega)) ?_
      rw [hkc]
      refine tf_blk _ b_Mod_height_27 rfl ?_
      refine tf_ic_ne 35 31 d_Mod_height_28 rfl rfl (fun h28 => absurd h28 (not_not_intro c2)) (fun h28 => ?_)
      refine tf_blk _ b_Mod_height_31 rfl ?_
      refine tf_goto 36 d_Mod_height_32 rfl ?_
      refine tf_blk _ b_Mod_height_36 rfl ?_
      refine tf_goto 9 d_Mod_height_40 rfl ?_
      have h9 := ih (k + 1) (b || decide (A 29 k = y)) (by omega) hK
      rw [nI_succ, show bI (b || decide (A 29 k = y)) = kI 1 from by rw [c0, decide_eq_true c2]; rfl] at h9
      exact h9
    refine tf_blk _ b_Mod_height_9 rfl ?_
    refine tm_get 14 d_Mod_height_11 rfl fl_Mod_203 hT rfl ?_
    rw [h30]
    refine tf_ic_ge 43 17 d_Mod_height_14 rfl rfl (fun h14 => absurd h14 (nI_ge (by omega) (by omega))) (fun h14 => ?_)
    refine tf_blk _ b_Mod_height_17 rfl ?_
    refine tf_if_ne 31 21 d_Mod_height_18 rfl rfl (fun h18 => absurd h18 (not_not_intro (by rw [c0]; rfl))) (fun h18 => ?_)
    refine tf_blk _ b_Mod_height_21 rfl ?_
    refine tm_get 25 d_Mod_height_22 rfl fl_Mod_72 hT rfl ?_
    refine tf_blk _ b_Mod_height_25 rfl ?_
    refine tm_iald _ 27 d_Mod_height_26 rfl hT rfl (vp_in_nI (by omega) (by omega)) ?_
    rw [hkc]
    refine tf_blk _ b_Mod_height_27 rfl ?_
    refine tf_ic_ne 35 31 d_Mod_height_28 rfl rfl (fun h28 => ?_) (fun h28 => absurd h28 (c2))
    refine tf_blk _ b_Mod_height_35 rfl ?_
    refine tf_blk _ b_Mod_height_36 rfl ?_
    refine tf_goto 9 d_Mod_height_40 rfl ?_
    have h9 := ih (k + 1) (b || decide (A 29 k = y)) (by omega) hK
    rw [nI_succ, show bI (b || decide (A 29 k = y)) = kI 0 from by rw [c0, decide_eq_false c2]; rfl] at h9
    exact h9
set_option maxHeartbeats 4000000 in
set_option maxRecDepth 100000 in
theorem c_Mod_height (hd : 1 ≤ d) (hT : tm_at q ad m W0 L J A R f) (y : Int32) {n : Nat} (hn : n ≤ 8) (h30 : J 30 = nI n) : tf_C l (tf_H D q) d i_Mod_height [.ref m, .int y] L f 0 0 (tm_to q ad m W0 L (some (.int (bI (tm_height J A n y).1))) ((tm_height J A n y).2.1) ((tm_height J A n y).2.2) (R)) := by
  have hv : ¬ nI n = kI 8 → vp_in (nI n) 8 := fun z => vp_in_nI (by rcases Nat.lt_or_ge n 8 with h | h; exact h; exact absurd (by rw [show n = 8 by omega]; rfl) z) (by omega)
  refine tf_C.of (tf_gok _ _) (by decide) w_1389 (Nat.le_of_ble_eq_true rfl) ?_
  refine tf_blk _ b_Mod_height_0 rfl ?_
  refine tm_put 5 d_Mod_height_2 rfl fw_Mod_123 hT (by decide) rfl rfl rfl (fun f hT => ?_)
  refine tf_blk _ b_Mod_height_5 rfl ?_
  refine t_Mod_height l D q d L _ hT hn h30 y n 0 false (by omega) ?_
  refine tf_blk _ b_Mod_height_43 rfl ?_
  refine tf_cS (tf_gok _ _) (c_Mod_isPlace l D q (d - 1) _ _ _) 47 d_Mod_height_44 rfl lk_Mod_152 cw_Mod_isPlace (by rfl) sa_Mod_isPlace (by omega) (by exact Nat.le_of_ble_eq_true rfl) rfl ?_
  rintro v44 L44 f44 ⟨rfl, rfl, rfl⟩
  refine tf_if_eq 63 50 d_Mod_height_47 rfl rfl (fun h47 => ?_) (fun h47 => ?_)
  · refine tf_blk _ b_Mod_height_63 rfl ?_
    refine tf_zret d_Mod_height_64 rfl (rfl) ?_
    simp only [tm_height, h47, if_true, if_false, not_true_eq_false, not_false_eq_true]
    exact ⟨rfl, rfl, hT⟩
  · refine tf_blk _ b_Mod_height_50 rfl ?_
    refine tf_if_ne 63 54 d_Mod_height_51 rfl rfl (fun h51 => ?_) (fun h51 => ?_)
    · refine tf_blk _ b_Mod_height_63 rfl ?_
      refine tf_zret d_Mod_height_64 rfl (rfl) ?_
      simp only [tm_height, h47, h51, if_true, if_false, not_true_eq_false, not_false_eq_true]
      exact ⟨rfl, rfl, hT⟩
    · refine tf_blk _ b_Mod_height_54 rfl ?_
      refine tm_get 58 d_Mod_height_55 rfl fl_Mod_203 hT rfl ?_
      rw [show upd J 0 (kI 0) 30 = nI n from h30]
      refine tf_blk _ b_Mod_height_58 rfl ?_
      refine tf_ic_ne 65 63 d_Mod_height_60 rfl rfl (fun h60 => ?_) (fun h60 => ?_)
      · refine tf_blk _ b_Mod_height_65 rfl ?_
        refine tm_get 69 d_Mod_height_66 rfl fl_Mod_72 hT rfl ?_
        refine tf_blk _ b_Mod_height_69 rfl ?_
        refine tm_get 73 d_Mod_height_70 rfl fl_Mod_203 hT rfl ?_
        rw [show upd J 0 (kI 0) 30 = nI n from h30]
        refine tf_blk _ b_Mod_height_73 rfl ?_
        refine tm_iast _ 75 d_Mod_height_74 rfl hT rfl (hv h60) (fun f hT => ?_)
        refine tf_blk _ b_Mod_height_75 rfl ?_
        refine tm_get 80 d_Mod_height_77 rfl fl_Mod_203 hT rfl ?_
        rw [show upd J 0 (kI 0) 30 = nI n from h30]
        refine tf_blk _ b_Mod_height_80 rfl ?_
        refine tm_put 85 d_Mod_height_82 rfl fw_Mod_203 hT (by decide) rfl rfl rfl (fun f hT => ?_)
        refine tf_blk _ b_Mod_height_85 rfl ?_
        refine tf_zret d_Mod_height_86 rfl (rfl) ?_
        simp only [tm_height, h47, h51, h60, if_true, if_false, not_true_eq_false, not_false_eq_true]
        exact ⟨rfl, rfl, hT⟩
      · refine tf_blk _ b_Mod_height_63 rfl ?_
        refine tf_zret d_Mod_height_64 rfl (rfl) ?_
        simp only [tm_height, h47, h51, h60, if_true, if_false, not_true_eq_false, not_false_eq_true]
        exact ⟨rfl, rfl, hT⟩
set_option maxHeartbeats 4000000 in
set_option maxRecDepth 100000 in
theorem t_Mod_shape0 (hT : tm_at q ad m W0 L J A R f) (h52 : J 52 = nI 0) {QB : tf_B} {kc ks : Nat} : ∀ w k, k + w = 8 → tf_W l (tf_H D q) tf_T QB d i_Mod_shape 98 [(0, .ref m), (1, .int (nI 8))] [] L f kc ks → tf_W l (tf_H D q) tf_T QB d i_Mod_shape 53 [(0, .ref m), (1, .int (nI k))] [] L f kc ks := by
  intro w
  induction w with
  | zero =>
    intro k hk hK
    obtain rfl : k = 8 := hk
    refine tf_blk _ b_Mod_shape_53 rfl ?_
    refine tf_ic_ge 98 59 d_Mod_shape_56 rfl rfl (fun h56 => ?_) (fun h56 => absurd (nI_le (a := 8) (by omega) (by omega)) h56)
    exact hK
  | succ w ih =>
    intro k hk hK
    refine tf_blk _ b_Mod_shape_53 rfl ?_
    refine tf_ic_ge 98 59 d_Mod_shape_56 rfl rfl (fun h56 => absurd h56 (nI_ge (b := 8) (by omega) (by omega))) (fun h56 => ?_)
    refine tf_blk _ b_Mod_shape_59 rfl ?_
    refine tf_blk _ b_Mod_shape_61 rfl ?_
    refine tm_get 66 d_Mod_shape_63 rfl fl_Mod_292 hT rfl ?_
    refine tf_ic_ge 92 69 d_Mod_shape_66 rfl rfl (fun h66 => ?_) (fun h66 => absurd (by rw [h52]; decide) h66)
    refine tf_blk _ b_Mod_shape_92 rfl ?_
    refine tf_goto 53 d_Mod_shape_95 rfl ?_
    refine tf_drop [0, 1] rfl ?_
    have h9 := ih (k + 1) (by omega) hK
    rw [nI_succ] at h9
    exact h9
set_option maxHeartbeats 4000000 in
set_option maxRecDepth 100000 in
theorem c_Mod_shape_0 (hT : tm_at q ad m W0 L J A R f) (h50 : J 50 = nI 0) : tf_C l (tf_H D q) d i_Mod_shape [.ref m] L f 0 0 (tm_to q ad m W0 L (some (.int (kI 0))) (upd (upd (upd (upd J 0 (kI 0)) 52 (nI 0)) 50 (kI 0)) 48 (kI 0)) (A) (R)) := by
  refine tf_C.of (tf_gok _ _) (by decide) w_1484 (Nat.le_of_ble_eq_true rfl) ?_
  refine tf_blk _ b_Mod_shape_0 rfl ?_
  refine tm_put 5 d_Mod_shape_2 rfl fw_Mod_123 hT (by decide) rfl rfl rfl (fun f hT => ?_)
  refine tf_blk _ b_Mod_shape_5 rfl ?_
  refine tm_get 10 d_Mod_shape_7 rfl fl_Mod_289 hT rfl ?_
  rw [show upd J 0 (kI 0) 50 = nI 0 from h50]
  refine tm_put 13 d_Mod_shape_10 rfl fw_Mod_292 hT (by decide) rfl rfl rfl (fun f hT => ?_)
  refine tf_blk _ b_Mod_shape_13 rfl ?_
  refine tf_blk _ b_Mod_shape_15 rfl ?_
  refine tm_get 20 d_Mod_shape_17 rfl fl_Mod_289 hT rfl ?_
  refine tf_ic_ge 41 23 d_Mod_shape_20 rfl rfl (fun h20 => ?_) (fun h20 => absurd (by rw [show upd (upd J 0 (kI 0)) 52 (nI 0) 50 = nI 0 from h50]; decide) h20)
  refine tf_blk _ b_Mod_shape_41 rfl ?_
  refine tm_put 46 d_Mod_shape_43 rfl fw_Mod_289 hT (by decide) rfl rfl rfl (fun f hT => ?_)
  refine tf_blk _ b_Mod_shape_46 rfl ?_
  refine tm_put 51 d_Mod_shape_48 rfl fw_Mod_303 hT (by decide) rfl rfl rfl (fun f hT => ?_)
  refine tf_blk _ b_Mod_shape_51 rfl ?_
  refine t_Mod_shape0 l D q d L _ hT rfl 8 0 (by omega) ?_
  refine tf_blk _ b_Mod_shape_98 rfl ?_
  refine tm_get 102 d_Mod_shape_99 rfl fl_Mod_292 hT rfl ?_
  refine tf_iret d_Mod_shape_102 rfl ?_
  exact ⟨rfl, rfl, hT⟩
end
