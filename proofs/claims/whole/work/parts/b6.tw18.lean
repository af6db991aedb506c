/-! the reference: point, refused -/
section
variable (l : Launch) (D : va_G) (q : Nat → ClassId) (d : Nat) (L : List Nat) (f : tf_F) {ad : Nat → Nat} {m : Nat} {W0 : tf_F} {J : Nat → Int32} {A : Nat → Nat → Int32} {R : Nat → Int64}
set_option maxHeartbeats 4000000 in
set_option maxRecDepth 100000 in
theorem c_Mod_point_x (hd : 1 ≤ d) (hT : tm_at q ad m W0 L J A R f) {i : Nat} (hi : i < 40) (x y b : Int32) (hG : tm_isG J (nI i) = true) (hx : tm_isP x = false) : tf_C l (tf_H D q) d i_Mod_point [.ref m, .int (nI i), .int x, .int y, .int b] L f 0 0 (tm_to q ad m W0 L (some (.int (kI 0))) (upd J 0 (kI 1)) (A) (R)) := by
  refine tf_C.of (tf_gok _ _) (by decide) w_1306 (Nat.le_of_ble_eq_true rfl) ?_
  refine tf_blk _ b_Mod_point_0 rfl ?_
  refine tf_cV (tf_gok _ _) (c_Mod_isGlyph l D q (d - 1) _ _ hT _) 6 d_Mod_point_3 rfl lk_Mod_148 cw_Mod_isGlyph (by rfl) in_Mod_isGlyph se_Mod_isGlyph (by exact hT.1.1) (by exact hT.1.2.1) (by rfl) (by rfl) (by omega) (by exact Nat.le_of_ble_eq_true rfl) rfl ?_
  rintro v3 L3 f3 ⟨rfl, rfl, rfl⟩
  refine tf_if_eq 23 9 d_Mod_point_6 rfl rfl (fun h6 => absurd h6 (by rw [hG]; decide)) (fun h6 => ?_)
  refine tf_blk _ b_Mod_point_9 rfl ?_
  refine tf_cS (tf_gok _ _) (c_Mod_isPlace l D q (d - 1) _ _ _) 13 d_Mod_point_10 rfl lk_Mod_152 cw_Mod_isPlace (by rfl) sa_Mod_isPlace (by omega) (by exact Nat.le_of_ble_eq_true rfl) rfl ?_
  rintro v10 L10 f10 ⟨rfl, rfl, rfl⟩
  refine tf_if_eq 23 16 d_Mod_point_13 rfl rfl (fun h13 => ?_) (fun h13 => absurd (by rw [hx]; rfl) h13)
  refine tf_blk _ b_Mod_point_23 rfl ?_
  refine tf_goto 52 d_Mod_point_24 rfl ?_
  refine tm_put 55 d_Mod_point_52 rfl fw_Mod_123 hT (by decide) rfl rfl rfl (fun f hT => ?_)
  refine tf_blk _ b_Mod_point_55 rfl ?_
  refine tm_get 59 d_Mod_point_56 rfl fl_Mod_123 hT rfl ?_
  refine tf_if_le 64 62 d_Mod_point_59 rfl rfl (fun h59 => absurd h59 (show ¬ kI 1 ≤ 0 by decide)) (fun h59 => ?_)
  refine tf_blk _ b_Mod_point_62 rfl ?_
  refine tf_iret d_Mod_point_63 rfl ?_
  exact ⟨rfl, rfl, hT⟩
set_option maxHeartbeats 4000000 in
set_option maxRecDepth 100000 in
theorem c_Mod_point_y (hd : 1 ≤ d) (hT : tm_at q ad m W0 L J A R f) {i : Nat} (hi : i < 40) (x y b : Int32) (hG : tm_isG J (nI i) = true) (hx : tm_isP x = true) (hy : tm_isP y = false) : tf_C l (tf_H D q) d i_Mod_point [.ref m, .int (nI i), .int x, .int y, .int b] L f 0 0 (tm_to q ad m W0 L (some (.int (kI 0))) (upd J 0 (kI 1)) (A) (R)) := by
  refine tf_C.of (tf_gok _ _) (by decide) w_1306 (Nat.le_of_ble_eq_true rfl) ?_
  refine tf_blk _ b_Mod_point_0 rfl ?_
  refine tf_cV (tf_gok _ _) (c_Mod_isGlyph l D q (d - 1) _ _ hT _) 6 d_Mod_point_3 rfl lk_Mod_148 cw_Mod_isGlyph (by rfl) in_Mod_isGlyph se_Mod_isGlyph (by exact hT.1.1) (by exact hT.1.2.1) (by rfl) (by rfl) (by omega) (by exact Nat.le_of_ble_eq_true rfl) rfl ?_
  rintro v3 L3 f3 ⟨rfl, rfl, rfl⟩
  refine tf_if_eq 23 9 d_Mod_point_6 rfl rfl (fun h6 => absurd h6 (by rw [hG]; decide)) (fun h6 => ?_)
  refine tf_blk _ b_Mod_point_9 rfl ?_
  refine tf_cS (tf_gok _ _) (c_Mod_isPlace l D q (d - 1) _ _ _) 13 d_Mod_point_10 rfl lk_Mod_152 cw_Mod_isPlace (by rfl) sa_Mod_isPlace (by omega) (by exact Nat.le_of_ble_eq_true rfl) rfl ?_
  rintro v10 L10 f10 ⟨rfl, rfl, rfl⟩
  refine tf_if_eq 23 16 d_Mod_point_13 rfl rfl (fun h13 => absurd h13 (by rw [hx]; decide)) (fun h13 => ?_)
  refine tf_blk _ b_Mod_point_16 rfl ?_
  refine tf_cS (tf_gok _ _) (c_Mod_isPlace l D q (d - 1) _ _ _) 20 d_Mod_point_17 rfl lk_Mod_152 cw_Mod_isPlace (by rfl) sa_Mod_isPlace (by omega) (by exact Nat.le_of_ble_eq_true rfl) rfl ?_
  rintro v17 L17 f17 ⟨rfl, rfl, rfl⟩
  refine tf_if_ne 27 23 d_Mod_point_20 rfl rfl (fun h20 => absurd h20 (by rw [hy]; decide)) (fun h20 => ?_)
  refine tf_blk _ b_Mod_point_23 rfl ?_
  refine tf_goto 52 d_Mod_point_24 rfl ?_
  refine tm_put 55 d_Mod_point_52 rfl fw_Mod_123 hT (by decide) rfl rfl rfl (fun f hT => ?_)
  refine tf_blk _ b_Mod_point_55 rfl ?_
  refine tm_get 59 d_Mod_point_56 rfl fl_Mod_123 hT rfl ?_
  refine tf_if_le 64 62 d_Mod_point_59 rfl rfl (fun h59 => absurd h59 (show ¬ kI 1 ≤ 0 by decide)) (fun h59 => ?_)
  refine tf_blk _ b_Mod_point_62 rfl ?_
  refine tf_iret d_Mod_point_63 rfl ?_
  exact ⟨rfl, rfl, hT⟩
set_option maxHeartbeats 4000000 in
set_option maxRecDepth 100000 in
theorem c_Mod_point_l (hd : 1 ≤ d) (hT : tm_at q ad m W0 L J A R f) {i : Nat} (hi : i < 40) (x y b : Int32) (hG : tm_isG J (nI i) = true) (hx : tm_isP x = true) (hy : tm_isP y = true) (h9 : ¬ A 9 i = 0) : tf_C l (tf_H D q) d i_Mod_point [.ref m, .int (nI i), .int x, .int y, .int b] L f 0 0 (tm_to q ad m W0 L (some (.int (kI 0))) (upd J 0 (kI 2)) (A) (R)) := by
  have hiv : vp_in (nI i) 40 := vp_in_nI hi (by omega)
  have hic : (nI i).toNatClampNeg = i := nI_clamp (by omega)
  refine tf_C.of (tf_gok _ _) (by decide) w_1306 (Nat.le_of_ble_eq_true rfl) ?_
  refine tf_blk _ b_Mod_point_0 rfl ?_
  refine tf_cV (tf_gok _ _) (c_Mod_isGlyph l D q (d - 1) _ _ hT _) 6 d_Mod_point_3 rfl lk_Mod_148 cw_Mod_isGlyph (by rfl) in_Mod_isGlyph se_Mod_isGlyph (by exact hT.1.1) (by exact hT.1.2.1) (by rfl) (by rfl) (by omega) (by exact Nat.le_of_ble_eq_true rfl) rfl ?_
  rintro v3 L3 f3 ⟨rfl, rfl, rfl⟩
  refine tf_if_eq 23 9 d_Mod_point_6 rfl rfl (fun h6 => absurd h6 (by rw [hG]; decide)) (fun h6 => ?_)
  refine tf_blk _ b_Mod_point_9 rfl ?_
  refine tf_cS (tf_gok _ _) (c_Mod_isPlace l D q (d - 1) _ _ _) 13 d_Mod_point_10 rfl lk_Mod_152 cw_Mod_isPlace (by rfl) sa_Mod_isPlace (by omega) (by exact Nat.le_of_ble_eq_true rfl) rfl ?_
  rintro v10 L10 f10 ⟨rfl, rfl, rfl⟩
  refine tf_if_eq 23 16 d_Mod_point_13 rfl rfl (fun h13 => absurd h13 (by rw [hx]; decide)) (fun h13 => ?_)
  refine tf_blk _ b_Mod_point_16 rfl ?_
  refine tf_cS (tf_gok _ _) (c_Mod_isPlace l D q (d - 1) _ _ _) 20 d_Mod_point_17 rfl lk_Mod_152 cw_Mod_isPlace (by rfl) sa_Mod_isPlace (by omega) (by exact Nat.le_of_ble_eq_true rfl) rfl ?_
  rintro v17 L17 f17 ⟨rfl, rfl, rfl⟩
  refine tf_if_ne 27 23 d_Mod_point_20 rfl rfl (fun h20 => ?_) (fun h20 => absurd h20 (by rw [hy]; decide))
  refine tf_blk _ b_Mod_point_27 rfl ?_
  refine tm_get 31 d_Mod_point_28 rfl fl_Mod_29 hT rfl ?_
  refine tf_blk _ b_Mod_point_31 rfl ?_
  first | refine tm_zald _ 33 d_Mod_point_32 rfl hT rfl (hiv) ?_ | refine tm_bald _ 33 d_Mod_point_32 rfl hT rfl (hiv) ?_
  refine tf_if_ne 47 36 d_Mod_point_33 rfl rfl (fun h33 => ?_) (fun h33 => absurd h33 (by rw [hic]; exact h9))
  refine tf_blk _ b_Mod_point_47 rfl ?_
  refine tf_goto 52 d_Mod_point_48 rfl ?_
  refine tm_put 55 d_Mod_point_52 rfl fw_Mod_123 hT (by decide) rfl rfl rfl (fun f hT => ?_)
  refine tf_blk _ b_Mod_point_55 rfl ?_
  refine tm_get 59 d_Mod_point_56 rfl fl_Mod_123 hT rfl ?_
  refine tf_if_le 64 62 d_Mod_point_59 rfl rfl (fun h59 => absurd h59 (show ¬ kI 2 ≤ 0 by decide)) (fun h59 => ?_)
  refine tf_blk _ b_Mod_point_62 rfl ?_
  refine tf_iret d_Mod_point_63 rfl ?_
  exact ⟨rfl, rfl, hT⟩
set_option maxHeartbeats 4000000 in
set_option maxRecDepth 100000 in
theorem c_Mod_point_f (hd : 1 ≤ d) (hT : tm_at q ad m W0 L J A R f) {i : Nat} (hi : i < 40) (x y b : Int32) (hG : tm_isG J (nI i) = true) (hx : tm_isP x = true) (hy : tm_isP y = true) (h9 : A 9 i = 0) (h5 : A 5 i = nI 40) : tf_C l (tf_H D q) d i_Mod_point [.ref m, .int (nI i), .int x, .int y, .int b] L f 0 0 (tm_to q ad m W0 L (some (.int (kI 0))) (upd J 0 (kI 2)) (A) (R)) := by
  have hiv : vp_in (nI i) 40 := vp_in_nI hi (by omega)
  have hic : (nI i).toNatClampNeg = i := nI_clamp (by omega)
  refine tf_C.of (tf_gok _ _) (by decide) w_1306 (Nat.le_of_ble_eq_true rfl) ?_
  refine tf_blk _ b_Mod_point_0 rfl ?_
  refine tf_cV (tf_gok _ _) (c_Mod_isGlyph l D q (d - 1) _ _ hT _) 6 d_Mod_point_3 rfl lk_Mod_148 cw_Mod_isGlyph (by rfl) in_Mod_isGlyph se_Mod_isGlyph (by exact hT.1.1) (by exact hT.1.2.1) (by rfl) (by rfl) (by omega) (by exact Nat.le_of_ble_eq_true rfl) rfl ?_
  rintro v3 L3 f3 ⟨rfl, rfl, rfl⟩
  refine tf_if_eq 23 9 d_Mod_point_6 rfl rfl (fun h6 => absurd h6 (by rw [hG]; decide)) (fun h6 => ?_)
  refine tf_blk _ b_Mod_point_9 rfl ?_
  refine tf_cS (tf_gok _ _) (c_Mod_isPlace l D q (d - 1) _ _ _) 13 d_Mod_point_10 rfl lk_Mod_152 cw_Mod_isPlace (by rfl) sa_Mod_isPlace (by omega) (by exact Nat.le_of_ble_eq_true rfl) rfl ?_
  rintro v10 L10 f10 ⟨rfl, rfl, rfl⟩
  refine tf_if_eq 23 16 d_Mod_point_13 rfl rfl (fun h13 => absurd h13 (by rw [hx]; decide)) (fun h13 => ?_)
  refine tf_blk _ b_Mod_point_16 rfl ?_
  refine tf_cS (tf_gok _ _) (c_Mod_isPlace l D q (d - 1) _ _ _) 20 d_Mod_point_17 rfl lk_Mod_152 cw_Mod_isPlace (by rfl) sa_Mod_isPlace (by omega) (by exact Nat.le_of_ble_eq_true rfl) rfl ?_
  rintro v17 L17 f17 ⟨rfl, rfl, rfl⟩
  refine tf_if_ne 27 23 d_Mod_point_20 rfl rfl (fun h20 => ?_) (fun h20 => absurd h20 (by rw [hy]; decide))
  refine tf_blk _ b_Mod_point_27 rfl ?_
  refine tm_get 31 d_Mod_point_28 rfl fl_Mod_29 hT rfl ?_
  refine tf_blk _ b_Mod_point_31 rfl ?_
  first | refine tm_zald _ 33 d_Mod_point_32 rfl hT rfl (hiv) ?_ | refine tm_bald _ 33 d_Mod_point_32 rfl hT rfl (hiv) ?_
  refine tf_if_ne 47 36 d_Mod_point_33 rfl rfl (fun h33 => absurd h33 (not_not_intro (by rw [hic]; exact h9))) (fun h33 => ?_)
  refine tf_blk _ b_Mod_point_36 rfl ?_
  refine tm_get 40 d_Mod_point_37 rfl fl_Mod_17 hT rfl ?_
  refine tf_blk _ b_Mod_point_40 rfl ?_
  refine tm_iald _ 42 d_Mod_point_41 rfl hT rfl (hiv) ?_
  refine tf_blk _ b_Mod_point_42 rfl ?_
  refine tf_ic_ne 51 47 d_Mod_point_44 rfl rfl (fun h44 => absurd h44 (not_not_intro (by rw [hic, h5]; rfl))) (fun h44 => ?_)
  refine tf_blk _ b_Mod_point_47 rfl ?_
  refine tf_goto 52 d_Mod_point_48 rfl ?_
  refine tm_put 55 d_Mod_point_52 rfl fw_Mod_123 hT (by decide) rfl rfl rfl (fun f hT => ?_)
  refine tf_blk _ b_Mod_point_55 rfl ?_
  refine tm_get 59 d_Mod_point_56 rfl fl_Mod_123 hT rfl ?_
  refine tf_if_le 64 62 d_Mod_point_59 rfl rfl (fun h59 => absurd h59 (show ¬ kI 2 ≤ 0 by decide)) (fun h59 => ?_)
  refine tf_blk _ b_Mod_point_62 rfl ?_
  refine tf_iret d_Mod_point_63 rfl ?_
  exact ⟨rfl, rfl, hT⟩
end
