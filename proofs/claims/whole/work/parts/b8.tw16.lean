/-! the reference: contour -/
section
variable (l : Launch) (D : va_G) (q : Nat → ClassId) (d : Nat) (L : List Nat) (f : tf_F) {ad : Nat → Nat} {m : Nat} {W0 : tf_F} {J : Nat → Int32} {A : Nat → Nat → Int32} {R : Nat → Int64}
set_option maxHeartbeats 4000000 in
set_option maxRecDepth 100000 in
theorem c_Mod_quadratic2 (hd : 6 ≤ d) {x0 y0 : Int32} {G : Nat → Int32} (hT : tm_at q ad m W0 L (tm_JS J x0 y0) (va_up A 31 G) R f) {al : Nat} (hal : al ≤ 64) (h32 : J 32 = nI al) (hs : 0 < (J 33).toInt) (hs2 : (J 33).toInt ≤ 256) {nh : Nat} (hn : nh ≤ 8) (h30 : J 30 = nI nh) (hF : ∀ y, iB 100000 y → iB 1000000 ((tm_fit (J 34) nh (A 29) (J 33)) y)) {x y x1 y1 : Int32} {w0 k0 : Nat} (hwk : k0 + w0 = 8) (hk0 : k0 = 1) (h0x : iB 100000 x0) (h0y : iB 100000 y0) (hx : iB 100000 x) (hy : iB 100000 y) (hx1 : iB 100000 x1) (hy1 : iB 100000 y1) : tf_C l (tf_H D q) d i_Mod_quadratic [.ref m, .int x, .int y, .int x1, .int y1] L f 0 0 (fun v L2 f2 => v = none ∧ L2 = L ∧ ∃ D2 : tm_D, D2 = tm_qd (tm_fit (J 34) nh (A 29) (J 33)) al (J 33) x0 y0 x y x1 y1 w0 k0 (x0, y0, G) ∧ tm_at q ad m W0 L (tm_JS J D2.1 D2.2.1) (va_up A 31 D2.2.2) R f2) := by
  have j30 : tm_JS J x0 y0 30 = J 30 := rfl
  have j32 : tm_JS J x0 y0 32 = J 32 := rfl
  have j33 : tm_JS J x0 y0 33 = J 33 := rfl
  have j34 : tm_JS J x0 y0 34 = J 34 := rfl
  have j53 : tm_JS J x0 y0 53 = x0 := rfl
  have j54 : tm_JS J x0 y0 54 = y0 := rfl
  have a29 : va_up A 31 G 29 = A 29 := va_up_ne _ _ (by decide)
  have a31 : va_up A 31 G 31 = G := va_up_self _ _ _
  generalize hJ : tm_JS J x0 y0 = J1 at hT j30 j32 j33 j34 j53 j54
  generalize hA : va_up A 31 G = A1 at hT a29 a31
  have hc := c_Mod_quadratic l D q d L f hd hT hal (j32.trans h32) (by rw [j33]; exact hs) (by rw [j33]; exact hs2) hn (j30.trans h30) (by rw [j34, a29, j33]; exact hF) hwk hk0 (by rw [j53]; exact h0x) (by rw [j54]; exact h0y) hx hy hx1 hy1
  refine hc.mono ?_
  rintro v L2 f2 ⟨e1, e2, D2, e3, e4⟩
  rw [← hJ, ← hA, tm_JS2, tm_va2] at e4
  rw [j34, a29, j33, j53, j54, a31] at e3
  exact ⟨e1, e2, D2, e3, e4⟩
theorem tm_F54 (ad : Nat → Nat) (J : Nat → Int32) (v : Int32) : (tm_F ad J).set 54 (.int v) = tm_F ad (upd J 54 v) := rfl
theorem tm_F53 (ad : Nat → Nat) (J : Nat → Int32) (v : Int32) : (tm_F ad J).set 53 (.int v) = tm_F ad (upd J 53 v) := rfl
set_option maxHeartbeats 4000000 in
set_option maxRecDepth 100000 in
theorem t_Mod_ctA (hd : 3 ≤ d) {QB : tf_B} {kc ks fi n k p e r : Nat} {x0 y0 : Int32} {G : Nat → Int32} (hp : p < 160) (he : e < 160) (hr : r < 160) (hT : tm_at q ad m W0 L (tm_JS J (x0) (y0)) (va_up A 31 G) R f) (hK : ∀ f2 : tf_F, tm_at q ad m W0 L (tm_JS J (tm_e1 (A 19) (A 21) r p) (tm_e1 (A 20) (A 21) r p)) (va_up A 31 G) R f2 → tf_W l (tf_H D q) tf_T QB d i_Mod_contour 177 [(0, .ref m), (1, .int (nI fi)), (2, .int (nI n)), (3, .int (nI k)), (4, .int (nI p)), (5, .int (nI e)), (6, .int (nI r))] [] L f2 kc ks) : tf_W l (tf_H D q) tf_T QB d i_Mod_contour 95 [(0, .ref m), (1, .int (nI fi)), (2, .int (nI n)), (3, .int (nI k)), (4, .int (nI p)), (5, .int (nI e)), (6, .int (nI r))] [] L f kc ks := by
  have hpv : vp_in (nI p) 160 := vp_in_nI (by omega) (by omega)
  have hpc : (nI p).toNatClampNeg = p := nI_clamp (by omega)
  have hev : vp_in (nI e) 160 := vp_in_nI (by omega) (by omega)
  have hec : (nI e).toNatClampNeg = e := nI_clamp (by omega)
  have hrv : vp_in (nI r) 160 := vp_in_nI (by omega) (by omega)
  have hrc : (nI r).toNatClampNeg = r := nI_clamp (by omega)
  have v19 : ∀ z, va_up A 31 G 19 z = A 19 z := fun z => rfl
  have v20 : ∀ z, va_up A 31 G 20 z = A 20 z := fun z => rfl
  have v21 : ∀ z, va_up A 31 G 21 z = A 21 z := fun z => rfl
  by_cases hOr : A 21 r = 0
  · refine tf_blk _ b_Mod_contour_95 rfl ?_
    refine tm_get 100 d_Mod_contour_97 rfl fl_Mod_60 hT rfl ?_
    refine tf_blk _ b_Mod_contour_100 rfl ?_
    first | refine tm_zald _ 103 d_Mod_contour_102 rfl hT rfl (hrv) ?_ | refine tm_bald _ 103 d_Mod_contour_102 rfl hT rfl (hrv) ?_
    rw [hrc, v21]
    refine tf_if_eq 116 106 d_Mod_contour_103 rfl rfl (fun h103 => ?_) (fun h103 => absurd (hOr) h103)
    refine tf_blk _ b_Mod_contour_116 rfl ?_
    refine tm_get 120 d_Mod_contour_117 rfl fl_Mod_54 hT rfl ?_
    refine tf_blk _ b_Mod_contour_120 rfl ?_
    refine tm_iald _ 123 d_Mod_contour_122 rfl hT rfl (hrv) ?_
    rw [hrc, v19]
    refine tf_blk _ b_Mod_contour_123 rfl ?_
    refine tm_get 127 d_Mod_contour_124 rfl fl_Mod_54 hT rfl ?_
    refine tf_blk _ b_Mod_contour_127 rfl ?_
    refine tm_iald _ 130 d_Mod_contour_129 rfl hT rfl (hpv) ?_
    rw [hpc, v19]
    refine tf_cS (tf_gok _ _) (c_Mod_middle l D q (d - 1) _ _ (by omega) _ _) 133 d_Mod_contour_130 rfl lk_Mod_250 cw_Mod_middle (by rfl) sa_Mod_middle (by omega) (by exact Nat.le_of_ble_eq_true rfl) rfl ?_
    rintro v130 L130 f130 ⟨rfl, rfl, rfl⟩
    generalize hm1 : tm_mid (A 19 r) (A 19 p) = u1
    generalize hJ0 : tm_JS J x0 y0 = J0 at hT
    refine tm_put 136 d_Mod_contour_133 rfl fw_Mod_236 hT (by decide) (tm_F53 _ _ _) rfl rfl (fun f hT => ?_)
    refine tf_blk _ b_Mod_contour_136 rfl ?_
    refine tm_get 141 d_Mod_contour_138 rfl fl_Mod_60 hT rfl ?_
    refine tf_blk _ b_Mod_contour_141 rfl ?_
    first | refine tm_zald _ 144 d_Mod_contour_143 rfl hT rfl (hrv) ?_ | refine tm_bald _ 144 d_Mod_contour_143 rfl hT rfl (hrv) ?_
    rw [hrc, v21]
    refine tf_if_eq 157 147 d_Mod_contour_144 rfl rfl (fun h144 => ?_) (fun h144 => absurd (hOr) h144)
    refine tf_blk _ b_Mod_contour_157 rfl ?_
    refine tm_get 161 d_Mod_contour_158 rfl fl_Mod_57 hT rfl ?_
    refine tf_blk _ b_Mod_contour_161 rfl ?_
    refine tm_iald _ 164 d_Mod_contour_163 rfl hT rfl (hrv) ?_
    rw [hrc, v20]
    refine tf_blk _ b_Mod_contour_164 rfl ?_
    refine tm_get 168 d_Mod_contour_165 rfl fl_Mod_57 hT rfl ?_
    refine tf_blk _ b_Mod_contour_168 rfl ?_
    refine tm_iald _ 171 d_Mod_contour_170 rfl hT rfl (hpv) ?_
    rw [hpc, v20]
    refine tf_cS (tf_gok _ _) (c_Mod_middle l D q (d - 1) _ _ (by omega) _ _) 174 d_Mod_contour_171 rfl lk_Mod_250 cw_Mod_middle (by rfl) sa_Mod_middle (by omega) (by exact Nat.le_of_ble_eq_true rfl) rfl ?_
    rintro v171 L171 f171 ⟨rfl, rfl, rfl⟩
    generalize hm2 : tm_mid (A 20 r) (A 20 p) = u2
    generalize hJ1 : upd J0 53 u1 = J1 at hT
    refine tm_put 177 d_Mod_contour_174 rfl fw_Mod_239 hT (by decide) (tm_F54 _ _ _) rfl rfl (fun f hT => ?_)
    refine hK _ ?_
    rw [← hJ1, ← hJ0] at hT
    have hT := tm_at_JS hT
    rw [← hm1, ← hm2] at hT
    rw [show tm_e1 (A 19) (A 21) r p = tm_mid (A 19 r) (A 19 p) from if_pos hOr, show tm_e1 (A 20) (A 21) r p = tm_mid (A 20 r) (A 20 p) from if_pos hOr]
    exact hT
  refine tf_blk _ b_Mod_contour_95 rfl ?_
  refine tm_get 100 d_Mod_contour_97 rfl fl_Mod_60 hT rfl ?_
  refine tf_blk _ b_Mod_contour_100 rfl ?_
  first | refine tm_zald _ 103 d_Mod_contour_102 rfl hT rfl (hrv) ?_ | refine tm_bald _ 103 d_Mod_contour_102 rfl hT rfl (hrv) ?_
  rw [hrc, v21]
  refine tf_if_eq 116 106 d_Mod_contour_103 rfl rfl (fun h103 => absurd h103 (hOr)) (fun h103 => ?_)
  refine tf_blk _ b_Mod_contour_106 rfl ?_
  refine tm_get 110 d_Mod_contour_107 rfl fl_Mod_54 hT rfl ?_
  refine tf_blk _ b_Mod_contour_110 rfl ?_
  refine tm_iald _ 113 d_Mod_contour_112 rfl hT rfl (hrv) ?_
  rw [hrc, v19]
  refine tf_goto 133 d_Mod_contour_113 rfl ?_
  refine tm_put 136 d_Mod_contour_133 rfl fw_Mod_236 hT (by decide) (tm_F53 _ _ _) rfl rfl (fun f hT => ?_)
  refine tf_blk _ b_Mod_contour_136 rfl ?_
  refine tm_get 141 d_Mod_contour_138 rfl fl_Mod_60 hT rfl ?_
  refine tf_blk _ b_Mod_contour_141 rfl ?_
  first | refine tm_zald _ 144 d_Mod_contour_143 rfl hT rfl (hrv) ?_ | refine tm_bald _ 144 d_Mod_contour_143 rfl hT rfl (hrv) ?_
  rw [hrc, v21]
  refine tf_if_eq 157 147 d_Mod_contour_144 rfl rfl (fun h144 => absurd h144 (hOr)) (fun h144 => ?_)
  refine tf_blk _ b_Mod_contour_147 rfl ?_
  refine tm_get 151 d_Mod_contour_148 rfl fl_Mod_57 hT rfl ?_
  refine tf_blk _ b_Mod_contour_151 rfl ?_
  refine tm_iald _ 154 d_Mod_contour_153 rfl hT rfl (hrv) ?_
  rw [hrc, v20]
  refine tf_goto 174 d_Mod_contour_154 rfl ?_
  refine tm_put 177 d_Mod_contour_174 rfl fw_Mod_239 hT (by decide) (tm_F54 _ _ _) rfl rfl (fun f hT => ?_)
  refine hK _ ?_
  have hT := tm_at_JS hT
  rw [show tm_e1 (A 19) (A 21) r p = A 19 r from if_neg hOr, show tm_e1 (A 20) (A 21) r p = A 20 r from if_neg hOr]
  exact hT
set_option maxHeartbeats 4000000 in
set_option maxRecDepth 100000 in
theorem t_Mod_ctB (hd : 3 ≤ d) {QB : tf_B} {kc ks fi n k p e r : Nat} {x0 y0 : Int32} {G : Nat → Int32} (hp : p < 160) (he : e < 160) (hr : r < 160) (hT : tm_at q ad m W0 L (tm_JS J (x0) (y0)) (va_up A 31 G) R f) (hK : tf_W l (tf_H D q) tf_T QB d i_Mod_contour 253 [(0, .ref m), (1, .int (nI fi)), (2, .int (nI n)), (3, .int (nI k)), (4, .int (nI p)), (5, .int (nI e)), (6, .int (nI r)), (7, .int (tm_e2 (A 19) (A 21) p e))] [.int (tm_e2 (A 20) (A 21) p e)] L f kc ks) : tf_W l (tf_H D q) tf_T QB d i_Mod_contour 177 [(0, .ref m), (1, .int (nI fi)), (2, .int (nI n)), (3, .int (nI k)), (4, .int (nI p)), (5, .int (nI e)), (6, .int (nI r))] [] L f kc ks := by
  have hpv : vp_in (nI p) 160 := vp_in_nI (by omega) (by omega)
  have hpc : (nI p).toNatClampNeg = p := nI_clamp (by omega)
  have hev : vp_in (nI e) 160 := vp_in_nI (by omega) (by omega)
  have hec : (nI e).toNatClampNeg = e := nI_clamp (by omega)
  have hrv : vp_in (nI r) 160 := vp_in_nI (by omega) (by omega)
  have hrc : (nI r).toNatClampNeg = r := nI_clamp (by omega)
  have v19 : ∀ z, va_up A 31 G 19 z = A 19 z := fun z => rfl
  have v20 : ∀ z, va_up A 31 G 20 z = A 20 z := fun z => rfl
  have v21 : ∀ z, va_up A 31 G 21 z = A 21 z := fun z => rfl
  by_cases hOe : A 21 e = 0
  · rw [show tm_e2 (A 19) (A 21) p e = tm_mid (A 19 p) (A 19 e) from if_pos hOe, show tm_e2 (A 20) (A 21) p e = tm_mid (A 20 p) (A 20 e) from if_pos hOe] at hK
    refine tf_blk _ b_Mod_contour_177 rfl ?_
    refine tm_get 181 d_Mod_contour_178 rfl fl_Mod_60 hT rfl ?_
    refine tf_blk _ b_Mod_contour_181 rfl ?_
    first | refine tm_zald _ 184 d_Mod_contour_183 rfl hT rfl (hev) ?_ | refine tm_bald _ 184 d_Mod_contour_183 rfl hT rfl (hev) ?_
    rw [hec, v21]
    refine tf_if_eq 197 187 d_Mod_contour_184 rfl rfl (fun h184 => ?_) (fun h184 => absurd (hOe) h184)
    refine tf_blk _ b_Mod_contour_197 rfl ?_
    refine tm_get 201 d_Mod_contour_198 rfl fl_Mod_54 hT rfl ?_
    refine tf_blk _ b_Mod_contour_201 rfl ?_
    refine tm_iald _ 204 d_Mod_contour_203 rfl hT rfl (hpv) ?_
    rw [hpc, v19]
    refine tf_blk _ b_Mod_contour_204 rfl ?_
    refine tm_get 208 d_Mod_contour_205 rfl fl_Mod_54 hT rfl ?_
    refine tf_blk _ b_Mod_contour_208 rfl ?_
    refine tm_iald _ 211 d_Mod_contour_210 rfl hT rfl (hev) ?_
    rw [hec, v19]
    refine tf_cS (tf_gok _ _) (c_Mod_middle l D q (d - 1) _ _ (by omega) _ _) 214 d_Mod_contour_211 rfl lk_Mod_250 cw_Mod_middle (by rfl) sa_Mod_middle (by omega) (by exact Nat.le_of_ble_eq_true rfl) rfl ?_
    rintro v211 L211 f211 ⟨rfl, rfl, rfl⟩
    generalize hm1 : tm_mid (A 19 p) (A 19 e) = u1 at hK ⊢
    refine tf_blk _ b_Mod_contour_214 rfl ?_
    refine tm_get 220 d_Mod_contour_217 rfl fl_Mod_60 hT rfl ?_
    refine tf_blk _ b_Mod_contour_220 rfl ?_
    first | refine tm_zald _ 223 d_Mod_contour_222 rfl hT rfl (hev) ?_ | refine tm_bald _ 223 d_Mod_contour_222 rfl hT rfl (hev) ?_
    rw [hec, v21]
    refine tf_if_eq 236 226 d_Mod_contour_223 rfl rfl (fun h223 => ?_) (fun h223 => absurd (hOe) h223)
    refine tf_blk _ b_Mod_contour_236 rfl ?_
    refine tm_get 240 d_Mod_contour_237 rfl fl_Mod_57 hT rfl ?_
    refine tf_blk _ b_Mod_contour_240 rfl ?_
    refine tm_iald _ 243 d_Mod_contour_242 rfl hT rfl (hpv) ?_
    rw [hpc, v20]
    refine tf_blk _ b_Mod_contour_243 rfl ?_
    refine tm_get 247 d_Mod_contour_244 rfl fl_Mod_57 hT rfl ?_
    refine tf_blk _ b_Mod_contour_247 rfl ?_
    refine tm_iald _ 250 d_Mod_contour_249 rfl hT rfl (hev) ?_
    rw [hec, v20]
    refine tf_cS (tf_gok _ _) (c_Mod_middle l D q (d - 1) _ _ (by omega) _ _) 253 d_Mod_contour_250 rfl lk_Mod_250 cw_Mod_middle (by rfl) sa_Mod_middle (by omega) (by exact Nat.le_of_ble_eq_true rfl) rfl ?_
    rintro v250 L250 f250 ⟨rfl, rfl, rfl⟩
    generalize hm2 : tm_mid (A 20 p) (A 20 e) = u2 at hK ⊢
    exact hK
  rw [show tm_e2 (A 19) (A 21) p e = A 19 e from if_neg hOe, show tm_e2 (A 20) (A 21) p e = A 20 e from if_neg hOe] at hK
  refine tf_blk _ b_Mod_contour_177 rfl ?_
  refine tm_get 181 d_Mod_contour_178 rfl fl_Mod_60 hT rfl ?_
  refine tf_blk _ b_Mod_contour_181 rfl ?_
  first | refine tm_zald _ 184 d_Mod_contour_183 rfl hT rfl (hev) ?_ | refine tm_bald _ 184 d_Mod_contour_183 rfl hT rfl (hev) ?_
  rw [hec, v21]
  refine tf_if_eq 197 187 d_Mod_contour_184 rfl rfl (fun h184 => absurd h184 (hOe)) (fun h184 => ?_)
  refine tf_blk _ b_Mod_contour_187 rfl ?_
  refine tm_get 191 d_Mod_contour_188 rfl fl_Mod_54 hT rfl ?_
  refine tf_blk _ b_Mod_contour_191 rfl ?_
  refine tm_iald _ 194 d_Mod_contour_193 rfl hT rfl (hev) ?_
  rw [hec, v19]
  refine tf_goto 214 d_Mod_contour_194 rfl ?_
  refine tf_blk _ b_Mod_contour_214 rfl ?_
  refine tm_get 220 d_Mod_contour_217 rfl fl_Mod_60 hT rfl ?_
  refine tf_blk _ b_Mod_contour_220 rfl ?_
  first | refine tm_zald _ 223 d_Mod_contour_222 rfl hT rfl (hev) ?_ | refine tm_bald _ 223 d_Mod_contour_222 rfl hT rfl (hev) ?_
  rw [hec, v21]
  refine tf_if_eq 236 226 d_Mod_contour_223 rfl rfl (fun h223 => absurd h223 (hOe)) (fun h223 => ?_)
  refine tf_blk _ b_Mod_contour_226 rfl ?_
  refine tm_get 230 d_Mod_contour_227 rfl fl_Mod_57 hT rfl ?_
  refine tf_blk _ b_Mod_contour_230 rfl ?_
  refine tm_iald _ 233 d_Mod_contour_232 rfl hT rfl (hev) ?_
  rw [hec, v20]
  refine tf_goto 253 d_Mod_contour_233 rfl ?_
  exact hK
set_option maxHeartbeats 4000000 in
set_option maxRecDepth 100000 in
theorem t_Mod_contour (hd : 7 ≤ d) {al : Nat} (hal : al ≤ 64) (h32 : J 32 = nI al) (hs : 0 < (J 33).toInt) (hs2 : (J 33).toInt ≤ 256) {nh : Nat} (hn : nh ≤ 8) (h30 : J 30 = nI nh) (hF : ∀ y, iB 100000 y → iB 1000000 ((tm_fit (J 34) nh (A 29) (J 33)) y)) {w0 k0 : Nat} (hwk : k0 + w0 = 8) (hk0 : k0 = 1) {fi n : Nat} (hfn : fi + n ≤ 160) (hB : ∀ p, p < fi + n → iB 100000 (A 19 p) ∧ iB 100000 (A 20 p)) : ∀ w k (D0 : tm_D) (f : tf_F), k + w = n → tm_at q ad m W0 L (tm_JS J D0.1 D0.2.1) (va_up A 31 D0.2.2) R f → tf_W l (tf_H D q) tf_T (tf_QM (tf_H D q) (fun v L2 f2 => v = none ∧ L2 = L ∧ ∃ D2 : tm_D, D2 = tm_ct (A 19) (A 20) (A 21) (tm_fit (J 34) nh (A 29) (J 33)) al (J 33) w0 k0 fi n w k D0 ∧ tm_at q ad m W0 L (tm_JS J D2.1 D2.2.1) (va_up A 31 D2.2.2) R f2)) d i_Mod_contour 2 [(0, .ref m), (1, .int (nI fi)), (2, .int (nI n)), (3, .int (nI k))] [] L f 0 0 := by
  intro w
  induction w with
  | zero =>
    intro k D0 f hk hT
    refine tf_blk _ b_Mod_contour_2 rfl ?_
    refine tf_ic_ge 283 7 d_Mod_contour_4 rfl rfl (fun h4 => ?_) (fun h4 => absurd (nI_le (by omega) (by omega)) h4)
    refine tf_vret d_Mod_contour_283 rfl ?_
    exact ⟨rfl, rfl, _, rfl, hT⟩
  | succ w ih =>
    intro k D0 f hk hT
    have q0 : nI k + kI 1 - (nI k + kI 1) / nI n * nI n = nI ((k + 1) % n) := by rw [show kI 1 = nI 1 from rfl, nI_add]; exact nI_rem (by omega) (by omega) (by omega)
    have r0 : nI k + nI n - kI 1 - (nI k + nI n - kI 1) / nI n * nI n = nI ((k + n - 1) % n) := by rw [show kI 1 = nI 1 from rfl, nI_add, nI_subI (by omega)]; exact nI_rem (by omega) (by omega) (by omega)
    have hst : tm_ct (A 19) (A 20) (A 21) (tm_fit (J 34) nh (A 29) (J 33)) al (J 33) w0 k0 fi n (w + 1) k D0 = tm_ct (A 19) (A 20) (A 21) (tm_fit (J 34) nh (A 29) (J 33)) al (J 33) w0 k0 fi n w (k + 1) (tm_c1 (A 19) (A 20) (A 21) (tm_fit (J 34) nh (A 29) (J 33)) al (J 33) w0 k0 (fi + k) (fi + (k + 1) % n) (fi + (k + n - 1) % n) D0) := rfl
    rw [hst]
    have m1 := Nat.mod_lt (k + 1) (show 0 < n by omega)
    have m2 := Nat.mod_lt (k + n - 1) (show 0 < n by omega)
    obtain ⟨p, hp⟩ : ∃ p, p = fi + k := ⟨_, rfl⟩
    obtain ⟨e, he⟩ : ∃ e, e = fi + (k + 1) % n := ⟨_, rfl⟩
    obtain ⟨r, hr⟩ : ∃ r, r = fi + (k + n - 1) % n := ⟨_, rfl⟩
    rw [← hp, ← he, ← hr]
    have hpv : vp_in (nI p) 160 := vp_in_nI (by omega) (by omega)
    have hpc : (nI p).toNatClampNeg = p := nI_clamp (by omega)
    have hev : vp_in (nI e) 160 := vp_in_nI (by omega) (by omega)
    have hec : (nI e).toNatClampNeg = e := nI_clamp (by omega)
    have hrv : vp_in (nI r) 160 := vp_in_nI (by omega) (by omega)
    have hrc : (nI r).toNatClampNeg = r := nI_clamp (by omega)
    obtain ⟨bpx, bpy⟩ := hB p (by omega)
    obtain ⟨bex, bey⟩ := hB e (by omega)
    obtain ⟨brx, bry⟩ := hB r (by omega)
    have v19 : ∀ z, va_up A 31 D0.2.2 19 z = A 19 z := fun z => rfl
    have v20 : ∀ z, va_up A 31 D0.2.2 20 z = A 20 z := fun z => rfl
    have v21 : ∀ z, va_up A 31 D0.2.2 21 z = A 21 z := fun z => rfl
    by_cases hO : A 21 p = 0
    · have bx1 := tm_e1_B (O := A 21) brx bpx
      have by1 := tm_e1_B (O := A 21) bry bpy
      have bx2 := tm_e2_B (O := A 21) bpx bex
      have by2 := tm_e2_B (O := A 21) bpy bey
      have hc1 : tm_c1 (A 19) (A 20) (A 21) (tm_fit (J 34) nh (A 29) (J 33)) al (J 33) w0 k0 p e r D0 = tm_qd (tm_fit (J 34) nh (A 29) (J 33)) al (J 33) (tm_e1 (A 19) (A 21) r p) (tm_e1 (A 20) (A 21) r p) (A 19 p) (A 20 p) (tm_e2 (A 19) (A 21) p e) (tm_e2 (A 20) (A 21) p e) w0 k0 (tm_e1 (A 19) (A 21) r p, tm_e1 (A 20) (A 21) r p, D0.2.2) := if_pos hO
      refine tf_blk _ b_Mod_contour_2 rfl ?_
      refine tf_ic_ge 283 7 d_Mod_contour_4 rfl rfl (fun h4 => absurd h4 (nI_ge (by omega) (by omega))) (fun h4 => ?_)
      refine tf_blk _ b_Mod_contour_7 rfl ?_
      refine tf_irem 18 d_Mod_contour_17 rfl (fun z => absurd ((nI_eq (b := 0) (by omega) (by omega)).mp z) (by omega)) ?_
      rw [q0]
      refine tf_blk _ b_Mod_contour_18 rfl ?_
      refine tf_irem 29 d_Mod_contour_28 rfl (fun z => absurd ((nI_eq (b := 0) (by omega) (by omega)).mp z) (by omega)) ?_
      rw [r0]
      refine tf_blk _ b_Mod_contour_29 rfl ?_
      refine tm_get 36 d_Mod_contour_33 rfl fl_Mod_60 hT rfl ?_
      rw [nI_add fi k, nI_add fi ((k + 1) % n), nI_add fi ((k + n - 1) % n), ← hp, ← he, ← hr]
      refine tf_blk _ b_Mod_contour_36 rfl ?_
      first | refine tm_zald _ 39 d_Mod_contour_38 rfl hT rfl (hpv) ?_ | refine tm_bald _ 39 d_Mod_contour_38 rfl hT rfl (hpv) ?_
      rw [hpc, v21]
      refine tf_if_eq 95 42 d_Mod_contour_39 rfl rfl (fun h39 => ?_) (fun h39 => absurd (hO) h39)
      refine t_Mod_ctA l D q d _ _ (by omega) (show p < 160 by omega) (show e < 160 by omega) (show r < 160 by omega) hT (fun f2 hT => ?_)
      refine t_Mod_ctB l D q d _ _ (by omega) (show p < 160 by omega) (show e < 160 by omega) (show r < 160 by omega) hT ?_
      refine tf_blk _ b_Mod_contour_253 rfl ?_
      refine tm_get 260 d_Mod_contour_257 rfl fl_Mod_54 hT rfl ?_
      refine tf_blk _ b_Mod_contour_260 rfl ?_
      refine tm_iald _ 263 d_Mod_contour_262 rfl hT rfl (hpv) ?_
      rw [hpc, v19]
      refine tf_blk _ b_Mod_contour_263 rfl ?_
      refine tm_get 267 d_Mod_contour_264 rfl fl_Mod_57 hT rfl ?_
      refine tf_blk _ b_Mod_contour_267 rfl ?_
      refine tm_iald _ 270 d_Mod_contour_269 rfl hT rfl (hpv) ?_
      rw [hpc, v20]
      refine tf_blk _ b_Mod_contour_270 rfl ?_
      refine tf_cV (tf_gok _ _) (c_Mod_quadratic2 l D q (d - 1) _ _ (by omega) hT hal h32 hs hs2 hn h30 hF hwk hk0 bx1 by1 bpx bpy bx2 by2) 277 d_Mod_contour_274 rfl lk_Mod_253 cw_Mod_quadratic (by rfl) in_Mod_quadratic se_Mod_quadratic (by exact hT.1.1) (by exact hT.1.2.1) (by rfl) (by rfl) (by omega) (by exact Nat.le_of_ble_eq_true rfl) rfl ?_
      rintro v274 L274 f274 ⟨rfl, rfl, D2, hD2, hT⟩
      refine tf_blk _ b_Mod_contour_277 rfl ?_
      refine tf_goto 2 d_Mod_contour_280 rfl ?_
      rw [← hc1] at hD2
      rw [← hD2]
      refine tf_drop [0, 1, 2, 3] rfl ?_
      rw [show nI k + kI 1 = nI (k + 1) from (nI_succ k).symm]
      exact ih (k + 1) D2 _ (by omega) hT
    by_cases hOe : A 21 e = 0
    · have hc1 : tm_c1 (A 19) (A 20) (A 21) (tm_fit (J 34) nh (A 29) (J 33)) al (J 33) w0 k0 p e r D0 = (A 19 p, A 20 p, D0.2.2) := by rw [tm_c1, if_neg hO, if_pos hOe]
      rw [hc1]
      refine tf_blk _ b_Mod_contour_2 rfl ?_
      refine tf_ic_ge 283 7 d_Mod_contour_4 rfl rfl (fun h4 => absurd h4 (nI_ge (by omega) (by omega))) (fun h4 => ?_)
      refine tf_blk _ b_Mod_contour_7 rfl ?_
      refine tf_irem 18 d_Mod_contour_17 rfl (fun z => absurd ((nI_eq (b := 0) (by omega) (by omega)).mp z) (by omega)) ?_
      rw [q0]
      refine tf_blk _ b_Mod_contour_18 rfl ?_
      refine tf_irem 29 d_Mod_contour_28 rfl (fun z => absurd ((nI_eq (b := 0) (by omega) (by omega)).mp z) (by omega)) ?_
      rw [r0]
      refine tf_blk _ b_Mod_contour_29 rfl ?_
      refine tm_get 36 d_Mod_contour_33 rfl fl_Mod_60 hT rfl ?_
      rw [nI_add fi k, nI_add fi ((k + 1) % n), nI_add fi ((k + n - 1) % n), ← hp, ← he, ← hr]
      refine tf_blk _ b_Mod_contour_36 rfl ?_
      first | refine tm_zald _ 39 d_Mod_contour_38 rfl hT rfl (hpv) ?_ | refine tm_bald _ 39 d_Mod_contour_38 rfl hT rfl (hpv) ?_
      rw [hpc, v21]
      refine tf_if_eq 95 42 d_Mod_contour_39 rfl rfl (fun h39 => absurd h39 (hO)) (fun h39 => ?_)
      refine tf_blk _ b_Mod_contour_42 rfl ?_
      refine tm_get 47 d_Mod_contour_44 rfl fl_Mod_54 hT rfl ?_
      refine tf_blk _ b_Mod_contour_47 rfl ?_
      refine tm_iald _ 50 d_Mod_contour_49 rfl hT rfl (hpv) ?_
      rw [hpc, v19]
      refine tm_put 53 d_Mod_contour_50 rfl fw_Mod_236 hT (by decide) rfl rfl rfl (fun f hT => ?_)
      refine tf_blk _ b_Mod_contour_53 rfl ?_
      refine tm_get 58 d_Mod_contour_55 rfl fl_Mod_57 hT rfl ?_
      refine tf_blk _ b_Mod_contour_58 rfl ?_
      refine tm_iald _ 61 d_Mod_contour_60 rfl hT rfl (hpv) ?_
      rw [hpc, v20]
      refine tm_put 64 d_Mod_contour_61 rfl fw_Mod_239 hT (by decide) rfl rfl rfl (fun f hT => ?_)
      have hT := tm_at_JS hT
      refine tf_blk _ b_Mod_contour_64 rfl ?_
      refine tm_get 68 d_Mod_contour_65 rfl fl_Mod_60 hT rfl ?_
      refine tf_blk _ b_Mod_contour_68 rfl ?_
      first | refine tm_zald _ 71 d_Mod_contour_70 rfl hT rfl (hev) ?_ | refine tm_bald _ 71 d_Mod_contour_70 rfl hT rfl (hev) ?_
      rw [hec, v21]
      refine tf_if_eq 277 74 d_Mod_contour_71 rfl rfl (fun h71 => ?_) (fun h71 => absurd (hOe) h71)
      refine tf_blk _ b_Mod_contour_277 rfl ?_
      refine tf_goto 2 d_Mod_contour_280 rfl ?_
      refine tf_drop [0, 1, 2, 3] rfl ?_
      rw [show nI k + kI 1 = nI (k + 1) from (nI_succ k).symm]
      exact ih (k + 1) (A 19 p, A 20 p, D0.2.2) _ (by omega) hT
    have hc1 : tm_c1 (A 19) (A 20) (A 21) (tm_fit (J 34) nh (A 29) (J 33)) al (J 33) w0 k0 p e r D0 = tm_lt (tm_fit (J 34) nh (A 29) (J 33)) al (J 33) (A 19 e) (A 20 e) (A 19 p, A 20 p, D0.2.2) := by rw [tm_c1, if_neg hO, if_neg hOe]
    rw [hc1]
    refine tf_blk _ b_Mod_contour_2 rfl ?_
    refine tf_ic_ge 283 7 d_Mod_contour_4 rfl rfl (fun h4 => absurd h4 (nI_ge (by omega) (by omega))) (fun h4 => ?_)
    refine tf_blk _ b_Mod_contour_7 rfl ?_
    refine tf_irem 18 d_Mod_contour_17 rfl (fun z => absurd ((nI_eq (b := 0) (by omega) (by omega)).mp z) (by omega)) ?_
    rw [q0]
    refine tf_blk _ b_Mod_contour_18 rfl ?_
    refine tf_irem 29 d_Mod_contour_28 rfl (fun z => absurd ((nI_eq (b := 0) (by omega) (by omega)).mp z) (by omega)) ?_
    rw [r0]
    refine tf_blk _ b_Mod_contour_29 rfl ?_
    refine tm_get 36 d_Mod_contour_33 rfl fl_Mod_60 hT rfl ?_
    rw [nI_add fi k, nI_add fi ((k + 1) % n), nI_add fi ((k + n - 1) % n), ← hp, ← he, ← hr]
    refine tf_blk _ b_Mod_contour_36 rfl ?_
    first | refine tm_zald _ 39 d_Mod_contour_38 rfl hT rfl (hpv) ?_ | refine tm_bald _ 39 d_Mod_contour_38 rfl hT rfl (hpv) ?_
    rw [hpc, v21]
    refine tf_if_eq 95 42 d_Mod_contour_39 rfl rfl (fun h39 => absurd h39 (hO)) (fun h39 => ?_)
    refine tf_blk _ b_Mod_contour_42 rfl ?_
    refine tm_get 47 d_Mod_contour_44 rfl fl_Mod_54 hT rfl ?_
    refine tf_blk _ b_Mod_contour_47 rfl ?_
    refine tm_iald _ 50 d_Mod_contour_49 rfl hT rfl (hpv) ?_
    rw [hpc, v19]
    refine tm_put 53 d_Mod_contour_50 rfl fw_Mod_236 hT (by decide) rfl rfl rfl (fun f hT => ?_)
    refine tf_blk _ b_Mod_contour_53 rfl ?_
    refine tm_get 58 d_Mod_contour_55 rfl fl_Mod_57 hT rfl ?_
    refine tf_blk _ b_Mod_contour_58 rfl ?_
    refine tm_iald _ 61 d_Mod_contour_60 rfl hT rfl (hpv) ?_
    rw [hpc, v20]
    refine tm_put 64 d_Mod_contour_61 rfl fw_Mod_239 hT (by decide) rfl rfl rfl (fun f hT => ?_)
    have hT := tm_at_JS hT
    refine tf_blk _ b_Mod_contour_64 rfl ?_
    refine tm_get 68 d_Mod_contour_65 rfl fl_Mod_60 hT rfl ?_
    refine tf_blk _ b_Mod_contour_68 rfl ?_
    first | refine tm_zald _ 71 d_Mod_contour_70 rfl hT rfl (hev) ?_ | refine tm_bald _ 71 d_Mod_contour_70 rfl hT rfl (hev) ?_
    rw [hec, v21]
    refine tf_if_eq 277 74 d_Mod_contour_71 rfl rfl (fun h71 => absurd h71 (hOe)) (fun h71 => ?_)
    refine tf_blk _ b_Mod_contour_74 rfl ?_
    refine tm_get 79 d_Mod_contour_76 rfl fl_Mod_54 hT rfl ?_
    refine tf_blk _ b_Mod_contour_79 rfl ?_
    refine tm_iald _ 82 d_Mod_contour_81 rfl hT rfl (hev) ?_
    rw [hec, v19]
    refine tf_blk _ b_Mod_contour_82 rfl ?_
    refine tm_get 86 d_Mod_contour_83 rfl fl_Mod_57 hT rfl ?_
    refine tf_blk _ b_Mod_contour_86 rfl ?_
    refine tm_iald _ 89 d_Mod_contour_88 rfl hT rfl (hev) ?_
    rw [hec, v20]
    refine tf_cV (tf_gok _ _) (c_Mod_lineTo l D q (d - 1) _ _ (by omega) hT hal h32 hs hs2 hn h30 hF _ _ (show iB 100000 (A 19 p) from bpx) (show iB 100000 (A 20 p) from bpy) bex bey) 92 d_Mod_contour_89 rfl lk_Mod_247 cw_Mod_lineTo (by rfl) in_Mod_lineTo se_Mod_lineTo (by exact hT.1.1) (by exact hT.1.2.1) (by rfl) (by rfl) (by omega) (by exact Nat.le_of_ble_eq_true rfl) rfl ?_
    rintro v89 L89 f89 ⟨rfl, rfl, hT⟩
    refine tf_goto 277 d_Mod_contour_92 rfl ?_
    refine tf_blk _ b_Mod_contour_277 rfl ?_
    refine tf_goto 2 d_Mod_contour_280 rfl ?_
    rw [tm_JS2, tm_va2, va_up_self] at hT
    refine tf_drop [0, 1, 2, 3] rfl ?_
    rw [show nI k + kI 1 = nI (k + 1) from (nI_succ k).symm]
    exact ih (k + 1) (tm_lt (tm_fit (J 34) nh (A 29) (J 33)) al (J 33) (A 19 e) (A 20 e) (A 19 p, A 20 p, D0.2.2)) _ (by omega) hT
set_option maxHeartbeats 4000000 in
set_option maxRecDepth 100000 in
theorem c_Mod_contour (hd : 7 ≤ d) (hT : tm_at q ad m W0 L J A R f) {al : Nat} (hal : al ≤ 64) (h32 : J 32 = nI al) (hs : 0 < (J 33).toInt) (hs2 : (J 33).toInt ≤ 256) {nh : Nat} (hn : nh ≤ 8) (h30 : J 30 = nI nh) (hF : ∀ y, iB 100000 y → iB 1000000 ((tm_fit (J 34) nh (A 29) (J 33)) y)) {w0 k0 : Nat} (hwk : k0 + w0 = 8) (hk0 : k0 = 1) {fi n : Nat} (hfn : fi + n ≤ 160) (hB : ∀ p, p < fi + n → iB 100000 (A 19 p) ∧ iB 100000 (A 20 p))  : tf_C l (tf_H D q) d i_Mod_contour [.ref m, .int (nI fi), .int (nI n)] L f 0 0 (fun v L2 f2 => v = none ∧ L2 = L ∧ ∃ D2 : tm_D, D2 = tm_ct (A 19) (A 20) (A 21) (tm_fit (J 34) nh (A 29) (J 33)) al (J 33) w0 k0 fi n n 0 (J 53, J 54, A 31) ∧ tm_at q ad m W0 L (tm_JS J D2.1 D2.2.1) (va_up A 31 D2.2.2) R f2) := by
  refine tf_C.of (tf_gok _ _) (by decide) w_1397 (Nat.le_of_ble_eq_true rfl) ?_
  refine tf_blk _ b_Mod_contour_0 rfl ?_
  exact t_Mod_contour l D q d _ hd hal h32 hs hs2 hn h30 hF hwk hk0 hfn hB n 0 (J 53, J 54, A 31) _ (by omega) (by rw [tm_JS0]; exact tm_A51 31 hT)
end
