/-! the reference: draw -/
section
variable (l : Launch) (D : va_G) (q : Nat → ClassId) (d : Nat) (L : List Nat) (f : tf_F) {ad : Nat → Nat} {m : Nat} {W0 : tf_F} {J : Nat → Int32} {A : Nat → Nat → Int32} {R : Nat → Int64}
set_option maxHeartbeats 4000000 in
set_option maxRecDepth 100000 in
theorem t_Mod_drz {QB : tf_B} {kc ks : Nat} {g s b : Int32} {al : Nat} (hal : al ≤ 64) (h32 : J 32 = nI al) : ∀ w k (G : Nat → Int32) (f : tf_F), k + w = al * al → tm_at q ad m W0 L J (va_up A 31 G) R f → (∀ f2 : tf_F, tm_at q ad m W0 L J (va_up A 31 (tw_fl (kI 0) w k G)) R f2 → tf_W l (tf_H D q) tf_T QB d i_Mod_draw 107 [(0, .ref m), (1, .int g), (2, .int s), (3, .int b)] [] L f2 kc ks) → tf_W l (tf_H D q) tf_T QB d i_Mod_draw 79 [(0, .ref m), (1, .int g), (2, .int s), (3, .int b), (4, .int (nI k))] [] L f kc ks := by
  have h64 : al * al ≤ 64 * 64 := Nat.mul_le_mul hal hal
  intro w
  induction w with
  | zero =>
    intro k G f hk hT hK
    refine tf_blk _ b_Mod_draw_79 rfl ?_
    refine tm_get 85 d_Mod_draw_82 rfl fl_Mod_216 hT rfl ?_
    refine tf_blk _ b_Mod_draw_85 rfl ?_
    refine tm_get 89 d_Mod_draw_86 rfl fl_Mod_216 hT rfl ?_
    refine tf_blk _ b_Mod_draw_89 rfl ?_
    rw [h32, nI_mul]
    refine tf_ic_ge 107 93 d_Mod_draw_90 rfl rfl (fun h90 => ?_) (fun h90 => absurd (nI_le (by omega) (by omega)) h90)
    refine tf_drop [0, 1, 2, 3] rfl ?_
    exact hK _ hT
  | succ w ih =>
    intro k G f hk hT hK
    have hkv : vp_in (nI k) 4096 := vp_in_nI (by omega) (by omega)
    have hkc : (nI k).toNatClampNeg = k := nI_clamp (by omega)
    refine tf_blk _ b_Mod_draw_79 rfl ?_
    refine tm_get 85 d_Mod_draw_82 rfl fl_Mod_216 hT rfl ?_
    refine tf_blk _ b_Mod_draw_85 rfl ?_
    refine tm_get 89 d_Mod_draw_86 rfl fl_Mod_216 hT rfl ?_
    refine tf_blk _ b_Mod_draw_89 rfl ?_
    rw [h32, nI_mul]
    refine tf_ic_ge 107 93 d_Mod_draw_90 rfl rfl (fun h90 => absurd h90 (nI_ge (by omega) (by omega))) (fun h90 => ?_)
    refine tf_blk _ b_Mod_draw_93 rfl ?_
    refine tm_get 97 d_Mod_draw_94 rfl fl_Mod_75 hT rfl ?_
    refine tf_blk _ b_Mod_draw_97 rfl ?_
    refine tm_iast _ 101 d_Mod_draw_100 rfl hT rfl (hkv) (fun f hT => ?_)
    refine tf_blk _ b_Mod_draw_101 rfl ?_
    refine tf_goto 79 d_Mod_draw_104 rfl ?_
    rw [hkc] at hT
    have hT := tm_A3u hT
    rw [show nI k + kI 1 = nI (k + 1) from (nI_succ k).symm]
    exact ih (k + 1) _ _ (by omega) hT hK
set_option maxHeartbeats 4000000 in
set_option maxRecDepth 100000 in
theorem t_Mod_drn {QB : tf_B} {kc ks : Nat} {g s b : Int32} (hT : tm_at q ad m W0 L J A R f) {sz c fi : Nat} (hsz : sz ≤ 160) (h23 : J 23 = nI sz) : ∀ w n, fi + n ≤ sz → sz ≤ fi + n + w → tf_W l (tf_H D q) tf_T QB d i_Mod_draw 158 [(0, .ref m), (1, .int g), (2, .int s), (3, .int b), (4, .int (nI fi)), (5, .int (nI c)), (6, .int (nI (tm_cnt (A 22) sz c fi w n)))] [] L f kc ks → tf_W l (tf_H D q) tf_T QB d i_Mod_draw 125 [(0, .ref m), (1, .int g), (2, .int s), (3, .int b), (4, .int (nI fi)), (5, .int (nI c)), (6, .int (nI n))] [] L f kc ks := by
  intro w
  induction w with
  | zero =>
    intro n hn hw hK
    refine tf_blk _ b_Mod_draw_125 rfl ?_
    refine tm_get 134 d_Mod_draw_131 rfl fl_Mod_187 hT rfl ?_
    rw [h23, nI_add]
    refine tf_ic_ge 158 137 d_Mod_draw_134 rfl rfl (fun h134 => ?_) (fun h134 => absurd (nI_le (by omega) (by omega)) h134)
    exact hK
  | succ w ih =>
    intro n hn hw hK
    by_cases e1 : fi + n < sz
    · have hv : vp_in (nI fi + nI n) 160 := by rw [nI_add]; exact vp_in_nI (by omega) (by omega)
      have hc : (nI fi + nI n).toNatClampNeg = fi + n := by rw [nI_add]; exact nI_clamp (by omega)
      by_cases e2 : A 22 (fi + n) = nI c
      · rw [show tm_cnt (A 22) sz c fi (w + 1) n = tm_cnt (A 22) sz c fi w (n + 1) from if_pos ⟨e1, e2⟩] at hK
        refine tf_blk _ b_Mod_draw_125 rfl ?_
        refine tm_get 134 d_Mod_draw_131 rfl fl_Mod_187 hT rfl ?_
        rw [h23, nI_add]
        refine tf_ic_ge 158 137 d_Mod_draw_134 rfl rfl (fun h134 => absurd h134 (nI_ge e1 (by omega))) (fun h134 => ?_)
        refine tf_blk _ b_Mod_draw_137 rfl ?_
        refine tm_get 141 d_Mod_draw_138 rfl fl_Mod_63 hT rfl ?_
        refine tf_blk _ b_Mod_draw_141 rfl ?_
        refine tm_iald _ 147 d_Mod_draw_146 rfl hT rfl (hv) ?_
        refine tf_blk _ b_Mod_draw_147 rfl ?_
        rw [hc]
        refine tf_ic_ne 158 152 d_Mod_draw_149 rfl rfl (fun h149 => absurd h149 (not_not_intro e2)) (fun h149 => ?_)
        refine tf_blk _ b_Mod_draw_152 rfl ?_
        refine tf_goto 125 d_Mod_draw_155 rfl ?_
        rw [show nI n + kI 1 = nI (n + 1) from (nI_succ n).symm]
        exact ih (n + 1) (by omega) (by omega) hK
      rw [show tm_cnt (A 22) sz c fi (w + 1) n = n from if_neg (fun z => e2 z.2)] at hK
      refine tf_blk _ b_Mod_draw_125 rfl ?_
      refine tm_get 134 d_Mod_draw_131 rfl fl_Mod_187 hT rfl ?_
      rw [h23, nI_add]
      refine tf_ic_ge 158 137 d_Mod_draw_134 rfl rfl (fun h134 => absurd h134 (nI_ge e1 (by omega))) (fun h134 => ?_)
      refine tf_blk _ b_Mod_draw_137 rfl ?_
      refine tm_get 141 d_Mod_draw_138 rfl fl_Mod_63 hT rfl ?_
      refine tf_blk _ b_Mod_draw_141 rfl ?_
      refine tm_iald _ 147 d_Mod_draw_146 rfl hT rfl (hv) ?_
      refine tf_blk _ b_Mod_draw_147 rfl ?_
      rw [hc]
      refine tf_ic_ne 158 152 d_Mod_draw_149 rfl rfl (fun h149 => ?_) (fun h149 => absurd h149 (e2))
      exact hK
    rw [show tm_cnt (A 22) sz c fi (w + 1) n = n from if_neg (fun z => e1 z.1)] at hK
    refine tf_blk _ b_Mod_draw_125 rfl ?_
    refine tm_get 134 d_Mod_draw_131 rfl fl_Mod_187 hT rfl ?_
    rw [h23, nI_add]
    refine tf_ic_ge 158 137 d_Mod_draw_134 rfl rfl (fun h134 => ?_) (fun h134 => absurd (nI_le (by omega) (by omega)) h134)
    exact hK
set_option maxHeartbeats 4000000 in
set_option maxRecDepth 100000 in
theorem t_Mod_drc (hd : 8 ≤ d) {QB : tf_B} {kc ks : Nat} {g s b : Int32} {al : Nat} (hal : al ≤ 64) (h32 : J 32 = nI al) (hs : 0 < (J 33).toInt) (hs2 : (J 33).toInt ≤ 256) {nh : Nat} (hn : nh ≤ 8) (h30 : J 30 = nI nh) (hF : ∀ y, iB 100000 y → iB 1000000 ((tm_fit (J 34) nh (A 29) (J 33)) y)) {w0 k0 : Nat} (hwk : k0 + w0 = 8) (hk0 : k0 = 1) {sz oc : Nat} (hsz : sz ≤ 160) (hoc : oc ≤ 160) (h23 : J 23 = nI sz) (h24 : J 24 = nI oc) (hB : ∀ p, p < sz → iB 100000 (A 19 p) ∧ iB 100000 (A 20 p)) : ∀ w c fi (D0 : tm_D) (f : tf_F), c + w = oc → fi ≤ sz → tm_at q ad m W0 L (tm_JS J D0.1 D0.2.1) (va_up A 31 D0.2.2) R f → (∀ (D2 : tm_D) (f2 : tf_F), D2 = tm_drc (A 19) (A 20) (A 21) (A 22) (tm_fit (J 34) nh (A 29) (J 33)) al (J 33) w0 k0 sz w c fi D0 → tm_at q ad m W0 L (tm_JS J D2.1 D2.2.1) (va_up A 31 D2.2.2) R f2 → tf_W l (tf_H D q) tf_T QB d i_Mod_draw 179 [(0, .ref m), (1, .int g), (2, .int s), (3, .int b)] [] L f2 kc ks) → tf_W l (tf_H D q) tf_T QB d i_Mod_draw 113 [(0, .ref m), (1, .int g), (2, .int s), (3, .int b), (4, .int (nI fi)), (5, .int (nI c))] [] L f kc ks := by
  intro w
  induction w with
  | zero =>
    intro c fi D0 f hc hfi hT hK
    refine tf_blk _ b_Mod_draw_113 rfl ?_
    refine tm_get 119 d_Mod_draw_116 rfl fl_Mod_190 hT rfl ?_
    rw [show tm_JS J D0.1 D0.2.1 24 = nI oc from h24]
    refine tf_ic_ge 179 122 d_Mod_draw_119 rfl rfl (fun h119 => ?_) (fun h119 => absurd (nI_le (by omega) (by omega)) h119)
    refine tf_drop [0, 1, 2, 3] rfl ?_
    exact hK _ _ rfl hT
  | succ w ih =>
    intro c fi D0 f hc hfi hT hK
    obtain ⟨n, hn0⟩ : ∃ n, tm_cnt (A 22) sz c fi (sz - fi) 0 = n := ⟨_, rfl⟩
    have hnle := tm_cnt_le (Co := A 22) (sz := sz) (c := c) (fi := fi) (sz - fi) 0 (by omega)
    rw [hn0] at hnle
    have hst : ∀ D0, tm_drc (A 19) (A 20) (A 21) (A 22) (tm_fit (J 34) nh (A 29) (J 33)) al (J 33) w0 k0 sz (w + 1) c fi D0 = tm_drc (A 19) (A 20) (A 21) (A 22) (tm_fit (J 34) nh (A 29) (J 33)) al (J 33) w0 k0 sz w (c + 1) (fi + n) (tm_ct (A 19) (A 20) (A 21) (tm_fit (J 34) nh (A 29) (J 33)) al (J 33) w0 k0 fi n n 0 D0) := fun D0 => by rw [← hn0]; rfl
    refine tf_blk _ b_Mod_draw_113 rfl ?_
    refine tm_get 119 d_Mod_draw_116 rfl fl_Mod_190 hT rfl ?_
    rw [show tm_JS J D0.1 D0.2.1 24 = nI oc from h24]
    refine tf_ic_ge 179 122 d_Mod_draw_119 rfl rfl (fun h119 => absurd h119 (nI_ge (by omega) (by omega))) (fun h119 => ?_)
    refine tf_blk _ b_Mod_draw_122 rfl ?_
    refine t_Mod_drn l D q d _ _ hT hsz (show tm_JS J D0.1 D0.2.1 23 = nI sz from h23) (sz - fi) 0 (by omega) (by omega) ?_
    rw [show va_up A 31 D0.2.2 22 = A 22 from va_up_ne _ _ (by decide), hn0]
    refine tf_blk _ b_Mod_draw_158 rfl ?_
    refine tf_cV (tf_gok _ _) (c_Mod_contour l D q (d - 1) _ _ (by omega) hT hal (show tm_JS J D0.1 D0.2.1 32 = nI al from h32) hs hs2 hn (show tm_JS J D0.1 D0.2.1 30 = nI nh from h30) hF hwk hk0 (show fi + n ≤ 160 by omega) (fun p hp => hB p (by omega))) 166 d_Mod_draw_163 rfl lk_Mod_256 cw_Mod_contour (by rfl) in_Mod_contour se_Mod_contour (by exact hT.1.1) (by exact hT.1.2.1) (by rfl) (by rfl) (by omega) (by exact Nat.le_of_ble_eq_true rfl) rfl ?_
    rintro v163 L163 f163 ⟨rfl, rfl, D2, hD2, hT⟩
    refine tf_blk _ b_Mod_draw_166 rfl ?_
    refine tf_goto 113 d_Mod_draw_176 rfl ?_
    refine tf_drop [0, 1, 2, 3, 4, 5] rfl ?_
    rw [tm_JS2, tm_va2] at hT
    rw [nI_add, show nI c + kI 1 = nI (c + 1) from (nI_succ c).symm]
    exact ih (c + 1) (fi + n) D2 _ (by omega) hnle hT (fun D3 f3 hD3 => hK D3 f3 (by rw [hst, hD3, hD2]; rfl))
set_option maxHeartbeats 4000000 in
set_option maxRecDepth 100000 in
theorem t_Mod_drg (hd : 2 ≤ d) {Phi : tf_O} {g s b : Int32} (hne : ¬ 2 * (2 * s.toInt64 * s.toInt64) = 0) {al : Nat} (hal : al ≤ 64) (h32 : J 32 = nI al) : ∀ w k su (G : Nat → Int32) (f : tf_F), k + w = al * al → tm_at q ad m W0 L J (va_up A 31 G) R f → (∀ f2 : tf_F, tm_at q ad m W0 L J (va_up A 31 (tm_gs s w k su G).2) R f2 → Phi (some (.int (tm_gs s w k su G).1)) L f2) → tf_W l (tf_H D q) tf_T (tf_QM (tf_H D q) Phi) d i_Mod_draw 185 [(0, .ref m), (1, .int g), (2, .int s), (3, .int b), (5, .int su), (6, .int (nI k))] [] L f 0 0 := by
  have h64 : al * al ≤ 64 * 64 := Nat.mul_le_mul hal hal
  intro w
  induction w with
  | zero =>
    intro k su G f hk hT hK
    refine tf_blk _ b_Mod_draw_185 rfl ?_
    refine tm_get 191 d_Mod_draw_188 rfl fl_Mod_216 hT rfl ?_
    refine tf_blk _ b_Mod_draw_191 rfl ?_
    refine tm_get 195 d_Mod_draw_192 rfl fl_Mod_216 hT rfl ?_
    refine tf_blk _ b_Mod_draw_195 rfl ?_
    rw [h32, nI_mul]
    refine tf_ic_ge 279 199 d_Mod_draw_196 rfl rfl (fun h196 => ?_) (fun h196 => absurd (nI_le (by omega) (by omega)) h196)
    refine tf_blk _ b_Mod_draw_279 rfl ?_
    refine tf_iret d_Mod_draw_281 rfl ?_
    exact hK _ hT
  | succ w ih =>
    intro k su G f hk hT hK
    have hkv : vp_in (nI k) 4096 := vp_in_nI (by omega) (by omega)
    have hkc : (nI k).toNatClampNeg = k := nI_clamp (by omega)
    rw [show tm_gs s (w + 1) k su G = tm_gs s w (k + 1) (su + tm_gy s (G k)) (upd G k (tm_gy s (G k))) from rfl] at hK
    by_cases h1 : 0 ≤ lg_cmp (tm_nr (255 * (G k).toInt64) (2 * s.toInt64 * s.toInt64)) 0
    · by_cases h2 : lg_cmp (tm_nr (255 * (G k).toInt64) (2 * s.toInt64 * s.toInt64)) 255 ≤ 0
      · rw [show tm_gy s (G k) = (tm_nr (255 * (G k).toInt64) (2 * s.toInt64 * s.toInt64)).toInt32 from by rw [tm_gy, if_pos h1, if_pos h2]] at hK
        refine tf_blk _ b_Mod_draw_185 rfl ?_
        refine tm_get 191 d_Mod_draw_188 rfl fl_Mod_216 hT rfl ?_
        refine tf_blk _ b_Mod_draw_191 rfl ?_
        refine tm_get 195 d_Mod_draw_192 rfl fl_Mod_216 hT rfl ?_
        refine tf_blk _ b_Mod_draw_195 rfl ?_
        rw [h32, nI_mul]
        refine tf_ic_ge 279 199 d_Mod_draw_196 rfl rfl (fun h196 => absurd h196 (nI_ge (by omega) (by omega))) (fun h196 => ?_)
        refine tf_ldc2 202 d_Mod_draw_199 rfl w_1437 ?_
        refine tf_blk _ b_Mod_draw_202 rfl ?_
        refine tm_get 206 d_Mod_draw_203 rfl fl_Mod_75 hT rfl ?_
        refine tf_blk _ b_Mod_draw_206 rfl ?_
        refine tm_iald _ 209 d_Mod_draw_208 rfl hT rfl (hkv) ?_
        rw [va_up_self, hkc]
        refine tf_blk _ b_Mod_draw_209 rfl ?_
        refine tf_ldc2 214 d_Mod_draw_211 rfl w_1372 ?_
        refine tf_blk _ b_Mod_draw_214 rfl ?_
        refine tf_cS (tf_gok _ _) (c_Mod_near l D q (d - 1) _ _ (by omega) hne) 223 d_Mod_draw_220 rfl lk_Mod_140 cw_Mod_near (by rfl) sa_Mod_near (by omega) (by exact Nat.le_of_ble_eq_true rfl) rfl ?_
        rintro v220 L220 f220 ⟨rfl, rfl, rfl⟩
        refine tf_blk _ b_Mod_draw_223 rfl ?_
        refine tm_get 229 d_Mod_draw_226 rfl fl_Mod_75 hT rfl ?_
        refine tf_blk _ b_Mod_draw_229 rfl ?_
        refine tf_if_ge 242 238 d_Mod_draw_235 rfl rfl (fun h235 => ?_) (fun h235 => absurd (h1) h235)
        refine tf_blk _ b_Mod_draw_242 rfl ?_
        refine tf_ldc2 247 d_Mod_draw_244 rfl w_1437 ?_
        refine tf_blk _ b_Mod_draw_247 rfl ?_
        refine tf_if_le 257 251 d_Mod_draw_248 rfl rfl (fun h248 => ?_) (fun h248 => absurd (h2) h248)
        refine tf_blk _ b_Mod_draw_257 rfl ?_
        refine tm_iast _ 261 d_Mod_draw_260 rfl hT rfl (hkv) (fun f hT => ?_)
        rw [hkc] at hT
        have hT := tm_A3u hT
        refine tf_blk _ b_Mod_draw_261 rfl ?_
        refine tm_get 267 d_Mod_draw_264 rfl fl_Mod_75 hT rfl ?_
        refine tf_blk _ b_Mod_draw_267 rfl ?_
        refine tm_iald _ 270 d_Mod_draw_269 rfl hT rfl (hkv) ?_
        rw [va_up_self, hkc, show upd G k ((tm_nr (255 * (G k).toInt64) (2 * s.toInt64 * s.toInt64)).toInt32) k = (tm_nr (255 * (G k).toInt64) (2 * s.toInt64 * s.toInt64)).toInt32 from if_pos rfl]
        refine tf_blk _ b_Mod_draw_270 rfl ?_
        refine tf_goto 185 d_Mod_draw_276 rfl ?_
        refine tf_drop [0, 1, 2, 3, 5, 6] rfl ?_
        rw [show nI k + kI 1 = nI (k + 1) from (nI_succ k).symm]
        exact ih (k + 1) _ _ _ (by omega) hT hK
      rw [show tm_gy s (G k) = kI 255 from by rw [tm_gy, if_pos h1, if_neg h2]] at hK
      refine tf_blk _ b_Mod_draw_185 rfl ?_
      refine tm_get 191 d_Mod_draw_188 rfl fl_Mod_216 hT rfl ?_
      refine tf_blk _ b_Mod_draw_191 rfl ?_
      refine tm_get 195 d_Mod_draw_192 rfl fl_Mod_216 hT rfl ?_
      refine tf_blk _ b_Mod_draw_195 rfl ?_
      rw [h32, nI_mul]
      refine tf_ic_ge 279 199 d_Mod_draw_196 rfl rfl (fun h196 => absurd h196 (nI_ge (by omega) (by omega))) (fun h196 => ?_)
      refine tf_ldc2 202 d_Mod_draw_199 rfl w_1437 ?_
      refine tf_blk _ b_Mod_draw_202 rfl ?_
      refine tm_get 206 d_Mod_draw_203 rfl fl_Mod_75 hT rfl ?_
      refine tf_blk _ b_Mod_draw_206 rfl ?_
      refine tm_iald _ 209 d_Mod_draw_208 rfl hT rfl (hkv) ?_
      rw [va_up_self, hkc]
      refine tf_blk _ b_Mod_draw_209 rfl ?_
      refine tf_ldc2 214 d_Mod_draw_211 rfl w_1372 ?_
      refine tf_blk _ b_Mod_draw_214 rfl ?_
      refine tf_cS (tf_gok _ _) (c_Mod_near l D q (d - 1) _ _ (by omega) hne) 223 d_Mod_draw_220 rfl lk_Mod_140 cw_Mod_near (by rfl) sa_Mod_near (by omega) (by exact Nat.le_of_ble_eq_true rfl) rfl ?_
      rintro v220 L220 f220 ⟨rfl, rfl, rfl⟩
      refine tf_blk _ b_Mod_draw_223 rfl ?_
      refine tm_get 229 d_Mod_draw_226 rfl fl_Mod_75 hT rfl ?_
      refine tf_blk _ b_Mod_draw_229 rfl ?_
      refine tf_if_ge 242 238 d_Mod_draw_235 rfl rfl (fun h235 => ?_) (fun h235 => absurd (h1) h235)
      refine tf_blk _ b_Mod_draw_242 rfl ?_
      refine tf_ldc2 247 d_Mod_draw_244 rfl w_1437 ?_
      refine tf_blk _ b_Mod_draw_247 rfl ?_
      refine tf_if_le 257 251 d_Mod_draw_248 rfl rfl (fun h248 => absurd h248 (h2)) (fun h248 => ?_)
      refine tf_blk _ b_Mod_draw_251 rfl ?_
      refine tf_goto 260 d_Mod_draw_254 rfl ?_
      refine tm_iast _ 261 d_Mod_draw_260 rfl hT rfl (hkv) (fun f hT => ?_)
      rw [hkc] at hT
      have hT := tm_A3u hT
      refine tf_blk _ b_Mod_draw_261 rfl ?_
      refine tm_get 267 d_Mod_draw_264 rfl fl_Mod_75 hT rfl ?_
      refine tf_blk _ b_Mod_draw_267 rfl ?_
      refine tm_iald _ 270 d_Mod_draw_269 rfl hT rfl (hkv) ?_
      rw [va_up_self, hkc, show upd G k (kI 255) k = kI 255 from if_pos rfl]
      refine tf_blk _ b_Mod_draw_270 rfl ?_
      refine tf_goto 185 d_Mod_draw_276 rfl ?_
      refine tf_drop [0, 1, 2, 3, 5, 6] rfl ?_
      rw [show nI k + kI 1 = nI (k + 1) from (nI_succ k).symm]
      exact ih (k + 1) _ _ _ (by omega) hT hK
    rw [show tm_gy s (G k) = kI 0 from by rw [tm_gy, if_neg h1]] at hK
    refine tf_blk _ b_Mod_draw_185 rfl ?_
    refine tm_get 191 d_Mod_draw_188 rfl fl_Mod_216 hT rfl ?_
    refine tf_blk _ b_Mod_draw_191 rfl ?_
    refine tm_get 195 d_Mod_draw_192 rfl fl_Mod_216 hT rfl ?_
    refine tf_blk _ b_Mod_draw_195 rfl ?_
    rw [h32, nI_mul]
    refine tf_ic_ge 279 199 d_Mod_draw_196 rfl rfl (fun h196 => absurd h196 (nI_ge (by omega) (by omega))) (fun h196 => ?_)
    refine tf_ldc2 202 d_Mod_draw_199 rfl w_1437 ?_
    refine tf_blk _ b_Mod_draw_202 rfl ?_
    refine tm_get 206 d_Mod_draw_203 rfl fl_Mod_75 hT rfl ?_
    refine tf_blk _ b_Mod_draw_206 rfl ?_
    refine tm_iald _ 209 d_Mod_draw_208 rfl hT rfl (hkv) ?_
    rw [va_up_self, hkc]
    refine tf_blk _ b_Mod_draw_209 rfl ?_
    refine tf_ldc2 214 d_Mod_draw_211 rfl w_1372 ?_
    refine tf_blk _ b_Mod_draw_214 rfl ?_
    refine tf_cS (tf_gok _ _) (c_Mod_near l D q (d - 1) _ _ (by omega) hne) 223 d_Mod_draw_220 rfl lk_Mod_140 cw_Mod_near (by rfl) sa_Mod_near (by omega) (by exact Nat.le_of_ble_eq_true rfl) rfl ?_
    rintro v220 L220 f220 ⟨rfl, rfl, rfl⟩
    refine tf_blk _ b_Mod_draw_223 rfl ?_
    refine tm_get 229 d_Mod_draw_226 rfl fl_Mod_75 hT rfl ?_
    refine tf_blk _ b_Mod_draw_229 rfl ?_
    refine tf_if_ge 242 238 d_Mod_draw_235 rfl rfl (fun h235 => absurd h235 (h1)) (fun h235 => ?_)
    refine tf_blk _ b_Mod_draw_238 rfl ?_
    refine tf_goto 260 d_Mod_draw_239 rfl ?_
    refine tm_iast _ 261 d_Mod_draw_260 rfl hT rfl (hkv) (fun f hT => ?_)
    rw [hkc] at hT
    have hT := tm_A3u hT
    refine tf_blk _ b_Mod_draw_261 rfl ?_
    refine tm_get 267 d_Mod_draw_264 rfl fl_Mod_75 hT rfl ?_
    refine tf_blk _ b_Mod_draw_267 rfl ?_
    refine tm_iald _ 270 d_Mod_draw_269 rfl hT rfl (hkv) ?_
    rw [va_up_self, hkc, show upd G k (kI 0) k = kI 0 from if_pos rfl]
    refine tf_blk _ b_Mod_draw_270 rfl ?_
    refine tf_goto 185 d_Mod_draw_276 rfl ?_
    refine tf_drop [0, 1, 2, 3, 5, 6] rfl ?_
    rw [show nI k + kI 1 = nI (k + 1) from (nI_succ k).symm]
    exact ih (k + 1) _ _ _ (by omega) hT hK
set_option maxHeartbeats 4000000 in
set_option maxRecDepth 100000 in
theorem c_Mod_draw_1 (hd : 1 ≤ d) (hT : tm_at q ad m W0 L J A R f) (g s b : Int32) (hb : tm_isG J g = true → ¬ (s = kI 32 ∨ s = kI 64 ∨ s = kI 128 ∨ s = kI 256)) : tf_C l (tf_H D q) d i_Mod_draw [.ref m, .int g, .int s, .int b] L f 0 0 (tm_to q ad m W0 L (some (.int (kI 0))) (upd J 0 (kI 1)) (A) (R)) := by
  refine tf_C.of (tf_gok _ _) (by decide) w_1393 (Nat.le_of_ble_eq_true rfl) ?_
  refine tf_blk _ b_Mod_draw_0 rfl ?_
  refine tf_cV (tf_gok _ _) (c_Mod_isGlyph l D q (d - 1) _ _ hT _) 6 d_Mod_draw_3 rfl lk_Mod_148 cw_Mod_isGlyph (by rfl) in_Mod_isGlyph se_Mod_isGlyph (by exact hT.1.1) (by exact hT.1.2.1) (by rfl) (by rfl) (by omega) (by exact Nat.le_of_ble_eq_true rfl) rfl ?_
  rintro v3 L3 f3 ⟨rfl, rfl, rfl⟩
  refine tf_if_eq 35 9 d_Mod_draw_6 rfl rfl (fun h6 => ?_) (fun h6 => ?_)
  · refine tf_blk _ b_Mod_draw_35 rfl ?_
    refine tf_goto 40 d_Mod_draw_36 rfl ?_
    refine tm_put 43 d_Mod_draw_40 rfl fw_Mod_123 hT (by decide) rfl rfl rfl (fun f hT => ?_)
    refine tf_blk _ b_Mod_draw_43 rfl ?_
    refine tm_get 47 d_Mod_draw_44 rfl fl_Mod_123 hT rfl ?_
    refine tf_if_le 52 50 d_Mod_draw_47 rfl rfl (fun h47 => absurd h47 (show ¬ kI 1 ≤ 0 by decide)) (fun h47 => ?_)
    refine tf_blk _ b_Mod_draw_50 rfl ?_
    refine tf_iret d_Mod_draw_51 rfl ?_
    exact ⟨rfl, rfl, hT⟩
  · refine tf_blk _ b_Mod_draw_9 rfl ?_
    refine tf_ic_eq 39 15 d_Mod_draw_12 rfl rfl (fun h12 => ?_) (fun h12 => ?_)
    · refine tf_blk _ b_Mod_draw_39 rfl ?_
      refine tm_put 43 d_Mod_draw_40 rfl fw_Mod_123 hT (by decide) rfl rfl rfl (fun f hT => ?_)
      refine tf_blk _ b_Mod_draw_43 rfl ?_
      refine tm_get 47 d_Mod_draw_44 rfl fl_Mod_123 hT rfl ?_
      refine tf_if_le 52 50 d_Mod_draw_47 rfl rfl (fun h47 => ?_) (fun h47 => absurd (show kI 0 ≤ 0 by decide) h47)
      exfalso
      have hg2 := bI_t h6
      first
      | exact hb hg2 (Or.inl h12)
      | exact hb hg2 (Or.inr (Or.inl h18))
      | exact hb hg2 (Or.inr (Or.inr (Or.inl h25)))
      | exact hb hg2 (Or.inr (Or.inr (Or.inr h32)))
    · refine tf_blk _ b_Mod_draw_15 rfl ?_
      refine tf_ic_eq 39 21 d_Mod_draw_18 rfl rfl (fun h18 => ?_) (fun h18 => ?_)
      · refine tf_blk _ b_Mod_draw_39 rfl ?_
        refine tm_put 43 d_Mod_draw_40 rfl fw_Mod_123 hT (by decide) rfl rfl rfl (fun f hT => ?_)
        refine tf_blk _ b_Mod_draw_43 rfl ?_
        refine tm_get 47 d_Mod_draw_44 rfl fl_Mod_123 hT rfl ?_
        refine tf_if_le 52 50 d_Mod_draw_47 rfl rfl (fun h47 => ?_) (fun h47 => absurd (show kI 0 ≤ 0 by decide) h47)
        exfalso
        have hg2 := bI_t h6
        first
        | exact hb hg2 (Or.inl h12)
        | exact hb hg2 (Or.inr (Or.inl h18))
        | exact hb hg2 (Or.inr (Or.inr (Or.inl h25)))
        | exact hb hg2 (Or.inr (Or.inr (Or.inr h32)))
      · refine tf_blk _ b_Mod_draw_21 rfl ?_
        refine tf_ic_eq 39 28 d_Mod_draw_25 rfl rfl (fun h25 => ?_) (fun h25 => ?_)
        · refine tf_blk _ b_Mod_draw_39 rfl ?_
          refine tm_put 43 d_Mod_draw_40 rfl fw_Mod_123 hT (by decide) rfl rfl rfl (fun f hT => ?_)
          refine tf_blk _ b_Mod_draw_43 rfl ?_
          refine tm_get 47 d_Mod_draw_44 rfl fl_Mod_123 hT rfl ?_
          refine tf_if_le 52 50 d_Mod_draw_47 rfl rfl (fun h47 => ?_) (fun h47 => absurd (show kI 0 ≤ 0 by decide) h47)
          exfalso
          have hg2 := bI_t h6
          first
          | exact hb hg2 (Or.inl h12)
          | exact hb hg2 (Or.inr (Or.inl h18))
          | exact hb hg2 (Or.inr (Or.inr (Or.inl h25)))
          | exact hb hg2 (Or.inr (Or.inr (Or.inr h32)))
        · refine tf_blk _ b_Mod_draw_28 rfl ?_
          refine tf_ic_eq 39 35 d_Mod_draw_32 rfl rfl (fun h32 => ?_) (fun h32 => ?_)
          · refine tf_blk _ b_Mod_draw_39 rfl ?_
            refine tm_put 43 d_Mod_draw_40 rfl fw_Mod_123 hT (by decide) rfl rfl rfl (fun f hT => ?_)
            refine tf_blk _ b_Mod_draw_43 rfl ?_
            refine tm_get 47 d_Mod_draw_44 rfl fl_Mod_123 hT rfl ?_
            refine tf_if_le 52 50 d_Mod_draw_47 rfl rfl (fun h47 => ?_) (fun h47 => absurd (show kI 0 ≤ 0 by decide) h47)
            exfalso
            have hg2 := bI_t h6
            first
            | exact hb hg2 (Or.inl h12)
            | exact hb hg2 (Or.inr (Or.inl h18))
            | exact hb hg2 (Or.inr (Or.inr (Or.inl h25)))
            | exact hb hg2 (Or.inr (Or.inr (Or.inr h32)))
          · refine tf_blk _ b_Mod_draw_35 rfl ?_
            refine tf_goto 40 d_Mod_draw_36 rfl ?_
            refine tm_put 43 d_Mod_draw_40 rfl fw_Mod_123 hT (by decide) rfl rfl rfl (fun f hT => ?_)
            refine tf_blk _ b_Mod_draw_43 rfl ?_
            refine tm_get 47 d_Mod_draw_44 rfl fl_Mod_123 hT rfl ?_
            refine tf_if_le 52 50 d_Mod_draw_47 rfl rfl (fun h47 => absurd h47 (show ¬ kI 1 ≤ 0 by decide)) (fun h47 => ?_)
            refine tf_blk _ b_Mod_draw_50 rfl ?_
            refine tf_iret d_Mod_draw_51 rfl ?_
            exact ⟨rfl, rfl, hT⟩
set_option maxHeartbeats 4000000 in
set_option maxRecDepth 100000 in
theorem t_Mod_dr39 (hd : 9 ≤ d) (hT : tm_at q ad m W0 L J A R f) {Pn : Nat → Nat} {Pc tr : Nat → Nat → Nat} {ht Kc Cc : Nat → Nat} (hW : tm_tree A Pn Pc tr ht Kc Cc) {i : Nat} (hi : i < 40) {s : Int32} {al : Nat} (hac : tc_acr s al) (fb : Bool) {xe : tm_OU} (hxe : xe = tm_sub Pn Pc (tm_tc J A tr Kc Cc) 5 0 (fun _ => i) (fun _ => 0) (A 19, A 20, A 21, A 22, 0, 0)) (hS : xe.2.2.2.2.1 ≤ 160) (hoc : xe.2.2.2.2.2 ≤ 160) {nh : Nat} (hn : nh ≤ 8) (h30 : J 30 = nI nh) (hF : ∀ y, iB 100000 y → iB 1000000 ((tm_fit (bI fb) nh (A 29) s) y)) {w0 k0 : Nat} (hwk : k0 + w0 = 8) (hk0 : k0 = 1) (hB : ∀ p, p < xe.2.2.2.2.1 → iB 100000 (xe.1 p) ∧ iB 100000 (xe.2.1 p)) {GD : tm_D} (hGD : GD = tm_drc xe.1 xe.2.1 xe.2.2.1 xe.2.2.2.1 (tm_fit (bI fb) nh (A 29) s) al s w0 k0 xe.2.2.2.2.1 xe.2.2.2.2.2 0 0 (J 53, J 54, tw_fl (kI 0) (al * al) 0 (A 31))) : tf_W l (tf_H D q) tf_T (tf_QM (tf_H D q) (fun v L2 f2 => v = some (.int (tm_gs s (al * al) 0 (kI 0) GD.2.2).1) ∧ L2 = L ∧ ∃ (J3 : Nat → Int32) (A3 : Nat → Nat → Int32), tm_at q ad m W0 L J3 A3 R f2 ∧ J3 0 = kI 0 ∧ J3 32 = nI al ∧ A3 31 = (tm_gs s (al * al) 0 (kI 0) GD.2.2).2 ∧ tm_o4 J A J3 A3)) d i_Mod_draw 39 [(0, .ref m), (1, .int (nI i)), (2, .int s), (3, .int (bI fb))] [.ref m] L f 0 0 := by
  obtain ⟨e32, hs0, hs1, hs2, hal, hne⟩ := acr_div hac
  refine tf_blk _ b_Mod_draw_39 rfl ?_
  refine tm_put 43 d_Mod_draw_40 rfl fw_Mod_123 hT (by decide) rfl rfl rfl (fun f hT => ?_)
  refine tf_blk _ b_Mod_draw_43 rfl ?_
  refine tm_get 47 d_Mod_draw_44 rfl fl_Mod_123 hT rfl ?_
  refine tf_if_le 52 50 d_Mod_draw_47 rfl rfl (fun h47 => ?_) (fun h47 => absurd (show kI 0 ≤ 0 by decide) h47)
  refine tf_blk _ b_Mod_draw_52 rfl ?_
  refine tf_cV (tf_gok _ _) (c_Mod_tell l D q (d - 1) _ _ (by omega) hT hW hi (by rw [tm_tc_J]; exact hxe) hS) 57 d_Mod_draw_54 rfl lk_Mod_197 cw_Mod_tell (by rfl) in_Mod_tell se_Mod_tell (by exact hT.1.1) (by exact hT.1.2.1) (by rfl) (by rfl) (by omega) (by exact Nat.le_of_ble_eq_true rfl) rfl ?_
  rintro v54 L54 f54 ⟨rfl, rfl, J9, A9, hT, hO⟩
  refine tf_blk _ b_Mod_draw_57 rfl ?_
  refine tm_put 62 d_Mod_draw_59 rfl fw_Mod_206 hT (by decide) rfl rfl rfl (fun f hT => ?_)
  refine tf_blk _ b_Mod_draw_62 rfl ?_
  refine tf_idiv 68 d_Mod_draw_67 rfl (hs0) ?_
  refine tm_put 71 d_Mod_draw_68 rfl fw_Mod_216 hT (by decide) rfl rfl rfl (fun f hT => ?_)
  refine tf_blk _ b_Mod_draw_71 rfl ?_
  refine tm_put 76 d_Mod_draw_73 rfl fw_Mod_209 hT (by decide) rfl (bI_n _) (by cases fb <;> rfl) (fun f hT => ?_)
  refine tf_blk _ b_Mod_draw_76 rfl ?_
  rw [e32] at hT
  obtain ⟨hJ1, o23, o24, hA1, o19, o20, o21, o22⟩ := hO
  obtain ⟨J1, hJ1e⟩ : ∃ J1, J1 = upd (upd (upd J9 33 s) 32 (nI al)) 34 (bI fb) := ⟨_, rfl⟩
  rw [← hJ1e] at hT
  have j33 : J1 33 = s := by rw [hJ1e]; rfl
  have j32 : J1 32 = nI al := by rw [hJ1e]; rfl
  have j34 : J1 34 = bI fb := by rw [hJ1e]; rfl
  have j23 : J1 23 = nI xe.2.2.2.2.1 := by rw [hJ1e]; exact o23
  have j24 : J1 24 = nI xe.2.2.2.2.2 := by rw [hJ1e]; exact o24
  have j30 : J1 30 = nI nh := by rw [hJ1e]; exact (hJ1 30 (by decide) (by decide) (by decide) (by decide)).trans h30
  have j53 : J1 53 = J 53 := by rw [hJ1e]; exact hJ1 53 (by decide) (by decide) (by decide) (by decide)
  have j54 : J1 54 = J 54 := by rw [hJ1e]; exact hJ1 54 (by decide) (by decide) (by decide) (by decide)
  have j0 : J1 0 = kI 0 := by rw [hJ1e]; exact hJ1 0 (by decide) (by decide) (by decide) (by decide)
  have a29 : A9 29 = A 29 := hA1 29 (by decide) (by decide) (by decide) (by decide) (by decide) (by decide)
  have a31 : A9 31 = A 31 := hA1 31 (by decide) (by decide) (by decide) (by decide) (by decide) (by decide)
  have hF2 : ∀ y, iB 100000 y → iB 1000000 (tm_fit (J1 34) nh (A9 29) (J1 33) y) := by rw [j34, a29, j33]; exact hF
  refine t_Mod_drz l D q d _ hal j32 (al * al) 0 _ _ (by omega) (tm_A51 31 hT) (fun f2 hT => ?_)
  generalize hG0 : tw_fl (kI 0) (al * al) 0 (A9 31) = G0 at hT
  refine tf_blk _ b_Mod_draw_107 rfl ?_
  have hT0 := hT
  rw [← tm_JS0 J1] at hT0
  refine t_Mod_drc l D q d _ (by omega) hal j32 (by rw [j33]; exact hs1) (by rw [j33]; exact hs2) hn j30 hF2 hwk hk0 hS hoc j23 j24 (by rw [o19, o20]; exact hB) xe.2.2.2.2.2 0 0 (J1 53, J1 54, G0) _ (by omega) (by omega) hT0 (fun D2 f3 hD2 hT => ?_)
  have hDG : D2 = GD := by rw [hD2, hGD, o19, o20, o21, o22, j34, a29, j33, j53, j54, ← hG0, a31]
  rw [hDG] at hT
  refine tf_blk _ b_Mod_draw_179 rfl ?_
  refine t_Mod_drg l D q d _ (by omega) hne hal (show tm_JS J1 GD.1 GD.2.1 32 = nI al from j32) (al * al) 0 (kI 0) GD.2.2 _ (by omega) hT (fun f4 hT => ⟨rfl, rfl, _, _, hT, j0, j32, va_up_self _ _ _, ?_⟩)
  rw [hJ1e]
  exact tm_o4_mk hJ1 hA1
set_option maxHeartbeats 4000000 in
set_option maxRecDepth 100000 in
theorem c_Mod_draw_t (hd : 9 ≤ d) (hT : tm_at q ad m W0 L J A R f) {Pn : Nat → Nat} {Pc tr : Nat → Nat → Nat} {ht Kc Cc : Nat → Nat} (hW : tm_tree A Pn Pc tr ht Kc Cc) {i : Nat} (hi : i < 40) {s : Int32} {al : Nat} (hac : tc_acr s al) (fb : Bool) {xe : tm_OU} (hxe : xe = tm_sub Pn Pc (tm_tc J A tr Kc Cc) 5 0 (fun _ => i) (fun _ => 0) (A 19, A 20, A 21, A 22, 0, 0)) (hS : xe.2.2.2.2.1 ≤ 160) (hoc : xe.2.2.2.2.2 ≤ 160) {nh : Nat} (hn : nh ≤ 8) (h30 : J 30 = nI nh) (hF : ∀ y, iB 100000 y → iB 1000000 ((tm_fit (bI fb) nh (A 29) s) y)) {w0 k0 : Nat} (hwk : k0 + w0 = 8) (hk0 : k0 = 1) (hB : ∀ p, p < xe.2.2.2.2.1 → iB 100000 (xe.1 p) ∧ iB 100000 (xe.2.1 p)) {GD : tm_D} (hGD : GD = tm_drc xe.1 xe.2.1 xe.2.2.1 xe.2.2.2.1 (tm_fit (bI fb) nh (A 29) s) al s w0 k0 xe.2.2.2.2.1 xe.2.2.2.2.2 0 0 (J 53, J 54, tw_fl (kI 0) (al * al) 0 (A 31))) (hG : tm_isG J (nI i) = true) : tf_C l (tf_H D q) d i_Mod_draw [.ref m, .int (nI i), .int s, .int (bI fb)] L f 0 0 (fun v L2 f2 => v = some (.int (tm_gs s (al * al) 0 (kI 0) GD.2.2).1) ∧ L2 = L ∧ ∃ (J3 : Nat → Int32) (A3 : Nat → Nat → Int32), tm_at q ad m W0 L J3 A3 R f2 ∧ J3 0 = kI 0 ∧ J3 32 = nI al ∧ A3 31 = (tm_gs s (al * al) 0 (kI 0) GD.2.2).2 ∧ tm_o4 J A J3 A3) := by
  have hsd := acr_side hac
  refine tf_C.of (tf_gok _ _) (by decide) w_1393 (Nat.le_of_ble_eq_true rfl) ?_
  refine tf_blk _ b_Mod_draw_0 rfl ?_
  refine tf_cV (tf_gok _ _) (c_Mod_isGlyph l D q (d - 1) _ _ hT _) 6 d_Mod_draw_3 rfl lk_Mod_148 cw_Mod_isGlyph (by rfl) in_Mod_isGlyph se_Mod_isGlyph (by exact hT.1.1) (by exact hT.1.2.1) (by rfl) (by rfl) (by omega) (by exact Nat.le_of_ble_eq_true rfl) rfl ?_
  rintro v3 L3 f3 ⟨rfl, rfl, rfl⟩
  refine tf_if_eq 35 9 d_Mod_draw_6 rfl rfl (fun h6 => absurd h6 (by rw [hG]; decide)) (fun h6 => ?_)
  refine tf_blk _ b_Mod_draw_9 rfl ?_
  refine tf_ic_eq 39 15 d_Mod_draw_12 rfl rfl (fun h12 => ?_) (fun h12 => ?_)
  · exact t_Mod_dr39 l D q d _ _ hd hT hW hi hac fb hxe hS hoc hn h30 hF hwk hk0 hB hGD
  · refine tf_blk _ b_Mod_draw_15 rfl ?_
    refine tf_ic_eq 39 21 d_Mod_draw_18 rfl rfl (fun h18 => ?_) (fun h18 => ?_)
    · exact t_Mod_dr39 l D q d _ _ hd hT hW hi hac fb hxe hS hoc hn h30 hF hwk hk0 hB hGD
    · refine tf_blk _ b_Mod_draw_21 rfl ?_
      refine tf_ic_eq 39 28 d_Mod_draw_25 rfl rfl (fun h25 => ?_) (fun h25 => ?_)
      · exact t_Mod_dr39 l D q d _ _ hd hT hW hi hac fb hxe hS hoc hn h30 hF hwk hk0 hB hGD
      · refine tf_blk _ b_Mod_draw_28 rfl ?_
        refine tf_ic_eq 39 35 d_Mod_draw_32 rfl rfl (fun h32 => ?_) (fun h32 => ?_)
        · exact t_Mod_dr39 l D q d _ _ hd hT hW hi hac fb hxe hS hoc hn h30 hF hwk hk0 hB hGD
        · exact absurd hsd (fun z => z.elim h12 (fun z => z.elim h18 (fun z => z.elim h25 h32)))
end
