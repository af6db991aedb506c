/-! the law over both states: calls that throw -/
section
variable (l : Launch) (D : va_G) (q : Nat → ClassId) (d : Nat) (L : List Nat) (f : tf_F)
end
theorem lw_N {S : tc_S} {J : Nat → Int32} {A : Nat → Nat → Int32} {R : Nat → Int64} (hR : RR S J A R) {i : Nat} (hi : i < S.n) : A 5 i = nI (S.T i).pt ∧ A 9 i = bI (S.T i).lk ∧ A 10 i = nI (S.T i).dp ∧ A 12 i = nI (S.T i).pc := by
  obtain ⟨_, ⟨n5, n6, n7, n9, n10, n11, n12⟩, _⟩ := hR.2.1.2.2.1 i hi
  exact ⟨n5, n9, n10, n12⟩
theorem bool_or (b : Bool) : b = true ∨ b = false := by cases b <;> simp
theorem in_n {n : Nat} (h1 : 1 ≤ n) (hn : n ≤ 64) {x : Int32} (h : tw_in x (kI 0) (nI n - kI 1) = false) (h0 : ¬ x < 0) : ¬ x < nI n := by
  intro z
  obtain ⟨k, hk, e⟩ := nI_of h0
  rw [e, nI_ltI hk (by omega)] at z
  rw [e, tw_inI hn z] at h
  cases h
theorem in_0 {x : Int32} (h : tw_in x (kI 0) (nI 0 - kI 1) = true) : False := by
  obtain ⟨k, hk, e⟩ := tw_inN (by omega) h
  omega
section
variable (l : Launch) (D : va_G) (q : Nat → ClassId) (d : Nat) (L : List Nat) (f : tf_F)
end
theorem lw_pp {S : tc_S} {J : Nat → Int32} {A : Nat → Nat → Int32} {R : Nat → Int64} (hR : RR S J A R) {i : Nat} (hi : i < S.n) {p : Int32} (h : tw_in p (kI 0) (nI (S.T i).pt - kI 1) = false) (h0 : ¬ p < 0) : ¬ p < A 5 i := by
  rw [(lw_N hR hi).1]
  have := (lw_pt hR hi).2.1
  intro z
  obtain ⟨k, hk, e⟩ := nI_of h0
  rw [e, nI_ltI hk (by omega)] at z
  rw [e, tw_inI (by omega) z] at h
  cases h
theorem lw_pm {S : tc_S} {J : Nat → Int32} {A : Nat → Nat → Int32} {R : Nat → Int64} (hR : RR S J A R) {p : Int32} (h : tw_in p (kI 0) (nI S.mm - kI 1) = false) (h0 : ¬ p < 0) (h1 : ¬ J 1 ≤ p) : False := by
  have := lw_mm hR
  rw [hR.1.2.1] at h1
  obtain ⟨k, hk, e⟩ := nI_of h0
  rw [e, nI_leI (by omega) hk] at h1
  rw [e, tw_inI (by omega) (show k < S.mm by omega)] at h
  cases h
theorem lw_pq {S : tc_S} {J : Nat → Int32} {A : Nat → Nat → Int32} {R : Nat → Int64} (hR : RR S J A R) {i : Nat} (hi : i < S.n) {p k : Int32} (h : tw_in p (kI 0) (nI (S.T i).pt - kI 1) = true) (h2 : tw_in k (kI 0) (nI S.mm - kI 1) = true) : ¬ p < 0 ∧ ¬ k < 0 ∧ ¬ J 1 ≤ k ∧ p < A 5 i := by
  have h40 := (lw_pt hR hi).2.1
  have hm4 := lw_mm hR
  obtain ⟨a, ha, ea⟩ := tw_inN (by omega) h
  obtain ⟨b, hb, eb⟩ := tw_inN (by omega) h2
  rw [ea, eb, hR.1.2.1, (lw_N hR hi).1]
  exact ⟨nI_pos (by omega), nI_pos (by omega), nI_ge hb (by omega), nI_lt ha (by omega)⟩
section
variable (l : Launch) (D : va_G) (q : Nat → ClassId) (d : Nat) (L : List Nat) (f : tf_F)
set_option maxHeartbeats 4000000 in
set_option maxRecDepth 100000 in
theorem lw_k0 {QB : tf_B} {kc ks K KS : Nat} (hk1 : kc + 20 ≤ K) (hk2 : ks + 1000 ≤ KS) {m ou b N i : Nat} {xs : Nat → Int32} {ad adm : Nat → Nat} {S : tc_S} {J : Nat → Int32} {A : Nat → Nat → Int32} {R : Nat → Int64} {g : Nat → Int64} (hl : l.stackTraces = false) (hd : 14 ≤ d) (hS : tc_at q ad S (lw_B adm m ou) L f) (hM : tm_ok q adm m J A R L f) (hR : RR S J A R) (hou : ou ∈ L) (fou : f ou = tj q 1 g) (hno : ¬ tm_own adm m ou) (hK : ∀ (ad2 : Nat → Nat) (S2 : tc_S) (J2 : Nat → Int32) (A2 : Nat → Nat → Int32) (R2 : Nat → Int64) (L2 : List Nat) (f2 : tf_F) (g2 : Nat → Int64), ad2 0 = ad 0 → tc_at q ad2 S2 (lw_B adm m ou) L2 f2 → tm_ok q adm m J2 A2 R2 L2 f2 → RR S2 J2 A2 R2 → ou ∈ L2 → f2 ou = tj q 1 g2 → tf_W l (tf_H D q) (tl_EX b N xs) QB d i_Law_law 1293 [(0, .ref b), (1, .ref (ad 0)), (2, .ref m), (3, .ref ou), (4, .int (nI i))] [] L2 f2 kc ks) (hv0 : vp_in (nI i) N) (hv1 : vp_in (nI i + kI 1) N) (hv2 : vp_in (nI i + kI 2) N) (hv3 : vp_in (nI i + kI 3) N) (hv4 : vp_in (nI i + kI 4) N) (hv5 : vp_in (nI i + kI 5) N) (hv6 : vp_in (nI i + kI 6) N) (hv7 : vp_in (nI i + kI 7) N) (hv8 : vp_in (nI i + kI 8) N) : tf_W l (tf_H D q) (tl_EX b N xs) QB d i_Law_law 140 [(0, .ref b), (1, .ref (ad 0)), (2, .ref m), (3, .ref ou), (4, .int (nI i))] [] L f K KS := by
  obtain ⟨hx, fx⟩ := tc_c0 hS
  have hT : tm_at q adm m f L J A R f := ⟨hM, fun _ _ => rfl⟩
  have hBL := lw_BL hM hou
  have hn : S.n ≤ 40 := hR.2.1.1
  have h4 := lw_mm hR
  rcases q_glyph hR with ⟨h40, hq⟩ | ⟨h40, hq, hq0, hRg⟩
  · refine tf_blk _ b_Law_law_140 rfl ?_
    refine tf_less (kc2 := kc + (0 + 7)) (ks2 := ks + (0 + ((0 + tw_gs S.mm) + 15))) (by omega) (by unfold tw_gs; omega) ?_
    refine tl_cS (tf_gok _ _) tg_EL (fun _ _ h => h.1) (hl_glyph_x1 l D q (d - 1) _ _ (by omega)  hx fx (c_Tf_glyph_S l D q (d - 1 - 1) _ _ hl (by omega) hS hn h4 (lw_cl hR) hBL) (fun v L2 f2 z => by have := z.1; omega) (fun _ _ _ z => z.2.1)) 145 d_Law_law_142 rfl lk_Law_58 tlw_glyph (by rfl) sal_glyph (by omega) (by exact Nat.le_of_ble_eq_true rfl) rfl ?_
    rintro v142 L142 f142 ⟨rfl, -, -, rfl, rfl⟩
    refine tf_blk _ b_Law_law_145 rfl ?_
    refine tf_cV (tf_gok _ _) (c_Mod_glyph l D q (d - 1) _ _ hT) 151 d_Law_law_148 rfl lk_Law_61 cw_Mod_glyph (by rfl) in_Mod_glyph se_Mod_glyph (by exact hT.1.1) (by exact hT.1.2.1) (by rfl) (by rfl) (by omega) (by exact Nat.le_of_ble_eq_true rfl) rfl ?_
    rintro v148 L148 f148 ⟨rfl, rfl, hT⟩
    rw [hq] at hT ⊢
    refine tf_blk _ b_Law_law_151 rfl ?_
    refine tf_cV (tf_gok _ _) (c_Mod_thrown l D q (d - 1) _ _ hT) 157 d_Law_law_154 rfl lk_Law_62 cw_Mod_thrown (by rfl) in_Mod_thrown se_Mod_thrown (by exact hT.1.1) (by exact hT.1.2.1) (by rfl) (by rfl) (by omega) (by exact Nat.le_of_ble_eq_true rfl) rfl ?_
    rintro v154 L154 f154 ⟨rfl, rfl, rfl⟩
    refine tf_blk _ b_Law_law_157 rfl ?_
    refine tf_ic_eq 164 162 d_Law_law_159 rfl rfl (fun h159 => ?_) (fun h159 => absurd (rfl) h159)
    refine tf_blk _ b_Law_law_164 rfl ?_
    refine tf_if_ne 181 169 d_Law_law_166 rfl rfl (fun h166 => ?_) (fun h166 => absurd h166 (show ¬ kI 1 = 0 by decide))
    refine tf_goto 1293 d_Law_law_181 rfl ?_
    refine tf_less (kc2 := kc) (ks2 := ks) (by omega) (by omega) ?_
    refine tf_drop [0, 1, 2, 3, 4] rfl ?_
    exact hK (ad) _ _ _ _ _ _ (_) (rfl) (lw_cS (hS) hT) hT.1 (hR) (hou) (by rw [hT.2 ou hno]; exact fou)
  · refine tf_blk _ b_Law_law_140 rfl ?_
    refine tf_less (kc2 := kc + (0 + 7)) (ks2 := ks + (0 + ((0 + tw_gs S.mm) + 15))) (by omega) (by unfold tw_gs; omega) ?_
    refine tl_cS (tf_gok _ _) tg_EL (fun _ _ h => h.1) (hl_glyph_r l D q (d - 1) _ _ (by omega)  hx fx (c_Tf_glyph_S l D q (d - 1 - 1) _ _ hl (by omega) hS hn h4 (lw_cl hR) hBL) (fun E L2 f2 z => by have := z.1; omega) (fun v L2 f2 z => by obtain ⟨ad2, k1, k2, k3, k4⟩ := z.2.2; exact ⟨_, z.2.1, k4 ou hou, g, (k3 ou (Or.inr rfl)).trans fou⟩)) 145 d_Law_law_142 rfl lk_Law_58 tlw_glyph (by rfl) sal_glyph (by omega) (by exact Nat.le_of_ble_eq_true rfl) rfl ?_
    rintro v142 L142 f142 ⟨rfl, a, f1, g1, ⟨-, ea, ad2, had, hS2, hB2, hL2⟩, fo, rfl⟩
    have ea2 := Value.int.inj (Option.some.inj ea)
    have hT := tm_mv9 (f2 := va_up f1 ou (tj q 1 (va_upJ g1 a))) hM hL2 (fun z hz ho => (va_up_ne _ _ (fun e => hno (by rw [← e]; exact ho))).trans (hB2 z (Or.inl ho)))
    refine tf_blk _ b_Law_law_145 rfl ?_
    refine tf_cV (tf_gok _ _) (c_Mod_glyph l D q (d - 1) _ _ hT) 151 d_Law_law_148 rfl lk_Law_61 cw_Mod_glyph (by rfl) in_Mod_glyph se_Mod_glyph (by exact hT.1.1) (by exact hT.1.2.1) (by rfl) (by rfl) (by omega) (by exact Nat.le_of_ble_eq_true rfl) rfl ?_
    rintro v148 L148 f148 ⟨rfl, rfl, hT⟩
    refine tf_blk _ b_Law_law_151 rfl ?_
    refine tf_cV (tf_gok _ _) (c_Mod_thrown l D q (d - 1) _ _ hT) 157 d_Law_law_154 rfl lk_Law_62 cw_Mod_thrown (by rfl) in_Mod_thrown se_Mod_thrown (by exact hT.1.1) (by exact hT.1.2.1) (by rfl) (by rfl) (by omega) (by exact Nat.le_of_ble_eq_true rfl) rfl ?_
    rintro v154 L154 f154 ⟨rfl, rfl, rfl⟩
    refine tf_blk _ b_Law_law_157 rfl ?_
    refine tf_ic_eq 164 162 d_Law_law_159 rfl rfl (fun h159 => ?_) (fun h159 => absurd (hq0) h159)
    refine tf_blk _ b_Law_law_164 rfl ?_
    refine tf_if_ne 181 169 d_Law_law_166 rfl rfl (fun h166 => absurd h166 (not_not_intro rfl)) (fun h166 => ?_)
    refine tf_blk _ b_Law_law_169 rfl ?_
    refine tf_lald (n := ?n_171_7) (g := ?g_171_7) 172 2 d_Law_law_171 rfl rfl ?ha_171_7 ?hf_171_7 ?hi_171_7 ?kk_171_7
    case ha_171_7 => exact hL2 ou hou
    case hf_171_7 => rw [hT.2 ou hno]; exact va_up_self _ _ _
    case hi_171_7 => exact (show vp_in (nI 0) 1 from vp_in_nI (by decide) (by decide))
    refine tf_blk _ b_Law_law_172 rfl ?_
    refine tf_if_eq 181 179 d_Law_law_176 rfl rfl (fun h176 => ?_) (fun h176 => absurd (lw_cmp0 (ea2.trans (hq.symm))) h176)
    refine tf_goto 1293 d_Law_law_181 rfl ?_
    refine tf_less (kc2 := kc) (ks2 := ks) (by omega) (by omega) ?_
    refine tf_drop [0, 1, 2, 3, 4] rfl ?_
    exact hK (ad2) _ _ _ _ _ _ (va_upJ g1 a) (had) (lw_cS (lw_cO hS2 _) hT) hT.1 (hRg) (hL2 ou hou) (by rw [hT.2 ou hno]; exact va_up_self _ _ _)
set_option maxHeartbeats 4000000 in
set_option maxRecDepth 100000 in
theorem lw_k1 {QB : tf_B} {kc ks K KS : Nat} (hk1 : kc + 20 ≤ K) (hk2 : ks + 1000 ≤ KS) {m ou b N i : Nat} {xs : Nat → Int32} {ad adm : Nat → Nat} {S : tc_S} {J : Nat → Int32} {A : Nat → Nat → Int32} {R : Nat → Int64} {g : Nat → Int64} (hl : l.stackTraces = false) (hd : 14 ≤ d) (hS : tc_at q ad S (lw_B adm m ou) L f) (hM : tm_ok q adm m J A R L f) (hR : RR S J A R) (hou : ou ∈ L) (fou : f ou = tj q 1 g) (hno : ¬ tm_own adm m ou) (hK : ∀ (ad2 : Nat → Nat) (S2 : tc_S) (J2 : Nat → Int32) (A2 : Nat → Nat → Int32) (R2 : Nat → Int64) (L2 : List Nat) (f2 : tf_F) (g2 : Nat → Int64), ad2 0 = ad 0 → tc_at q ad2 S2 (lw_B adm m ou) L2 f2 → tm_ok q adm m J2 A2 R2 L2 f2 → RR S2 J2 A2 R2 → ou ∈ L2 → f2 ou = tj q 1 g2 → tf_W l (tf_H D q) (tl_EX b N xs) QB d i_Law_law 1293 [(0, .ref b), (1, .ref (ad 0)), (2, .ref m), (3, .ref ou), (4, .int (nI i))] [] L2 f2 kc ks) (hv0 : vp_in (nI i) N) (hv1 : vp_in (nI i + kI 1) N) (hv2 : vp_in (nI i + kI 2) N) (hv3 : vp_in (nI i + kI 3) N) (hv4 : vp_in (nI i + kI 4) N) (hv5 : vp_in (nI i + kI 5) N) (hv6 : vp_in (nI i + kI 6) N) (hv7 : vp_in (nI i + kI 7) N) (hv8 : vp_in (nI i + kI 8) N) : tf_W l (tf_H D q) (tl_EX b N xs) QB d i_Law_law 184 [(0, .ref b), (1, .ref (ad 0)), (2, .ref m), (3, .ref ou), (4, .int (nI i))] [] L f K KS := by
  obtain ⟨hx, fx⟩ := tc_c0 hS
  have hT : tm_at q adm m f L J A R f := ⟨hM, fun _ _ => rfl⟩
  have hBL := lw_BL hM hou
  have hn : S.n ≤ 40 := hR.2.1.1
  have h4 := lw_mm hR
  by_cases c4 : xs (nI i + kI 4).toNatClampNeg = 0
  · rcases g_or (n := S.n) (xs (nI i + kI 1).toNatClampNeg) with ⟨gi, hgi, e1⟩ | hg
    · rcases bool_or (tm_isP (xs (nI i + kI 2).toNatClampNeg)) with px | px
      · rcases bool_or (tm_isP (xs (nI i + kI 3).toNatClampNeg)) with py | py
        · rcases bool_or (S.T gi).lk with lk | lk
          · refine tf_blk _ b_Law_law_184 rfl ?_
            refine tl_sld (fun _ _ h => h.2.1) 191 d_Law_law_190 rfl (hv1) ?_
            refine tf_blk _ b_Law_law_191 rfl ?_
            refine tl_sld (fun _ _ h => h.2.1) 197 d_Law_law_196 rfl (hv2) ?_
            refine tf_blk _ b_Law_law_197 rfl ?_
            refine tl_sld (fun _ _ h => h.2.1) 203 d_Law_law_202 rfl (hv3) ?_
            refine tf_blk _ b_Law_law_203 rfl ?_
            refine tl_sld (fun _ _ h => h.2.1) 209 d_Law_law_208 rfl (hv4) ?_
            refine tf_if_eq 216 212 d_Law_law_209 rfl rfl (fun h209 => ?_) (fun h209 => absurd (c4) h209)
            refine tf_blk _ b_Law_law_216 rfl ?_
            refine tf_blk _ b_Law_law_217 rfl ?_
            rw [e1]
            refine tf_less (kc2 := kc + (0 + 1)) (ks2 := ks + (0 + 6)) (by omega) (by omega) ?_
            refine tl_cS (tf_gok _ _) tg_EL (fun _ _ h => h.1) (hl_point_x2 l D q (d - 1) _ _ (by omega) _ _ _ _ hx fx (c_Tf_point_l l D q (d - 1 - 1) _ _ hl (by omega) hS hn hgi _ _ _ (by rw [isPl_i, px, py]; rfl) lk) (fun _ _ _ z => z) (fun _ _ _ z => z.1)) 221 d_Law_law_218 rfl lk_Law_65 tlw_point (by rfl) sal_point (by omega) (by exact Nat.le_of_ble_eq_true rfl) rfl ?_
            rintro v218 L218 f218 ⟨rfl, -, rfl, rfl⟩
            refine tf_blk _ b_Law_law_221 rfl ?_
            refine tl_sld (fun _ _ h => h.2.1) 230 d_Law_law_229 rfl (hv1) ?_
            refine tf_blk _ b_Law_law_230 rfl ?_
            refine tl_sld (fun _ _ h => h.2.1) 236 d_Law_law_235 rfl (hv2) ?_
            refine tf_blk _ b_Law_law_236 rfl ?_
            refine tl_sld (fun _ _ h => h.2.1) 242 d_Law_law_241 rfl (hv3) ?_
            refine tf_blk _ b_Law_law_242 rfl ?_
            refine tl_sld (fun _ _ h => h.2.1) 248 d_Law_law_247 rfl (hv4) ?_
            refine tf_if_eq 255 251 d_Law_law_248 rfl rfl (fun h248 => ?_) (fun h248 => absurd (c4) h248)
            refine tf_blk _ b_Law_law_255 rfl ?_
            rw [e1]
            refine tf_cV (tf_gok _ _) (c_Mod_point_l l D q (d - 1) _ _ (by omega) hT (show gi < 40 by omega) _ _ _ (lw_G hR hgi) px py (by rw [(lw_N hR hgi).2.1, lk]; decide)) 259 d_Law_law_256 rfl lk_Law_68 cw_Mod_point (by rfl) in_Mod_point se_Mod_point (by exact hT.1.1) (by exact hT.1.2.1) (by rfl) (by rfl) (by omega) (by exact Nat.le_of_ble_eq_true rfl) rfl ?_
            rintro v256 L256 f256 ⟨rfl, rfl, hT⟩
            refine tf_blk _ b_Law_law_259 rfl ?_
            refine tf_cV (tf_gok _ _) (c_Mod_thrown l D q (d - 1) _ _ hT) 265 d_Law_law_262 rfl lk_Law_62 cw_Mod_thrown (by rfl) in_Mod_thrown se_Mod_thrown (by exact hT.1.1) (by exact hT.1.2.1) (by rfl) (by rfl) (by omega) (by exact Nat.le_of_ble_eq_true rfl) rfl ?_
            rintro v262 L262 f262 ⟨rfl, rfl, rfl⟩
            refine tf_blk _ b_Law_law_265 rfl ?_
            refine tf_ic_eq 272 270 d_Law_law_267 rfl rfl (fun h267 => ?_) (fun h267 => absurd (rfl) h267)
            refine tf_blk _ b_Law_law_272 rfl ?_
            refine tf_if_ne 289 277 d_Law_law_274 rfl rfl (fun h274 => ?_) (fun h274 => absurd h274 (show ¬ kI 2 = 0 by decide))
            refine tf_goto 1293 d_Law_law_289 rfl ?_
            refine tf_less (kc2 := kc) (ks2 := ks) (by omega) (by omega) ?_
            refine tf_drop [0, 1, 2, 3, 4] rfl ?_
            exact hK (ad) _ _ _ _ _ _ (_) (rfl) (lw_cS (hS) hT) hT.1 (hR) (hou) (by rw [hT.2 ou hno]; exact fou)
          · by_cases p40 : (S.T gi).pt = 40
            · refine tf_blk _ b_Law_law_184 rfl ?_
              refine tl_sld (fun _ _ h => h.2.1) 191 d_Law_law_190 rfl (hv1) ?_
              refine tf_blk _ b_Law_law_191 rfl ?_
              refine tl_sld (fun _ _ h => h.2.1) 197 d_Law_law_196 rfl (hv2) ?_
              refine tf_blk _ b_Law_law_197 rfl ?_
              refine tl_sld (fun _ _ h => h.2.1) 203 d_Law_law_202 rfl (hv3) ?_
              refine tf_blk _ b_Law_law_203 rfl ?_
              refine tl_sld (fun _ _ h => h.2.1) 209 d_Law_law_208 rfl (hv4) ?_
              refine tf_if_eq 216 212 d_Law_law_209 rfl rfl (fun h209 => ?_) (fun h209 => absurd (c4) h209)
              refine tf_blk _ b_Law_law_216 rfl ?_
              refine tf_blk _ b_Law_law_217 rfl ?_
              rw [e1]
              refine tf_less (kc2 := kc + (0 + 1)) (ks2 := ks + (0 + 6)) (by omega) (by omega) ?_
              refine tl_cS (tf_gok _ _) tg_EL (fun _ _ h => h.1) (hl_point_x2 l D q (d - 1) _ _ (by omega) _ _ _ _ hx fx (c_Tf_point_f l D q (d - 1 - 1) _ _ hl (by omega) hS hn hgi _ _ _ (by rw [isPl_i, px, py]; rfl) lk p40) (fun _ _ _ z => z) (fun _ _ _ z => z.1)) 221 d_Law_law_218 rfl lk_Law_65 tlw_point (by rfl) sal_point (by omega) (by exact Nat.le_of_ble_eq_true rfl) rfl ?_
              rintro v218 L218 f218 ⟨rfl, -, rfl, rfl⟩
              refine tf_blk _ b_Law_law_221 rfl ?_
              refine tl_sld (fun _ _ h => h.2.1) 230 d_Law_law_229 rfl (hv1) ?_
              refine tf_blk _ b_Law_law_230 rfl ?_
              refine tl_sld (fun _ _ h => h.2.1) 236 d_Law_law_235 rfl (hv2) ?_
              refine tf_blk _ b_Law_law_236 rfl ?_
              refine tl_sld (fun _ _ h => h.2.1) 242 d_Law_law_241 rfl (hv3) ?_
              refine tf_blk _ b_Law_law_242 rfl ?_
              refine tl_sld (fun _ _ h => h.2.1) 248 d_Law_law_247 rfl (hv4) ?_
              refine tf_if_eq 255 251 d_Law_law_248 rfl rfl (fun h248 => ?_) (fun h248 => absurd (c4) h248)
              refine tf_blk _ b_Law_law_255 rfl ?_
              rw [e1]
              refine tf_cV (tf_gok _ _) (c_Mod_point_f l D q (d - 1) _ _ (by omega) hT (show gi < 40 by omega) _ _ _ (lw_G hR hgi) px py (by rw [(lw_N hR hgi).2.1, lk]; rfl) (by rw [(lw_N hR hgi).1, p40])) 259 d_Law_law_256 rfl lk_Law_68 cw_Mod_point (by rfl) in_Mod_point se_Mod_point (by exact hT.1.1) (by exact hT.1.2.1) (by rfl) (by rfl) (by omega) (by exact Nat.le_of_ble_eq_true rfl) rfl ?_
              rintro v256 L256 f256 ⟨rfl, rfl, hT⟩
              refine tf_blk _ b_Law_law_259 rfl ?_
              refine tf_cV (tf_gok _ _) (c_Mod_thrown l D q (d - 1) _ _ hT) 265 d_Law_law_262 rfl lk_Law_62 cw_Mod_thrown (by rfl) in_Mod_thrown se_Mod_thrown (by exact hT.1.1) (by exact hT.1.2.1) (by rfl) (by rfl) (by omega) (by exact Nat.le_of_ble_eq_true rfl) rfl ?_
              rintro v262 L262 f262 ⟨rfl, rfl, rfl⟩
              refine tf_blk _ b_Law_law_265 rfl ?_
              refine tf_ic_eq 272 270 d_Law_law_267 rfl rfl (fun h267 => ?_) (fun h267 => absurd (rfl) h267)
              refine tf_blk _ b_Law_law_272 rfl ?_
              refine tf_if_ne 289 277 d_Law_law_274 rfl rfl (fun h274 => ?_) (fun h274 => absurd h274 (show ¬ kI 2 = 0 by decide))
              refine tf_goto 1293 d_Law_law_289 rfl ?_
              refine tf_less (kc2 := kc) (ks2 := ks) (by omega) (by omega) ?_
              refine tf_drop [0, 1, 2, 3, 4] rfl ?_
              exact hK (ad) _ _ _ _ _ _ (_) (rfl) (lw_cS (hS) hT) hT.1 (hR) (hou) (by rw [hT.2 ou hno]; exact fou)
            have p39 : (S.T gi).pt < 40 := by have := (lw_pt hR hgi).2.1; omega
            refine tf_blk _ b_Law_law_184 rfl ?_
            refine tl_sld (fun _ _ h => h.2.1) 191 d_Law_law_190 rfl (hv1) ?_
            refine tf_blk _ b_Law_law_191 rfl ?_
            refine tl_sld (fun _ _ h => h.2.1) 197 d_Law_law_196 rfl (hv2) ?_
            refine tf_blk _ b_Law_law_197 rfl ?_
            refine tl_sld (fun _ _ h => h.2.1) 203 d_Law_law_202 rfl (hv3) ?_
            refine tf_blk _ b_Law_law_203 rfl ?_
            refine tl_sld (fun _ _ h => h.2.1) 209 d_Law_law_208 rfl (hv4) ?_
            refine tf_if_eq 216 212 d_Law_law_209 rfl rfl (fun h209 => ?_) (fun h209 => absurd (c4) h209)
            refine tf_blk _ b_Law_law_216 rfl ?_
            refine tf_blk _ b_Law_law_217 rfl ?_
            rw [e1]
            refine tf_less (kc2 := kc + (0 + 1)) (ks2 := ks + (0 + 6)) (by omega) (by omega) ?_
            refine tl_cS (tf_gok _ _) tg_EL (fun _ _ h => h.1) (hl_point_r l D q (d - 1) _ _ (by omega) _ _ _ _ hx fx (c_Tf_point_t l D q (d - 1 - 1) _ _ hl (by omega) hS hn hgi h4 _ _ _ (by rw [isPl_i, px, py]; rfl) lk p39) (fun _ _ _ z => z) (fun v L2 f2 z => ⟨_, z.1, z.2.1 ▸ hou, g, (z.2.2.2 ou (Or.inr rfl)).trans fou⟩)) 221 d_Law_law_218 rfl lk_Law_65 tlw_point (by rfl) sal_point (by omega) (by exact Nat.le_of_ble_eq_true rfl) rfl ?_
            rintro v218 L218 f218 ⟨rfl, a, f1, g1, ⟨ea, rfl, hS2, hB2⟩, fo, rfl⟩
            have ea2 := Value.int.inj (Option.some.inj ea)
            have hT := tm_mv9 (f2 := va_up f1 ou (tj q 1 (va_upJ g1 a))) hM (fun _ z => z) (fun z hz ho => (va_up_ne _ _ (fun e => hno (by rw [← e]; exact ho))).trans (hB2 z (Or.inl ho)))
            refine tf_blk _ b_Law_law_221 rfl ?_
            refine tl_sld (fun _ _ h => h.2.1) 230 d_Law_law_229 rfl (hv1) ?_
            refine tf_blk _ b_Law_law_230 rfl ?_
            refine tl_sld (fun _ _ h => h.2.1) 236 d_Law_law_235 rfl (hv2) ?_
            refine tf_blk _ b_Law_law_236 rfl ?_
            refine tl_sld (fun _ _ h => h.2.1) 242 d_Law_law_241 rfl (hv3) ?_
            refine tf_blk _ b_Law_law_242 rfl ?_
            refine tl_sld (fun _ _ h => h.2.1) 248 d_Law_law_247 rfl (hv4) ?_
            refine tf_if_eq 255 251 d_Law_law_248 rfl rfl (fun h248 => ?_) (fun h248 => absurd (c4) h248)
            refine tf_blk _ b_Law_law_255 rfl ?_
            rw [e1]
            refine tf_cV (tf_gok _ _) (c_Mod_point_t0 l D q (d - 1) _ _ (by omega) hT (show gi < 40 by omega) p39 _ _ _ (lw_G hR hgi) px py (by rw [(lw_N hR hgi).2.1, lk]; rfl) (lw_N hR hgi).1 rfl) 259 d_Law_law_256 rfl lk_Law_68 cw_Mod_point (by rfl) in_Mod_point se_Mod_point (by exact hT.1.1) (by exact hT.1.2.1) (by rfl) (by rfl) (by omega) (by exact Nat.le_of_ble_eq_true rfl) rfl ?_
            rintro v256 L256 f256 ⟨rfl, rfl, hT⟩
            refine tf_blk _ b_Law_law_259 rfl ?_
            refine tf_cV (tf_gok _ _) (c_Mod_thrown l D q (d - 1) _ _ hT) 265 d_Law_law_262 rfl lk_Law_62 cw_Mod_thrown (by rfl) in_Mod_thrown se_Mod_thrown (by exact hT.1.1) (by exact hT.1.2.1) (by rfl) (by rfl) (by omega) (by exact Nat.le_of_ble_eq_true rfl) rfl ?_
            rintro v262 L262 f262 ⟨rfl, rfl, rfl⟩
            refine tf_blk _ b_Law_law_265 rfl ?_
            refine tf_ic_eq 272 270 d_Law_law_267 rfl rfl (fun h267 => ?_) (fun h267 => absurd (rfl) h267)
            refine tf_blk _ b_Law_law_272 rfl ?_
            refine tf_if_ne 289 277 d_Law_law_274 rfl rfl (fun h274 => absurd h274 (not_not_intro rfl)) (fun h274 => ?_)
            refine tf_blk _ b_Law_law_277 rfl ?_
            refine tf_lald (n := ?n_279_74) (g := ?g_279_74) 280 2 d_Law_law_279 rfl rfl ?ha_279_74 ?hf_279_74 ?hi_279_74 ?kk_279_74
            case ha_279_74 => exact hou
            case hf_279_74 => rw [hT.2 ou hno]; exact va_up_self _ _ _
            case hi_279_74 => exact (show vp_in (nI 0) 1 from vp_in_nI (by decide) (by decide))
            refine tf_blk _ b_Law_law_280 rfl ?_
            refine tf_if_eq 289 287 d_Law_law_284 rfl rfl (fun h284 => ?_) (fun h284 => absurd (lw_cmp0 (ea2.trans ((q_point hR hgi p39 px py false).1))) h284)
            refine tf_goto 1293 d_Law_law_289 rfl ?_
            refine tf_less (kc2 := kc) (ks2 := ks) (by omega) (by omega) ?_
            refine tf_drop [0, 1, 2, 3, 4] rfl ?_
            exact hK (ad) _ _ _ _ _ _ (va_upJ g1 a) (rfl) (lw_cS (lw_cO hS2 _) hT) hT.1 ((q_point hR hgi p39 px py false).2) (hou) (by rw [hT.2 ou hno]; exact va_up_self _ _ _)
        · refine tf_blk _ b_Law_law_184 rfl ?_
          refine tl_sld (fun _ _ h => h.2.1) 191 d_Law_law_190 rfl (hv1) ?_
          refine tf_blk _ b_Law_law_191 rfl ?_
          refine tl_sld (fun _ _ h => h.2.1) 197 d_Law_law_196 rfl (hv2) ?_
          refine tf_blk _ b_Law_law_197 rfl ?_
          refine tl_sld (fun _ _ h => h.2.1) 203 d_Law_law_202 rfl (hv3) ?_
          refine tf_blk _ b_Law_law_203 rfl ?_
          refine tl_sld (fun _ _ h => h.2.1) 209 d_Law_law_208 rfl (hv4) ?_
          refine tf_if_eq 216 212 d_Law_law_209 rfl rfl (fun h209 => ?_) (fun h209 => absurd (c4) h209)
          refine tf_blk _ b_Law_law_216 rfl ?_
          refine tf_blk _ b_Law_law_217 rfl ?_
          rw [e1]
          refine tf_less (kc2 := kc + (0 + 1)) (ks2 := ks + (0 + 6)) (by omega) (by omega) ?_
          refine tl_cS (tf_gok _ _) tg_EL (fun _ _ h => h.1) (hl_point_x1 l D q (d - 1) _ _ (by omega) _ _ _ _ hx fx (c_Tf_point_p l D q (d - 1 - 1) _ _ hl (by omega) hS hn hgi _ _ _ (by rw [isPl_i, px, py]; rfl)) (fun _ _ _ z => z) (fun _ _ _ z => z.1)) 221 d_Law_law_218 rfl lk_Law_65 tlw_point (by rfl) sal_point (by omega) (by exact Nat.le_of_ble_eq_true rfl) rfl ?_
          rintro v218 L218 f218 ⟨rfl, -, rfl, rfl⟩
          refine tf_blk _ b_Law_law_221 rfl ?_
          refine tl_sld (fun _ _ h => h.2.1) 230 d_Law_law_229 rfl (hv1) ?_
          refine tf_blk _ b_Law_law_230 rfl ?_
          refine tl_sld (fun _ _ h => h.2.1) 236 d_Law_law_235 rfl (hv2) ?_
          refine tf_blk _ b_Law_law_236 rfl ?_
          refine tl_sld (fun _ _ h => h.2.1) 242 d_Law_law_241 rfl (hv3) ?_
          refine tf_blk _ b_Law_law_242 rfl ?_
          refine tl_sld (fun _ _ h => h.2.1) 248 d_Law_law_247 rfl (hv4) ?_
          refine tf_if_eq 255 251 d_Law_law_248 rfl rfl (fun h248 => ?_) (fun h248 => absurd (c4) h248)
          refine tf_blk _ b_Law_law_255 rfl ?_
          rw [e1]
          refine tf_cV (tf_gok _ _) (c_Mod_point_y l D q (d - 1) _ _ (by omega) hT (show gi < 40 by omega) _ _ _ (lw_G hR hgi) px py) 259 d_Law_law_256 rfl lk_Law_68 cw_Mod_point (by rfl) in_Mod_point se_Mod_point (by exact hT.1.1) (by exact hT.1.2.1) (by rfl) (by rfl) (by omega) (by exact Nat.le_of_ble_eq_true rfl) rfl ?_
          rintro v256 L256 f256 ⟨rfl, rfl, hT⟩
          refine tf_blk _ b_Law_law_259 rfl ?_
          refine tf_cV (tf_gok _ _) (c_Mod_thrown l D q (d - 1) _ _ hT) 265 d_Law_law_262 rfl lk_Law_62 cw_Mod_thrown (by rfl) in_Mod_thrown se_Mod_thrown (by exact hT.1.1) (by exact hT.1.2.1) (by rfl) (by rfl) (by omega) (by exact Nat.le_of_ble_eq_true rfl) rfl ?_
          rintro v262 L262 f262 ⟨rfl, rfl, rfl⟩
          refine tf_blk _ b_Law_law_265 rfl ?_
          refine tf_ic_eq 272 270 d_Law_law_267 rfl rfl (fun h267 => ?_) (fun h267 => absurd (rfl) h267)
          refine tf_blk _ b_Law_law_272 rfl ?_
          refine tf_if_ne 289 277 d_Law_law_274 rfl rfl (fun h274 => ?_) (fun h274 => absurd h274 (show ¬ kI 1 = 0 by decide))
          refine tf_goto 1293 d_Law_law_289 rfl ?_
          refine tf_less (kc2 := kc) (ks2 := ks) (by omega) (by omega) ?_
          refine tf_drop [0, 1, 2, 3, 4] rfl ?_
          exact hK (ad) _ _ _ _ _ _ (_) (rfl) (lw_cS (hS) hT) hT.1 (hR) (hou) (by rw [hT.2 ou hno]; exact fou)
      · refine tf_blk _ b_Law_law_184 rfl ?_
        refine tl_sld (fun _ _ h => h.2.1) 191 d_Law_law_190 rfl (hv1) ?_
        refine tf_blk _ b_Law_law_191 rfl ?_
        refine tl_sld (fun _ _ h => h.2.1) 197 d_Law_law_196 rfl (hv2) ?_
        refine tf_blk _ b_Law_law_197 rfl ?_
        refine tl_sld (fun _ _ h => h.2.1) 203 d_Law_law_202 rfl (hv3) ?_
        refine tf_blk _ b_Law_law_203 rfl ?_
        refine tl_sld (fun _ _ h => h.2.1) 209 d_Law_law_208 rfl (hv4) ?_
        refine tf_if_eq 216 212 d_Law_law_209 rfl rfl (fun h209 => ?_) (fun h209 => absurd (c4) h209)
        refine tf_blk _ b_Law_law_216 rfl ?_
        refine tf_blk _ b_Law_law_217 rfl ?_
        rw [e1]
        refine tf_less (kc2 := kc + (0 + 1)) (ks2 := ks + (0 + 6)) (by omega) (by omega) ?_
        refine tl_cS (tf_gok _ _) tg_EL (fun _ _ h => h.1) (hl_point_x1 l D q (d - 1) _ _ (by omega) _ _ _ _ hx fx (c_Tf_point_p l D q (d - 1 - 1) _ _ hl (by omega) hS hn hgi _ _ _ (by rw [isPl_i, px]; rfl)) (fun _ _ _ z => z) (fun _ _ _ z => z.1)) 221 d_Law_law_218 rfl lk_Law_65 tlw_point (by rfl) sal_point (by omega) (by exact Nat.le_of_ble_eq_true rfl) rfl ?_
        rintro v218 L218 f218 ⟨rfl, -, rfl, rfl⟩
        refine tf_blk _ b_Law_law_221 rfl ?_
        refine tl_sld (fun _ _ h => h.2.1) 230 d_Law_law_229 rfl (hv1) ?_
        refine tf_blk _ b_Law_law_230 rfl ?_
        refine tl_sld (fun _ _ h => h.2.1) 236 d_Law_law_235 rfl (hv2) ?_
        refine tf_blk _ b_Law_law_236 rfl ?_
        refine tl_sld (fun _ _ h => h.2.1) 242 d_Law_law_241 rfl (hv3) ?_
        refine tf_blk _ b_Law_law_242 rfl ?_
        refine tl_sld (fun _ _ h => h.2.1) 248 d_Law_law_247 rfl (hv4) ?_
        refine tf_if_eq 255 251 d_Law_law_248 rfl rfl (fun h248 => ?_) (fun h248 => absurd (c4) h248)
        refine tf_blk _ b_Law_law_255 rfl ?_
        rw [e1]
        refine tf_cV (tf_gok _ _) (c_Mod_point_x l D q (d - 1) _ _ (by omega) hT (show gi < 40 by omega) _ _ _ (lw_G hR hgi) px) 259 d_Law_law_256 rfl lk_Law_68 cw_Mod_point (by rfl) in_Mod_point se_Mod_point (by exact hT.1.1) (by exact hT.1.2.1) (by rfl) (by rfl) (by omega) (by exact Nat.le_of_ble_eq_true rfl) rfl ?_
        rintro v256 L256 f256 ⟨rfl, rfl, hT⟩
        refine tf_blk _ b_Law_law_259 rfl ?_
        refine tf_cV (tf_gok _ _) (c_Mod_thrown l D q (d - 1) _ _ hT) 265 d_Law_law_262 rfl lk_Law_62 cw_Mod_thrown (by rfl) in_Mod_thrown se_Mod_thrown (by exact hT.1.1) (by exact hT.1.2.1) (by rfl) (by rfl) (by omega) (by exact Nat.le_of_ble_eq_true rfl) rfl ?_
        rintro v262 L262 f262 ⟨rfl, rfl, rfl⟩
        refine tf_blk _ b_Law_law_265 rfl ?_
        refine tf_ic_eq 272 270 d_Law_law_267 rfl rfl (fun h267 => ?_) (fun h267 => absurd (rfl) h267)
        refine tf_blk _ b_Law_law_272 rfl ?_
        refine tf_if_ne 289 277 d_Law_law_274 rfl rfl (fun h274 => ?_) (fun h274 => absurd h274 (show ¬ kI 1 = 0 by decide))
        refine tf_goto 1293 d_Law_law_289 rfl ?_
        refine tf_less (kc2 := kc) (ks2 := ks) (by omega) (by omega) ?_
        refine tf_drop [0, 1, 2, 3, 4] rfl ?_
        exact hK (ad) _ _ _ _ _ _ (_) (rfl) (lw_cS (hS) hT) hT.1 (hR) (hou) (by rw [hT.2 ou hno]; exact fou)
    · refine tf_blk _ b_Law_law_184 rfl ?_
      refine tl_sld (fun _ _ h => h.2.1) 191 d_Law_law_190 rfl (hv1) ?_
      refine tf_blk _ b_Law_law_191 rfl ?_
      refine tl_sld (fun _ _ h => h.2.1) 197 d_Law_law_196 rfl (hv2) ?_
      refine tf_blk _ b_Law_law_197 rfl ?_
      refine tl_sld (fun _ _ h => h.2.1) 203 d_Law_law_202 rfl (hv3) ?_
      refine tf_blk _ b_Law_law_203 rfl ?_
      refine tl_sld (fun _ _ h => h.2.1) 209 d_Law_law_208 rfl (hv4) ?_
      refine tf_if_eq 216 212 d_Law_law_209 rfl rfl (fun h209 => ?_) (fun h209 => absurd (c4) h209)
      refine tf_blk _ b_Law_law_216 rfl ?_
      refine tf_blk _ b_Law_law_217 rfl ?_
      refine tf_less (kc2 := kc + (0 + 1)) (ks2 := ks + (0 + 6)) (by omega) (by omega) ?_
      refine tl_cS (tf_gok _ _) tg_EL (fun _ _ h => h.1) (hl_point_x1 l D q (d - 1) _ _ (by omega) _ _ _ _ hx fx (c_Tf_point_n l D q (d - 1 - 1) _ _ hl (by omega) hS hn hg _ _ _) (fun _ _ _ z => z) (fun _ _ _ z => z.1)) 221 d_Law_law_218 rfl lk_Law_65 tlw_point (by rfl) sal_point (by omega) (by exact Nat.le_of_ble_eq_true rfl) rfl ?_
      rintro v218 L218 f218 ⟨rfl, -, rfl, rfl⟩
      refine tf_blk _ b_Law_law_221 rfl ?_
      refine tl_sld (fun _ _ h => h.2.1) 230 d_Law_law_229 rfl (hv1) ?_
      refine tf_blk _ b_Law_law_230 rfl ?_
      refine tl_sld (fun _ _ h => h.2.1) 236 d_Law_law_235 rfl (hv2) ?_
      refine tf_blk _ b_Law_law_236 rfl ?_
      refine tl_sld (fun _ _ h => h.2.1) 242 d_Law_law_241 rfl (hv3) ?_
      refine tf_blk _ b_Law_law_242 rfl ?_
      refine tl_sld (fun _ _ h => h.2.1) 248 d_Law_law_247 rfl (hv4) ?_
      refine tf_if_eq 255 251 d_Law_law_248 rfl rfl (fun h248 => ?_) (fun h248 => absurd (c4) h248)
      refine tf_blk _ b_Law_law_255 rfl ?_
      refine tf_cV (tf_gok _ _) (c_Mod_point_n l D q (d - 1) _ _ (by omega) hT _ _ _ _ (lw_Gn hR hg)) 259 d_Law_law_256 rfl lk_Law_68 cw_Mod_point (by rfl) in_Mod_point se_Mod_point (by exact hT.1.1) (by exact hT.1.2.1) (by rfl) (by rfl) (by omega) (by exact Nat.le_of_ble_eq_true rfl) rfl ?_
      rintro v256 L256 f256 ⟨rfl, rfl, hT⟩
      refine tf_blk _ b_Law_law_259 rfl ?_
      refine tf_cV (tf_gok _ _) (c_Mod_thrown l D q (d - 1) _ _ hT) 265 d_Law_law_262 rfl lk_Law_62 cw_Mod_thrown (by rfl) in_Mod_thrown se_Mod_thrown (by exact hT.1.1) (by exact hT.1.2.1) (by rfl) (by rfl) (by omega) (by exact Nat.le_of_ble_eq_true rfl) rfl ?_
      rintro v262 L262 f262 ⟨rfl, rfl, rfl⟩
      refine tf_blk _ b_Law_law_265 rfl ?_
      refine tf_ic_eq 272 270 d_Law_law_267 rfl rfl (fun h267 => ?_) (fun h267 => absurd (rfl) h267)
      refine tf_blk _ b_Law_law_272 rfl ?_
      refine tf_if_ne 289 277 d_Law_law_274 rfl rfl (fun h274 => ?_) (fun h274 => absurd h274 (show ¬ kI 1 = 0 by decide))
      refine tf_goto 1293 d_Law_law_289 rfl ?_
      refine tf_less (kc2 := kc) (ks2 := ks) (by omega) (by omega) ?_
      refine tf_drop [0, 1, 2, 3, 4] rfl ?_
      exact hK (ad) _ _ _ _ _ _ (_) (rfl) (lw_cS (hS) hT) hT.1 (hR) (hou) (by rw [hT.2 ou hno]; exact fou)
  rcases g_or (n := S.n) (xs (nI i + kI 1).toNatClampNeg) with ⟨gi, hgi, e1⟩ | hg
  · rcases bool_or (tm_isP (xs (nI i + kI 2).toNatClampNeg)) with px | px
    · rcases bool_or (tm_isP (xs (nI i + kI 3).toNatClampNeg)) with py | py
      · rcases bool_or (S.T gi).lk with lk | lk
        · refine tf_blk _ b_Law_law_184 rfl ?_
          refine tl_sld (fun _ _ h => h.2.1) 191 d_Law_law_190 rfl (hv1) ?_
          refine tf_blk _ b_Law_law_191 rfl ?_
          refine tl_sld (fun _ _ h => h.2.1) 197 d_Law_law_196 rfl (hv2) ?_
          refine tf_blk _ b_Law_law_197 rfl ?_
          refine tl_sld (fun _ _ h => h.2.1) 203 d_Law_law_202 rfl (hv3) ?_
          refine tf_blk _ b_Law_law_203 rfl ?_
          refine tl_sld (fun _ _ h => h.2.1) 209 d_Law_law_208 rfl (hv4) ?_
          refine tf_if_eq 216 212 d_Law_law_209 rfl rfl (fun h209 => absurd h209 (c4)) (fun h209 => ?_)
          refine tf_blk _ b_Law_law_212 rfl ?_
          refine tf_goto 217 d_Law_law_213 rfl ?_
          refine tf_blk _ b_Law_law_217 rfl ?_
          rw [e1]
          refine tf_less (kc2 := kc + (0 + 1)) (ks2 := ks + (0 + 6)) (by omega) (by omega) ?_
          refine tl_cS (tf_gok _ _) tg_EL (fun _ _ h => h.1) (hl_point_x2 l D q (d - 1) _ _ (by omega) _ _ _ _ hx fx (c_Tf_point_l l D q (d - 1 - 1) _ _ hl (by omega) hS hn hgi _ _ _ (by rw [isPl_i, px, py]; rfl) lk) (fun _ _ _ z => z) (fun _ _ _ z => z.1)) 221 d_Law_law_218 rfl lk_Law_65 tlw_point (by rfl) sal_point (by omega) (by exact Nat.le_of_ble_eq_true rfl) rfl ?_
          rintro v218 L218 f218 ⟨rfl, -, rfl, rfl⟩
          refine tf_blk _ b_Law_law_221 rfl ?_
          refine tl_sld (fun _ _ h => h.2.1) 230 d_Law_law_229 rfl (hv1) ?_
          refine tf_blk _ b_Law_law_230 rfl ?_
          refine tl_sld (fun _ _ h => h.2.1) 236 d_Law_law_235 rfl (hv2) ?_
          refine tf_blk _ b_Law_law_236 rfl ?_
          refine tl_sld (fun _ _ h => h.2.1) 242 d_Law_law_241 rfl (hv3) ?_
          refine tf_blk _ b_Law_law_242 rfl ?_
          refine tl_sld (fun _ _ h => h.2.1) 248 d_Law_law_247 rfl (hv4) ?_
          refine tf_if_eq 255 251 d_Law_law_248 rfl rfl (fun h248 => absurd h248 (c4)) (fun h248 => ?_)
          refine tf_blk _ b_Law_law_251 rfl ?_
          refine tf_goto 256 d_Law_law_252 rfl ?_
          rw [e1]
          refine tf_cV (tf_gok _ _) (c_Mod_point_l l D q (d - 1) _ _ (by omega) hT (show gi < 40 by omega) _ _ _ (lw_G hR hgi) px py (by rw [(lw_N hR hgi).2.1, lk]; decide)) 259 d_Law_law_256 rfl lk_Law_68 cw_Mod_point (by rfl) in_Mod_point se_Mod_point (by exact hT.1.1) (by exact hT.1.2.1) (by rfl) (by rfl) (by omega) (by exact Nat.le_of_ble_eq_true rfl) rfl ?_
          rintro v256 L256 f256 ⟨rfl, rfl, hT⟩
          refine tf_blk _ b_Law_law_259 rfl ?_
          refine tf_cV (tf_gok _ _) (c_Mod_thrown l D q (d - 1) _ _ hT) 265 d_Law_law_262 rfl lk_Law_62 cw_Mod_thrown (by rfl) in_Mod_thrown se_Mod_thrown (by exact hT.1.1) (by exact hT.1.2.1) (by rfl) (by rfl) (by omega) (by exact Nat.le_of_ble_eq_true rfl) rfl ?_
          rintro v262 L262 f262 ⟨rfl, rfl, rfl⟩
          refine tf_blk _ b_Law_law_265 rfl ?_
          refine tf_ic_eq 272 270 d_Law_law_267 rfl rfl (fun h267 => ?_) (fun h267 => absurd (rfl) h267)
          refine tf_blk _ b_Law_law_272 rfl ?_
          refine tf_if_ne 289 277 d_Law_law_274 rfl rfl (fun h274 => ?_) (fun h274 => absurd h274 (show ¬ kI 2 = 0 by decide))
          refine tf_goto 1293 d_Law_law_289 rfl ?_
          refine tf_less (kc2 := kc) (ks2 := ks) (by omega) (by omega) ?_
          refine tf_drop [0, 1, 2, 3, 4] rfl ?_
          exact hK (ad) _ _ _ _ _ _ (_) (rfl) (lw_cS (hS) hT) hT.1 (hR) (hou) (by rw [hT.2 ou hno]; exact fou)
        · by_cases p40 : (S.T gi).pt = 40
          · refine tf_blk _ b_Law_law_184 rfl ?_
            refine tl_sld (fun _ _ h => h.2.1) 191 d_Law_law_190 rfl (hv1) ?_
            refine tf_blk _ b_Law_law_191 rfl ?_
            refine tl_sld (fun _ _ h => h.2.1) 197 d_Law_law_196 rfl (hv2) ?_
            refine tf_blk _ b_Law_law_197 rfl ?_
            refine tl_sld (fun _ _ h => h.2.1) 203 d_Law_law_202 rfl (hv3) ?_
            refine tf_blk _ b_Law_law_203 rfl ?_
            refine tl_sld (fun _ _ h => h.2.1) 209 d_Law_law_208 rfl (hv4) ?_
            refine tf_if_eq 216 212 d_Law_law_209 rfl rfl (fun h209 => absurd h209 (c4)) (fun h209 => ?_)
            refine tf_blk _ b_Law_law_212 rfl ?_
            refine tf_goto 217 d_Law_law_213 rfl ?_
            refine tf_blk _ b_Law_law_217 rfl ?_
            rw [e1]
            refine tf_less (kc2 := kc + (0 + 1)) (ks2 := ks + (0 + 6)) (by omega) (by omega) ?_
            refine tl_cS (tf_gok _ _) tg_EL (fun _ _ h => h.1) (hl_point_x2 l D q (d - 1) _ _ (by omega) _ _ _ _ hx fx (c_Tf_point_f l D q (d - 1 - 1) _ _ hl (by omega) hS hn hgi _ _ _ (by rw [isPl_i, px, py]; rfl) lk p40) (fun _ _ _ z => z) (fun _ _ _ z => z.1)) 221 d_Law_law_218 rfl lk_Law_65 tlw_point (by rfl) sal_point (by omega) (by exact Nat.le_of_ble_eq_true rfl) rfl ?_
            rintro v218 L218 f218 ⟨rfl, -, rfl, rfl⟩
            refine tf_blk _ b_Law_law_221 rfl ?_
            refine tl_sld (fun _ _ h => h.2.1) 230 d_Law_law_229 rfl (hv1) ?_
            refine tf_blk _ b_Law_law_230 rfl ?_
            refine tl_sld (fun _ _ h => h.2.1) 236 d_Law_law_235 rfl (hv2) ?_
            refine tf_blk _ b_Law_law_236 rfl ?_
            refine tl_sld (fun _ _ h => h.2.1) 242 d_Law_law_241 rfl (hv3) ?_
            refine tf_blk _ b_Law_law_242 rfl ?_
            refine tl_sld (fun _ _ h => h.2.1) 248 d_Law_law_247 rfl (hv4) ?_
            refine tf_if_eq 255 251 d_Law_law_248 rfl rfl (fun h248 => absurd h248 (c4)) (fun h248 => ?_)
            refine tf_blk _ b_Law_law_251 rfl ?_
            refine tf_goto 256 d_Law_law_252 rfl ?_
            rw [e1]
            refine tf_cV (tf_gok _ _) (c_Mod_point_f l D q (d - 1) _ _ (by omega) hT (show gi < 40 by omega) _ _ _ (lw_G hR hgi) px py (by rw [(lw_N hR hgi).2.1, lk]; rfl) (by rw [(lw_N hR hgi).1, p40])) 259 d_Law_law_256 rfl lk_Law_68 cw_Mod_point (by rfl) in_Mod_point se_Mod_point (by exact hT.1.1) (by exact hT.1.2.1) (by rfl) (by rfl) (by omega) (by exact Nat.le_of_ble_eq_true rfl) rfl ?_
            rintro v256 L256 f256 ⟨rfl, rfl, hT⟩
            refine tf_blk _ b_Law_law_259 rfl ?_
            refine tf_cV (tf_gok _ _) (c_Mod_thrown l D q (d - 1) _ _ hT) 265 d_Law_law_262 rfl lk_Law_62 cw_Mod_thrown (by rfl) in_Mod_thrown se_Mod_thrown (by exact hT.1.1) (by exact hT.1.2.1) (by rfl) (by rfl) (by omega) (by exact Nat.le_of_ble_eq_true rfl) rfl ?_
            rintro v262 L262 f262 ⟨rfl, rfl, rfl⟩
            refine tf_blk _ b_Law_law_265 rfl ?_
            refine tf_ic_eq 272 270 d_Law_law_267 rfl rfl (fun h267 => ?_) (fun h267 => absurd (rfl) h267)
            refine tf_blk _ b_Law_law_272 rfl ?_
            refine tf_if_ne 289 277 d_Law_law_274 rfl rfl (fun h274 => ?_) (fun h274 => absurd h274 (show ¬ kI 2 = 0 by decide))
            refine tf_goto 1293 d_Law_law_289 rfl ?_
            refine tf_less (kc2 := kc) (ks2 := ks) (by omega) (by omega) ?_
            refine tf_drop [0, 1, 2, 3, 4] rfl ?_
            exact hK (ad) _ _ _ _ _ _ (_) (rfl) (lw_cS (hS) hT) hT.1 (hR) (hou) (by rw [hT.2 ou hno]; exact fou)
          have p39 : (S.T gi).pt < 40 := by have := (lw_pt hR hgi).2.1; omega
          refine tf_blk _ b_Law_law_184 rfl ?_
          refine tl_sld (fun _ _ h => h.2.1) 191 d_Law_law_190 rfl (hv1) ?_
          refine tf_blk _ b_Law_law_191 rfl ?_
          refine tl_sld (fun _ _ h => h.2.1) 197 d_Law_law_196 rfl (hv2) ?_
          refine tf_blk _ b_Law_law_197 rfl ?_
          refine tl_sld (fun _ _ h => h.2.1) 203 d_Law_law_202 rfl (hv3) ?_
          refine tf_blk _ b_Law_law_203 rfl ?_
          refine tl_sld (fun _ _ h => h.2.1) 209 d_Law_law_208 rfl (hv4) ?_
          refine tf_if_eq 216 212 d_Law_law_209 rfl rfl (fun h209 => absurd h209 (c4)) (fun h209 => ?_)
          refine tf_blk _ b_Law_law_212 rfl ?_
          refine tf_goto 217 d_Law_law_213 rfl ?_
          refine tf_blk _ b_Law_law_217 rfl ?_
          rw [e1]
          refine tf_less (kc2 := kc + (0 + 1)) (ks2 := ks + (0 + 6)) (by omega) (by omega) ?_
          refine tl_cS (tf_gok _ _) tg_EL (fun _ _ h => h.1) (hl_point_r l D q (d - 1) _ _ (by omega) _ _ _ _ hx fx (c_Tf_point_t l D q (d - 1 - 1) _ _ hl (by omega) hS hn hgi h4 _ _ _ (by rw [isPl_i, px, py]; rfl) lk p39) (fun _ _ _ z => z) (fun v L2 f2 z => ⟨_, z.1, z.2.1 ▸ hou, g, (z.2.2.2 ou (Or.inr rfl)).trans fou⟩)) 221 d_Law_law_218 rfl lk_Law_65 tlw_point (by rfl) sal_point (by omega) (by exact Nat.le_of_ble_eq_true rfl) rfl ?_
          rintro v218 L218 f218 ⟨rfl, a, f1, g1, ⟨ea, rfl, hS2, hB2⟩, fo, rfl⟩
          have ea2 := Value.int.inj (Option.some.inj ea)
          have hT := tm_mv9 (f2 := va_up f1 ou (tj q 1 (va_upJ g1 a))) hM (fun _ z => z) (fun z hz ho => (va_up_ne _ _ (fun e => hno (by rw [← e]; exact ho))).trans (hB2 z (Or.inl ho)))
          refine tf_blk _ b_Law_law_221 rfl ?_
          refine tl_sld (fun _ _ h => h.2.1) 230 d_Law_law_229 rfl (hv1) ?_
          refine tf_blk _ b_Law_law_230 rfl ?_
          refine tl_sld (fun _ _ h => h.2.1) 236 d_Law_law_235 rfl (hv2) ?_
          refine tf_blk _ b_Law_law_236 rfl ?_
          refine tl_sld (fun _ _ h => h.2.1) 242 d_Law_law_241 rfl (hv3) ?_
          refine tf_blk _ b_Law_law_242 rfl ?_
          refine tl_sld (fun _ _ h => h.2.1) 248 d_Law_law_247 rfl (hv4) ?_
          refine tf_if_eq 255 251 d_Law_law_248 rfl rfl (fun h248 => absurd h248 (c4)) (fun h248 => ?_)
          refine tf_blk _ b_Law_law_251 rfl ?_
          refine tf_goto 256 d_Law_law_252 rfl ?_
          rw [e1]
          refine tf_cV (tf_gok _ _) (c_Mod_point_t1 l D q (d - 1) _ _ (by omega) hT (show gi < 40 by omega) p39 _ _ _ (lw_G hR hgi) px py (by rw [(lw_N hR hgi).2.1, lk]; rfl) (lw_N hR hgi).1 (by decide)) 259 d_Law_law_256 rfl lk_Law_68 cw_Mod_point (by rfl) in_Mod_point se_Mod_point (by exact hT.1.1) (by exact hT.1.2.1) (by rfl) (by rfl) (by omega) (by exact Nat.le_of_ble_eq_true rfl) rfl ?_
          rintro v256 L256 f256 ⟨rfl, rfl, hT⟩
          refine tf_blk _ b_Law_law_259 rfl ?_
          refine tf_cV (tf_gok _ _) (c_Mod_thrown l D q (d - 1) _ _ hT) 265 d_Law_law_262 rfl lk_Law_62 cw_Mod_thrown (by rfl) in_Mod_thrown se_Mod_thrown (by exact hT.1.1) (by exact hT.1.2.1) (by rfl) (by rfl) (by omega) (by exact Nat.le_of_ble_eq_true rfl) rfl ?_
          rintro v262 L262 f262 ⟨rfl, rfl, rfl⟩
          refine tf_blk _ b_Law_law_265 rfl ?_
          refine tf_ic_eq 272 270 d_Law_law_267 rfl rfl (fun h267 => ?_) (fun h267 => absurd (rfl) h267)
          refine tf_blk _ b_Law_law_272 rfl ?_
          refine tf_if_ne 289 277 d_Law_law_274 rfl rfl (fun h274 => absurd h274 (not_not_intro rfl)) (fun h274 => ?_)
          refine tf_blk _ b_Law_law_277 rfl ?_
          refine tf_lald (n := ?n_279_141) (g := ?g_279_141) 280 2 d_Law_law_279 rfl rfl ?ha_279_141 ?hf_279_141 ?hi_279_141 ?kk_279_141
          case ha_279_141 => exact hou
          case hf_279_141 => rw [hT.2 ou hno]; exact va_up_self _ _ _
          case hi_279_141 => exact (show vp_in (nI 0) 1 from vp_in_nI (by decide) (by decide))
          refine tf_blk _ b_Law_law_280 rfl ?_
          refine tf_if_eq 289 287 d_Law_law_284 rfl rfl (fun h284 => ?_) (fun h284 => absurd (lw_cmp0 (ea2.trans ((q_point hR hgi p39 px py true).1))) h284)
          refine tf_goto 1293 d_Law_law_289 rfl ?_
          refine tf_less (kc2 := kc) (ks2 := ks) (by omega) (by omega) ?_
          refine tf_drop [0, 1, 2, 3, 4] rfl ?_
          exact hK (ad) _ _ _ _ _ _ (va_upJ g1 a) (rfl) (lw_cS (lw_cO hS2 _) hT) hT.1 ((q_point hR hgi p39 px py true).2) (hou) (by rw [hT.2 ou hno]; exact va_up_self _ _ _)
      · refine tf_blk _ b_Law_law_184 rfl ?_
        refine tl_sld (fun _ _ h => h.2.1) 191 d_Law_law_190 rfl (hv1) ?_
        refine tf_blk _ b_Law_law_191 rfl ?_
        refine tl_sld (fun _ _ h => h.2.1) 197 d_Law_law_196 rfl (hv2) ?_
        refine tf_blk _ b_Law_law_197 rfl ?_
        refine tl_sld (fun _ _ h => h.2.1) 203 d_Law_law_202 rfl (hv3) ?_
        refine tf_blk _ b_Law_law_203 rfl ?_
        refine tl_sld (fun _ _ h => h.2.1) 209 d_Law_law_208 rfl (hv4) ?_
        refine tf_if_eq 216 212 d_Law_law_209 rfl rfl (fun h209 => absurd h209 (c4)) (fun h209 => ?_)
        refine tf_blk _ b_Law_law_212 rfl ?_
        refine tf_goto 217 d_Law_law_213 rfl ?_
        refine tf_blk _ b_Law_law_217 rfl ?_
        rw [e1]
        refine tf_less (kc2 := kc + (0 + 1)) (ks2 := ks + (0 + 6)) (by omega) (by omega) ?_
        refine tl_cS (tf_gok _ _) tg_EL (fun _ _ h => h.1) (hl_point_x1 l D q (d - 1) _ _ (by omega) _ _ _ _ hx fx (c_Tf_point_p l D q (d - 1 - 1) _ _ hl (by omega) hS hn hgi _ _ _ (by rw [isPl_i, px, py]; rfl)) (fun _ _ _ z => z) (fun _ _ _ z => z.1)) 221 d_Law_law_218 rfl lk_Law_65 tlw_point (by rfl) sal_point (by omega) (by exact Nat.le_of_ble_eq_true rfl) rfl ?_
        rintro v218 L218 f218 ⟨rfl, -, rfl, rfl⟩
        refine tf_blk _ b_Law_law_221 rfl ?_
        refine tl_sld (fun _ _ h => h.2.1) 230 d_Law_law_229 rfl (hv1) ?_
        refine tf_blk _ b_Law_law_230 rfl ?_
        refine tl_sld (fun _ _ h => h.2.1) 236 d_Law_law_235 rfl (hv2) ?_
        refine tf_blk _ b_Law_law_236 rfl ?_
        refine tl_sld (fun _ _ h => h.2.1) 242 d_Law_law_241 rfl (hv3) ?_
        refine tf_blk _ b_Law_law_242 rfl ?_
        refine tl_sld (fun _ _ h => h.2.1) 248 d_Law_law_247 rfl (hv4) ?_
        refine tf_if_eq 255 251 d_Law_law_248 rfl rfl (fun h248 => absurd h248 (c4)) (fun h248 => ?_)
        refine tf_blk _ b_Law_law_251 rfl ?_
        refine tf_goto 256 d_Law_law_252 rfl ?_
        rw [e1]
        refine tf_cV (tf_gok _ _) (c_Mod_point_y l D q (d - 1) _ _ (by omega) hT (show gi < 40 by omega) _ _ _ (lw_G hR hgi) px py) 259 d_Law_law_256 rfl lk_Law_68 cw_Mod_point (by rfl) in_Mod_point se_Mod_point (by exact hT.1.1) (by exact hT.1.2.1) (by rfl) (by rfl) (by omega) (by exact Nat.le_of_ble_eq_true rfl) rfl ?_
        rintro v256 L256 f256 ⟨rfl, rfl, hT⟩
        refine tf_blk _ b_Law_law_259 rfl ?_
        refine tf_cV (tf_gok _ _) (c_Mod_thrown l D q (d - 1) _ _ hT) 265 d_Law_law_262 rfl lk_Law_62 cw_Mod_thrown (by rfl) in_Mod_thrown se_Mod_thrown (by exact hT.1.1) (by exact hT.1.2.1) (by rfl) (by rfl) (by omega) (by exact Nat.le_of_ble_eq_true rfl) rfl ?_
        rintro v262 L262 f262 ⟨rfl, rfl, rfl⟩
        refine tf_blk _ b_Law_law_265 rfl ?_
        refine tf_ic_eq 272 270 d_Law_law_267 rfl rfl (fun h267 => ?_) (fun h267 => absurd (rfl) h267)
        refine tf_blk _ b_Law_law_272 rfl ?_
        refine tf_if_ne 289 277 d_Law_law_274 rfl rfl (fun h274 => ?_) (fun h274 => absurd h274 (show ¬ kI 1 = 0 by decide))
        refine tf_goto 1293 d_Law_law_289 rfl ?_
        refine tf_less (kc2 := kc) (ks2 := ks) (by omega) (by omega) ?_
        refine tf_drop [0, 1, 2, 3, 4] rfl ?_
        exact hK (ad) _ _ _ _ _ _ (_) (rfl) (lw_cS (hS) hT) hT.1 (hR) (hou) (by rw [hT.2 ou hno]; exact fou)
    · refine tf_blk _ b_Law_law_184 rfl ?_
      refine tl_sld (fun _ _ h => h.2.1) 191 d_Law_law_190 rfl (hv1) ?_
      refine tf_blk _ b_Law_law_191 rfl ?_
      refine tl_sld (fun _ _ h => h.2.1) 197 d_Law_law_196 rfl (hv2) ?_
      refine tf_blk _ b_Law_law_197 rfl ?_
      refine tl_sld (fun _ _ h => h.2.1) 203 d_Law_law_202 rfl (hv3) ?_
      refine tf_blk _ b_Law_law_203 rfl ?_
      refine tl_sld (fun _ _ h => h.2.1) 209 d_Law_law_208 rfl (hv4) ?_
      refine tf_if_eq 216 212 d_Law_law_209 rfl rfl (fun h209 => absurd h209 (c4)) (fun h209 => ?_)
      refine tf_blk _ b_Law_law_212 rfl ?_
      refine tf_goto 217 d_Law_law_213 rfl ?_
      refine tf_blk _ b_Law_law_217 rfl ?_
      rw [e1]
      refine tf_less (kc2 := kc + (0 + 1)) (ks2 := ks + (0 + 6)) (by omega) (by omega) ?_
      refine tl_cS (tf_gok _ _) tg_EL (fun _ _ h => h.1) (hl_point_x1 l D q (d - 1) _ _ (by omega) _ _ _ _ hx fx (c_Tf_point_p l D q (d - 1 - 1) _ _ hl (by omega) hS hn hgi _ _ _ (by rw [isPl_i, px]; rfl)) (fun _ _ _ z => z) (fun _ _ _ z => z.1)) 221 d_Law_law_218 rfl lk_Law_65 tlw_point (by rfl) sal_point (by omega) (by exact Nat.le_of_ble_eq_true rfl) rfl ?_
      rintro v218 L218 f218 ⟨rfl, -, rfl, rfl⟩
      refine tf_blk _ b_Law_law_221 rfl ?_
      refine tl_sld (fun _ _ h => h.2.1) 230 d_Law_law_229 rfl (hv1) ?_
      refine tf_blk _ b_Law_law_230 rfl ?_
      refine tl_sld (fun _ _ h => h.2.1) 236 d_Law_law_235 rfl (hv2) ?_
      refine tf_blk _ b_Law_law_236 rfl ?_
      refine tl_sld (fun _ _ h => h.2.1) 242 d_Law_law_241 rfl (hv3) ?_
      refine tf_blk _ b_Law_law_242 rfl ?_
      refine tl_sld (fun _ _ h => h.2.1) 248 d_Law_law_247 rfl (hv4) ?_
      refine tf_if_eq 255 251 d_Law_law_248 rfl rfl (fun h248 => absurd h248 (c4)) (fun h248 => ?_)
      refine tf_blk _ b_Law_law_251 rfl ?_
      refine tf_goto 256 d_Law_law_252 rfl ?_
      rw [e1]
      refine tf_cV (tf_gok _ _) (c_Mod_point_x l D q (d - 1) _ _ (by omega) hT (show gi < 40 by omega) _ _ _ (lw_G hR hgi) px) 259 d_Law_law_256 rfl lk_Law_68 cw_Mod_point (by rfl) in_Mod_point se_Mod_point (by exact hT.1.1) (by exact hT.1.2.1) (by rfl) (by rfl) (by omega) (by exact Nat.le_of_ble_eq_true rfl) rfl ?_
      rintro v256 L256 f256 ⟨rfl, rfl, hT⟩
      refine tf_blk _ b_Law_law_259 rfl ?_
      refine tf_cV (tf_gok _ _) (c_Mod_thrown l D q (d - 1) _ _ hT) 265 d_Law_law_262 rfl lk_Law_62 cw_Mod_thrown (by rfl) in_Mod_thrown se_Mod_thrown (by exact hT.1.1) (by exact hT.1.2.1) (by rfl) (by rfl) (by omega) (by exact Nat.le_of_ble_eq_true rfl) rfl ?_
      rintro v262 L262 f262 ⟨rfl, rfl, rfl⟩
      refine tf_blk _ b_Law_law_265 rfl ?_
      refine tf_ic_eq 272 270 d_Law_law_267 rfl rfl (fun h267 => ?_) (fun h267 => absurd (rfl) h267)
      refine tf_blk _ b_Law_law_272 rfl ?_
      refine tf_if_ne 289 277 d_Law_law_274 rfl rfl (fun h274 => ?_) (fun h274 => absurd h274 (show ¬ kI 1 = 0 by decide))
      refine tf_goto 1293 d_Law_law_289 rfl ?_
      refine tf_less (kc2 := kc) (ks2 := ks) (by omega) (by omega) ?_
      refine tf_drop [0, 1, 2, 3, 4] rfl ?_
      exact hK (ad) _ _ _ _ _ _ (_) (rfl) (lw_cS (hS) hT) hT.1 (hR) (hou) (by rw [hT.2 ou hno]; exact fou)
  · refine tf_blk _ b_Law_law_184 rfl ?_
    refine tl_sld (fun _ _ h => h.2.1) 191 d_Law_law_190 rfl (hv1) ?_
    refine tf_blk _ b_Law_law_191 rfl ?_
    refine tl_sld (fun _ _ h => h.2.1) 197 d_Law_law_196 rfl (hv2) ?_
    refine tf_blk _ b_Law_law_197 rfl ?_
    refine tl_sld (fun _ _ h => h.2.1) 203 d_Law_law_202 rfl (hv3) ?_
    refine tf_blk _ b_Law_law_203 rfl ?_
    refine tl_sld (fun _ _ h => h.2.1) 209 d_Law_law_208 rfl (hv4) ?_
    refine tf_if_eq 216 212 d_Law_law_209 rfl rfl (fun h209 => absurd h209 (c4)) (fun h209 => ?_)
    refine tf_blk _ b_Law_law_212 rfl ?_
    refine tf_goto 217 d_Law_law_213 rfl ?_
    refine tf_blk _ b_Law_law_217 rfl ?_
    refine tf_less (kc2 := kc + (0 + 1)) (ks2 := ks + (0 + 6)) (by omega) (by omega) ?_
    refine tl_cS (tf_gok _ _) tg_EL (fun _ _ h => h.1) (hl_point_x1 l D q (d - 1) _ _ (by omega) _ _ _ _ hx fx (c_Tf_point_n l D q (d - 1 - 1) _ _ hl (by omega) hS hn hg _ _ _) (fun _ _ _ z => z) (fun _ _ _ z => z.1)) 221 d_Law_law_218 rfl lk_Law_65 tlw_point (by rfl) sal_point (by omega) (by exact Nat.le_of_ble_eq_true rfl) rfl ?_
    rintro v218 L218 f218 ⟨rfl, -, rfl, rfl⟩
    refine tf_blk _ b_Law_law_221 rfl ?_
    refine tl_sld (fun _ _ h => h.2.1) 230 d_Law_law_229 rfl (hv1) ?_
    refine tf_blk _ b_Law_law_230 rfl ?_
    refine tl_sld (fun _ _ h => h.2.1) 236 d_Law_law_235 rfl (hv2) ?_
    refine tf_blk _ b_Law_law_236 rfl ?_
    refine tl_sld (fun _ _ h => h.2.1) 242 d_Law_law_241 rfl (hv3) ?_
    refine tf_blk _ b_Law_law_242 rfl ?_
    refine tl_sld (fun _ _ h => h.2.1) 248 d_Law_law_247 rfl (hv4) ?_
    refine tf_if_eq 255 251 d_Law_law_248 rfl rfl (fun h248 => absurd h248 (c4)) (fun h248 => ?_)
    refine tf_blk _ b_Law_law_251 rfl ?_
    refine tf_goto 256 d_Law_law_252 rfl ?_
    refine tf_cV (tf_gok _ _) (c_Mod_point_n l D q (d - 1) _ _ (by omega) hT _ _ _ _ (lw_Gn hR hg)) 259 d_Law_law_256 rfl lk_Law_68 cw_Mod_point (by rfl) in_Mod_point se_Mod_point (by exact hT.1.1) (by exact hT.1.2.1) (by rfl) (by rfl) (by omega) (by exact Nat.le_of_ble_eq_true rfl) rfl ?_
    rintro v256 L256 f256 ⟨rfl, rfl, hT⟩
    refine tf_blk _ b_Law_law_259 rfl ?_
    refine tf_cV (tf_gok _ _) (c_Mod_thrown l D q (d - 1) _ _ hT) 265 d_Law_law_262 rfl lk_Law_62 cw_Mod_thrown (by rfl) in_Mod_thrown se_Mod_thrown (by exact hT.1.1) (by exact hT.1.2.1) (by rfl) (by rfl) (by omega) (by exact Nat.le_of_ble_eq_true rfl) rfl ?_
    rintro v262 L262 f262 ⟨rfl, rfl, rfl⟩
    refine tf_blk _ b_Law_law_265 rfl ?_
    refine tf_ic_eq 272 270 d_Law_law_267 rfl rfl (fun h267 => ?_) (fun h267 => absurd (rfl) h267)
    refine tf_blk _ b_Law_law_272 rfl ?_
    refine tf_if_ne 289 277 d_Law_law_274 rfl rfl (fun h274 => ?_) (fun h274 => absurd h274 (show ¬ kI 1 = 0 by decide))
    refine tf_goto 1293 d_Law_law_289 rfl ?_
    refine tf_less (kc2 := kc) (ks2 := ks) (by omega) (by omega) ?_
    refine tf_drop [0, 1, 2, 3, 4] rfl ?_
    exact hK (ad) _ _ _ _ _ _ (_) (rfl) (lw_cS (hS) hT) hT.1 (hR) (hou) (by rw [hT.2 ou hno]; exact fou)
set_option maxHeartbeats 4000000 in
set_option maxRecDepth 100000 in
theorem lw_k3 {QB : tf_B} {kc ks K KS : Nat} (hk1 : kc + 20 ≤ K) (hk2 : ks + 1000 ≤ KS) {m ou b N i : Nat} {xs : Nat → Int32} {ad adm : Nat → Nat} {S : tc_S} {J : Nat → Int32} {A : Nat → Nat → Int32} {R : Nat → Int64} {g : Nat → Int64} (hl : l.stackTraces = false) (hd : 14 ≤ d) (hS : tc_at q ad S (lw_B adm m ou) L f) (hM : tm_ok q adm m J A R L f) (hR : RR S J A R) (hou : ou ∈ L) (fou : f ou = tj q 1 g) (hno : ¬ tm_own adm m ou) (hK : ∀ (ad2 : Nat → Nat) (S2 : tc_S) (J2 : Nat → Int32) (A2 : Nat → Nat → Int32) (R2 : Nat → Int64) (L2 : List Nat) (f2 : tf_F) (g2 : Nat → Int64), ad2 0 = ad 0 → tc_at q ad2 S2 (lw_B adm m ou) L2 f2 → tm_ok q adm m J2 A2 R2 L2 f2 → RR S2 J2 A2 R2 → ou ∈ L2 → f2 ou = tj q 1 g2 → tf_W l (tf_H D q) (tl_EX b N xs) QB d i_Law_law 1293 [(0, .ref b), (1, .ref (ad 0)), (2, .ref m), (3, .ref ou), (4, .int (nI i))] [] L2 f2 kc ks) (hv0 : vp_in (nI i) N) (hv1 : vp_in (nI i + kI 1) N) (hv2 : vp_in (nI i + kI 2) N) (hv3 : vp_in (nI i + kI 3) N) (hv4 : vp_in (nI i + kI 4) N) (hv5 : vp_in (nI i + kI 5) N) (hv6 : vp_in (nI i + kI 6) N) (hv7 : vp_in (nI i + kI 7) N) (hv8 : vp_in (nI i + kI 8) N) : tf_W l (tf_H D q) (tl_EX b N xs) QB d i_Law_law 317 [(0, .ref b), (1, .ref (ad 0)), (2, .ref m), (3, .ref ou), (4, .int (nI i))] [] L f K KS := by
  obtain ⟨hx, fx⟩ := tc_c0 hS
  have hT : tm_at q adm m f L J A R f := ⟨hM, fun _ _ => rfl⟩
  have hBL := lw_BL hM hou
  have hn : S.n ≤ 40 := hR.2.1.1
  have h4 := lw_mm hR
  rcases g_or (n := S.n) (xs (nI i + kI 1).toNatClampNeg) with ⟨gi, hgi, e1⟩ | hg
  · rcases bool_or (tw_in (xs (nI i + kI 2).toNatClampNeg) (kI 0) (nI (S.T gi).pt - kI 1)) with hp | hp
    · rcases bool_or (tw_in (xs (nI i + kI 3).toNatClampNeg) (kI 0) (nI S.mm - kI 1)) with hm | hm
      · rcases bool_or (tm_isP (xs (nI i + kI 4).toNatClampNeg)) with px | px
        · rcases bool_or (tm_isP (xs (nI i + kI 5).toNatClampNeg)) with py | py
          · obtain ⟨pp, hpp, e2⟩ := tw_inN (by have := (lw_pt hR hgi).2.1; omega) hp
            obtain ⟨mk, hmk, e3⟩ := tw_inN (by omega) hm
            refine tf_blk _ b_Law_law_317 rfl ?_
            refine tl_sld (fun _ _ h => h.2.1) 324 d_Law_law_323 rfl (hv1) ?_
            refine tf_blk _ b_Law_law_324 rfl ?_
            refine tl_sld (fun _ _ h => h.2.1) 330 d_Law_law_329 rfl (hv2) ?_
            refine tf_blk _ b_Law_law_330 rfl ?_
            refine tl_sld (fun _ _ h => h.2.1) 336 d_Law_law_335 rfl (hv3) ?_
            refine tf_blk _ b_Law_law_336 rfl ?_
            refine tl_sld (fun _ _ h => h.2.1) 342 d_Law_law_341 rfl (hv4) ?_
            refine tf_blk _ b_Law_law_342 rfl ?_
            refine tl_sld (fun _ _ h => h.2.1) 348 d_Law_law_347 rfl (hv5) ?_
            rw [e1, e2, e3]
            refine tf_less (kc2 := kc + (0 + 1)) (ks2 := ks + (0 + 6)) (by omega) (by omega) ?_
            refine tl_cS (tf_gok _ _) tg_EL (fun _ _ h => h.1) (hl_place_r l D q (d - 1) _ _ (by omega) (ou := 0) _ _ _ _ _ hx fx (c_Tf_place_t l D q (d - 1 - 1) _ _ hl (by omega) hS hn hgi _ _ hpp (lw_pt hR hgi).2.1 hmk h4 (by rw [isPl_i, px, py]; rfl)) (fun _ _ _ z => z) (fun _ _ _ z => z.1)) 351 d_Law_law_348 rfl lk_Law_74 tlw_place (by rfl) sal_place (by omega) (by exact Nat.le_of_ble_eq_true rfl) rfl ?_
            rintro v348 L348 f348 ⟨rfl, -, rfl, hS2, hB2⟩
            have hT : tm_at q adm m f348 _ J A R f348 := tm_mv9 hM (fun _ z => z) (fun z _ hz => hB2 z (Or.inl hz))
            refine tf_blk _ b_Law_law_351 rfl ?_
            refine tl_sld (fun _ _ h => h.2.1) 360 d_Law_law_359 rfl (hv1) ?_
            refine tf_blk _ b_Law_law_360 rfl ?_
            refine tl_sld (fun _ _ h => h.2.1) 366 d_Law_law_365 rfl (hv2) ?_
            refine tf_blk _ b_Law_law_366 rfl ?_
            refine tl_sld (fun _ _ h => h.2.1) 372 d_Law_law_371 rfl (hv3) ?_
            refine tf_blk _ b_Law_law_372 rfl ?_
            refine tl_sld (fun _ _ h => h.2.1) 378 d_Law_law_377 rfl (hv4) ?_
            refine tf_blk _ b_Law_law_378 rfl ?_
            refine tl_sld (fun _ _ h => h.2.1) 384 d_Law_law_383 rfl (hv5) ?_
            rw [e1, e2, e3]
            refine tf_cV (tf_gok _ _) (c_Mod_place_t l D q (d - 1) _ _ (by omega) hT (show gi < 40 by omega) (show pp < 40 by have := (lw_pt hR hgi).2.1; omega) (show mk < 4 by omega) _ _ (lw_G hR hgi) (by rw [hR.1.2.1]; exact nI_ge hmk (by omega)) (by rw [(lw_N hR hgi).1]; exact nI_lt hpp (by have := (lw_pt hR hgi).2.1; omega)) px py) 387 d_Law_law_384 rfl lk_Law_77 cw_Mod_place (by rfl) in_Mod_place se_Mod_place (by exact hT.1.1) (by exact hT.1.2.1) (by rfl) (by rfl) (by omega) (by exact Nat.le_of_ble_eq_true rfl) rfl ?_
            rintro v384 L384 f384 ⟨rfl, rfl, hT⟩
            refine tf_blk _ b_Law_law_387 rfl ?_
            refine tf_cV (tf_gok _ _) (c_Mod_thrown l D q (d - 1) _ _ hT) 391 d_Law_law_388 rfl lk_Law_62 cw_Mod_thrown (by rfl) in_Mod_thrown se_Mod_thrown (by exact hT.1.1) (by exact hT.1.2.1) (by rfl) (by rfl) (by omega) (by exact Nat.le_of_ble_eq_true rfl) rfl ?_
            rintro v388 L388 f388 ⟨rfl, rfl, rfl⟩
            refine tf_blk _ b_Law_law_391 rfl ?_
            refine tf_ic_eq 398 396 d_Law_law_393 rfl rfl (fun h393 => ?_) (fun h393 => absurd (rfl) h393)
            refine tf_goto 1293 d_Law_law_398 rfl ?_
            refine tf_less (kc2 := kc) (ks2 := ks) (by omega) (by omega) ?_
            refine tf_drop [0, 1, 2, 3, 4] rfl ?_
            exact hK (ad) _ _ _ _ _ _ (_) (rfl) (lw_cS (hS2) hT) hT.1 (q_place hR hgi hpp hmk px py) (hou) (by rw [hT.2 ou hno]; exact (hB2 ou (Or.inr rfl)).trans fou)
          · refine tf_blk _ b_Law_law_317 rfl ?_
            refine tl_sld (fun _ _ h => h.2.1) 324 d_Law_law_323 rfl (hv1) ?_
            refine tf_blk _ b_Law_law_324 rfl ?_
            refine tl_sld (fun _ _ h => h.2.1) 330 d_Law_law_329 rfl (hv2) ?_
            refine tf_blk _ b_Law_law_330 rfl ?_
            refine tl_sld (fun _ _ h => h.2.1) 336 d_Law_law_335 rfl (hv3) ?_
            refine tf_blk _ b_Law_law_336 rfl ?_
            refine tl_sld (fun _ _ h => h.2.1) 342 d_Law_law_341 rfl (hv4) ?_
            refine tf_blk _ b_Law_law_342 rfl ?_
            refine tl_sld (fun _ _ h => h.2.1) 348 d_Law_law_347 rfl (hv5) ?_
            rw [e1]
            refine tf_less (kc2 := kc + (0 + 1)) (ks2 := ks + (0 + 6)) (by omega) (by omega) ?_
            refine tl_cS (tf_gok _ _) tg_EL (fun _ _ h => h.1) (hl_place_x2 l D q (d - 1) _ _ (by omega) (ou := 0) _ _ _ _ _ hx fx (c_Tf_place_x l D q (d - 1 - 1) _ _ hl (by omega) hS hn hgi _ _ _ _ hp hm (by rw [isPl_i, px, py]; rfl)) (fun _ _ _ z => z) (fun _ _ _ z => z.1)) 351 d_Law_law_348 rfl lk_Law_74 tlw_place (by rfl) sal_place (by omega) (by exact Nat.le_of_ble_eq_true rfl) rfl ?_
            rintro v348 L348 f348 ⟨rfl, -, rfl, rfl⟩
            refine tf_blk _ b_Law_law_351 rfl ?_
            refine tl_sld (fun _ _ h => h.2.1) 360 d_Law_law_359 rfl (hv1) ?_
            refine tf_blk _ b_Law_law_360 rfl ?_
            refine tl_sld (fun _ _ h => h.2.1) 366 d_Law_law_365 rfl (hv2) ?_
            refine tf_blk _ b_Law_law_366 rfl ?_
            refine tl_sld (fun _ _ h => h.2.1) 372 d_Law_law_371 rfl (hv3) ?_
            refine tf_blk _ b_Law_law_372 rfl ?_
            refine tl_sld (fun _ _ h => h.2.1) 378 d_Law_law_377 rfl (hv4) ?_
            refine tf_blk _ b_Law_law_378 rfl ?_
            refine tl_sld (fun _ _ h => h.2.1) 384 d_Law_law_383 rfl (hv5) ?_
            rw [e1]
            refine tf_cV (tf_gok _ _) (c_Mod_place_x l D q (d - 1) _ _ (by omega) hT (show gi < 40 by omega) _ _ _ _ (lw_G hR hgi) (lw_pq hR hgi hp hm).1 (lw_pq hR hgi hp hm).2.1 (lw_pq hR hgi hp hm).2.2.1 (lw_pq hR hgi hp hm).2.2.2 (fun z => by simp_all)) 387 d_Law_law_384 rfl lk_Law_77 cw_Mod_place (by rfl) in_Mod_place se_Mod_place (by exact hT.1.1) (by exact hT.1.2.1) (by rfl) (by rfl) (by omega) (by exact Nat.le_of_ble_eq_true rfl) rfl ?_
            rintro v384 L384 f384 ⟨rfl, rfl, hT⟩
            refine tf_blk _ b_Law_law_387 rfl ?_
            refine tf_cV (tf_gok _ _) (c_Mod_thrown l D q (d - 1) _ _ hT) 391 d_Law_law_388 rfl lk_Law_62 cw_Mod_thrown (by rfl) in_Mod_thrown se_Mod_thrown (by exact hT.1.1) (by exact hT.1.2.1) (by rfl) (by rfl) (by omega) (by exact Nat.le_of_ble_eq_true rfl) rfl ?_
            rintro v388 L388 f388 ⟨rfl, rfl, rfl⟩
            refine tf_blk _ b_Law_law_391 rfl ?_
            refine tf_ic_eq 398 396 d_Law_law_393 rfl rfl (fun h393 => ?_) (fun h393 => absurd (rfl) h393)
            refine tf_goto 1293 d_Law_law_398 rfl ?_
            refine tf_less (kc2 := kc) (ks2 := ks) (by omega) (by omega) ?_
            refine tf_drop [0, 1, 2, 3, 4] rfl ?_
            exact hK (ad) _ _ _ _ _ _ (_) (rfl) (lw_cS (hS) hT) hT.1 (hR) (hou) (by rw [hT.2 ou hno]; exact fou)
        · refine tf_blk _ b_Law_law_317 rfl ?_
          refine tl_sld (fun _ _ h => h.2.1) 324 d_Law_law_323 rfl (hv1) ?_
          refine tf_blk _ b_Law_law_324 rfl ?_
          refine tl_sld (fun _ _ h => h.2.1) 330 d_Law_law_329 rfl (hv2) ?_
          refine tf_blk _ b_Law_law_330 rfl ?_
          refine tl_sld (fun _ _ h => h.2.1) 336 d_Law_law_335 rfl (hv3) ?_
          refine tf_blk _ b_Law_law_336 rfl ?_
          refine tl_sld (fun _ _ h => h.2.1) 342 d_Law_law_341 rfl (hv4) ?_
          refine tf_blk _ b_Law_law_342 rfl ?_
          refine tl_sld (fun _ _ h => h.2.1) 348 d_Law_law_347 rfl (hv5) ?_
          rw [e1]
          refine tf_less (kc2 := kc + (0 + 1)) (ks2 := ks + (0 + 6)) (by omega) (by omega) ?_
          refine tl_cS (tf_gok _ _) tg_EL (fun _ _ h => h.1) (hl_place_x2 l D q (d - 1) _ _ (by omega) (ou := 0) _ _ _ _ _ hx fx (c_Tf_place_x l D q (d - 1 - 1) _ _ hl (by omega) hS hn hgi _ _ _ _ hp hm (by rw [isPl_i, px]; rfl)) (fun _ _ _ z => z) (fun _ _ _ z => z.1)) 351 d_Law_law_348 rfl lk_Law_74 tlw_place (by rfl) sal_place (by omega) (by exact Nat.le_of_ble_eq_true rfl) rfl ?_
          rintro v348 L348 f348 ⟨rfl, -, rfl, rfl⟩
          refine tf_blk _ b_Law_law_351 rfl ?_
          refine tl_sld (fun _ _ h => h.2.1) 360 d_Law_law_359 rfl (hv1) ?_
          refine tf_blk _ b_Law_law_360 rfl ?_
          refine tl_sld (fun _ _ h => h.2.1) 366 d_Law_law_365 rfl (hv2) ?_
          refine tf_blk _ b_Law_law_366 rfl ?_
          refine tl_sld (fun _ _ h => h.2.1) 372 d_Law_law_371 rfl (hv3) ?_
          refine tf_blk _ b_Law_law_372 rfl ?_
          refine tl_sld (fun _ _ h => h.2.1) 378 d_Law_law_377 rfl (hv4) ?_
          refine tf_blk _ b_Law_law_378 rfl ?_
          refine tl_sld (fun _ _ h => h.2.1) 384 d_Law_law_383 rfl (hv5) ?_
          rw [e1]
          refine tf_cV (tf_gok _ _) (c_Mod_place_x l D q (d - 1) _ _ (by omega) hT (show gi < 40 by omega) _ _ _ _ (lw_G hR hgi) (lw_pq hR hgi hp hm).1 (lw_pq hR hgi hp hm).2.1 (lw_pq hR hgi hp hm).2.2.1 (lw_pq hR hgi hp hm).2.2.2 (fun z => by simp_all)) 387 d_Law_law_384 rfl lk_Law_77 cw_Mod_place (by rfl) in_Mod_place se_Mod_place (by exact hT.1.1) (by exact hT.1.2.1) (by rfl) (by rfl) (by omega) (by exact Nat.le_of_ble_eq_true rfl) rfl ?_
          rintro v384 L384 f384 ⟨rfl, rfl, hT⟩
          refine tf_blk _ b_Law_law_387 rfl ?_
          refine tf_cV (tf_gok _ _) (c_Mod_thrown l D q (d - 1) _ _ hT) 391 d_Law_law_388 rfl lk_Law_62 cw_Mod_thrown (by rfl) in_Mod_thrown se_Mod_thrown (by exact hT.1.1) (by exact hT.1.2.1) (by rfl) (by rfl) (by omega) (by exact Nat.le_of_ble_eq_true rfl) rfl ?_
          rintro v388 L388 f388 ⟨rfl, rfl, rfl⟩
          refine tf_blk _ b_Law_law_391 rfl ?_
          refine tf_ic_eq 398 396 d_Law_law_393 rfl rfl (fun h393 => ?_) (fun h393 => absurd (rfl) h393)
          refine tf_goto 1293 d_Law_law_398 rfl ?_
          refine tf_less (kc2 := kc) (ks2 := ks) (by omega) (by omega) ?_
          refine tf_drop [0, 1, 2, 3, 4] rfl ?_
          exact hK (ad) _ _ _ _ _ _ (_) (rfl) (lw_cS (hS) hT) hT.1 (hR) (hou) (by rw [hT.2 ou hno]; exact fou)
      · refine tf_blk _ b_Law_law_317 rfl ?_
        refine tl_sld (fun _ _ h => h.2.1) 324 d_Law_law_323 rfl (hv1) ?_
        refine tf_blk _ b_Law_law_324 rfl ?_
        refine tl_sld (fun _ _ h => h.2.1) 330 d_Law_law_329 rfl (hv2) ?_
        refine tf_blk _ b_Law_law_330 rfl ?_
        refine tl_sld (fun _ _ h => h.2.1) 336 d_Law_law_335 rfl (hv3) ?_
        refine tf_blk _ b_Law_law_336 rfl ?_
        refine tl_sld (fun _ _ h => h.2.1) 342 d_Law_law_341 rfl (hv4) ?_
        refine tf_blk _ b_Law_law_342 rfl ?_
        refine tl_sld (fun _ _ h => h.2.1) 348 d_Law_law_347 rfl (hv5) ?_
        rw [e1]
        refine tf_less (kc2 := kc + (0 + 1)) (ks2 := ks + (0 + 6)) (by omega) (by omega) ?_
        refine tl_cS (tf_gok _ _) tg_EL (fun _ _ h => h.1) (hl_place_x1 l D q (d - 1) _ _ (by omega) (ou := 0) _ _ _ _ _ hx fx (c_Tf_place_m l D q (d - 1 - 1) _ _ hl (by omega) hS hn hgi _ _ _ _ hp hm) (fun _ _ _ z => z) (fun _ _ _ z => z.1)) 351 d_Law_law_348 rfl lk_Law_74 tlw_place (by rfl) sal_place (by omega) (by exact Nat.le_of_ble_eq_true rfl) rfl ?_
        rintro v348 L348 f348 ⟨rfl, -, rfl, rfl⟩
        refine tf_blk _ b_Law_law_351 rfl ?_
        refine tl_sld (fun _ _ h => h.2.1) 360 d_Law_law_359 rfl (hv1) ?_
        refine tf_blk _ b_Law_law_360 rfl ?_
        refine tl_sld (fun _ _ h => h.2.1) 366 d_Law_law_365 rfl (hv2) ?_
        refine tf_blk _ b_Law_law_366 rfl ?_
        refine tl_sld (fun _ _ h => h.2.1) 372 d_Law_law_371 rfl (hv3) ?_
        refine tf_blk _ b_Law_law_372 rfl ?_
        refine tl_sld (fun _ _ h => h.2.1) 378 d_Law_law_377 rfl (hv4) ?_
        refine tf_blk _ b_Law_law_378 rfl ?_
        refine tl_sld (fun _ _ h => h.2.1) 384 d_Law_law_383 rfl (hv5) ?_
        rw [e1]
        refine tf_cV (tf_gok _ _) (c_Mod_place_1 l D q (d - 1) _ _ (by omega) hT (show gi < 40 by omega) _ _ _ _ (fun z => lw_pm hR hm z.2.2.1 z.2.2.2)) 387 d_Law_law_384 rfl lk_Law_77 cw_Mod_place (by rfl) in_Mod_place se_Mod_place (by exact hT.1.1) (by exact hT.1.2.1) (by rfl) (by rfl) (by omega) (by exact Nat.le_of_ble_eq_true rfl) rfl ?_
        rintro v384 L384 f384 ⟨rfl, rfl, hT⟩
        refine tf_blk _ b_Law_law_387 rfl ?_
        refine tf_cV (tf_gok _ _) (c_Mod_thrown l D q (d - 1) _ _ hT) 391 d_Law_law_388 rfl lk_Law_62 cw_Mod_thrown (by rfl) in_Mod_thrown se_Mod_thrown (by exact hT.1.1) (by exact hT.1.2.1) (by rfl) (by rfl) (by omega) (by exact Nat.le_of_ble_eq_true rfl) rfl ?_
        rintro v388 L388 f388 ⟨rfl, rfl, rfl⟩
        refine tf_blk _ b_Law_law_391 rfl ?_
        refine tf_ic_eq 398 396 d_Law_law_393 rfl rfl (fun h393 => ?_) (fun h393 => absurd (rfl) h393)
        refine tf_goto 1293 d_Law_law_398 rfl ?_
        refine tf_less (kc2 := kc) (ks2 := ks) (by omega) (by omega) ?_
        refine tf_drop [0, 1, 2, 3, 4] rfl ?_
        exact hK (ad) _ _ _ _ _ _ (_) (rfl) (lw_cS (hS) hT) hT.1 (hR) (hou) (by rw [hT.2 ou hno]; exact fou)
    · rcases Classical.em (¬ xs (nI i + kI 2).toNatClampNeg < 0 ∧ ¬ xs (nI i + kI 3).toNatClampNeg < 0 ∧ ¬ J 1 ≤ xs (nI i + kI 3).toNatClampNeg) with hb | hb
      · refine tf_blk _ b_Law_law_317 rfl ?_
        refine tl_sld (fun _ _ h => h.2.1) 324 d_Law_law_323 rfl (hv1) ?_
        refine tf_blk _ b_Law_law_324 rfl ?_
        refine tl_sld (fun _ _ h => h.2.1) 330 d_Law_law_329 rfl (hv2) ?_
        refine tf_blk _ b_Law_law_330 rfl ?_
        refine tl_sld (fun _ _ h => h.2.1) 336 d_Law_law_335 rfl (hv3) ?_
        refine tf_blk _ b_Law_law_336 rfl ?_
        refine tl_sld (fun _ _ h => h.2.1) 342 d_Law_law_341 rfl (hv4) ?_
        refine tf_blk _ b_Law_law_342 rfl ?_
        refine tl_sld (fun _ _ h => h.2.1) 348 d_Law_law_347 rfl (hv5) ?_
        rw [e1]
        refine tf_less (kc2 := kc + (0 + 1)) (ks2 := ks + (0 + 6)) (by omega) (by omega) ?_
        refine tl_cS (tf_gok _ _) tg_EL (fun _ _ h => h.1) (hl_place_x1 l D q (d - 1) _ _ (by omega) (ou := 0) _ _ _ _ _ hx fx (c_Tf_place_p l D q (d - 1 - 1) _ _ hl (by omega) hS hn hgi _ _ _ _ hp) (fun _ _ _ z => z) (fun _ _ _ z => z.1)) 351 d_Law_law_348 rfl lk_Law_74 tlw_place (by rfl) sal_place (by omega) (by exact Nat.le_of_ble_eq_true rfl) rfl ?_
        rintro v348 L348 f348 ⟨rfl, -, rfl, rfl⟩
        refine tf_blk _ b_Law_law_351 rfl ?_
        refine tl_sld (fun _ _ h => h.2.1) 360 d_Law_law_359 rfl (hv1) ?_
        refine tf_blk _ b_Law_law_360 rfl ?_
        refine tl_sld (fun _ _ h => h.2.1) 366 d_Law_law_365 rfl (hv2) ?_
        refine tf_blk _ b_Law_law_366 rfl ?_
        refine tl_sld (fun _ _ h => h.2.1) 372 d_Law_law_371 rfl (hv3) ?_
        refine tf_blk _ b_Law_law_372 rfl ?_
        refine tl_sld (fun _ _ h => h.2.1) 378 d_Law_law_377 rfl (hv4) ?_
        refine tf_blk _ b_Law_law_378 rfl ?_
        refine tl_sld (fun _ _ h => h.2.1) 384 d_Law_law_383 rfl (hv5) ?_
        rw [e1]
        refine tf_cV (tf_gok _ _) (c_Mod_place_p l D q (d - 1) _ _ (by omega) hT (show gi < 40 by omega) _ _ _ _ (lw_G hR hgi) hb.1 hb.2.1 hb.2.2 (lw_pp hR hgi hp hb.1)) 387 d_Law_law_384 rfl lk_Law_77 cw_Mod_place (by rfl) in_Mod_place se_Mod_place (by exact hT.1.1) (by exact hT.1.2.1) (by rfl) (by rfl) (by omega) (by exact Nat.le_of_ble_eq_true rfl) rfl ?_
        rintro v384 L384 f384 ⟨rfl, rfl, hT⟩
        refine tf_blk _ b_Law_law_387 rfl ?_
        refine tf_cV (tf_gok _ _) (c_Mod_thrown l D q (d - 1) _ _ hT) 391 d_Law_law_388 rfl lk_Law_62 cw_Mod_thrown (by rfl) in_Mod_thrown se_Mod_thrown (by exact hT.1.1) (by exact hT.1.2.1) (by rfl) (by rfl) (by omega) (by exact Nat.le_of_ble_eq_true rfl) rfl ?_
        rintro v388 L388 f388 ⟨rfl, rfl, rfl⟩
        refine tf_blk _ b_Law_law_391 rfl ?_
        refine tf_ic_eq 398 396 d_Law_law_393 rfl rfl (fun h393 => ?_) (fun h393 => absurd (rfl) h393)
        refine tf_goto 1293 d_Law_law_398 rfl ?_
        refine tf_less (kc2 := kc) (ks2 := ks) (by omega) (by omega) ?_
        refine tf_drop [0, 1, 2, 3, 4] rfl ?_
        exact hK (ad) _ _ _ _ _ _ (_) (rfl) (lw_cS (hS) hT) hT.1 (hR) (hou) (by rw [hT.2 ou hno]; exact fou)
      · refine tf_blk _ b_Law_law_317 rfl ?_
        refine tl_sld (fun _ _ h => h.2.1) 324 d_Law_law_323 rfl (hv1) ?_
        refine tf_blk _ b_Law_law_324 rfl ?_
        refine tl_sld (fun _ _ h => h.2.1) 330 d_Law_law_329 rfl (hv2) ?_
        refine tf_blk _ b_Law_law_330 rfl ?_
        refine tl_sld (fun _ _ h => h.2.1) 336 d_Law_law_335 rfl (hv3) ?_
        refine tf_blk _ b_Law_law_336 rfl ?_
        refine tl_sld (fun _ _ h => h.2.1) 342 d_Law_law_341 rfl (hv4) ?_
        refine tf_blk _ b_Law_law_342 rfl ?_
        refine tl_sld (fun _ _ h => h.2.1) 348 d_Law_law_347 rfl (hv5) ?_
        rw [e1]
        refine tf_less (kc2 := kc + (0 + 1)) (ks2 := ks + (0 + 6)) (by omega) (by omega) ?_
        refine tl_cS (tf_gok _ _) tg_EL (fun _ _ h => h.1) (hl_place_x1 l D q (d - 1) _ _ (by omega) (ou := 0) _ _ _ _ _ hx fx (c_Tf_place_p l D q (d - 1 - 1) _ _ hl (by omega) hS hn hgi _ _ _ _ hp) (fun _ _ _ z => z) (fun _ _ _ z => z.1)) 351 d_Law_law_348 rfl lk_Law_74 tlw_place (by rfl) sal_place (by omega) (by exact Nat.le_of_ble_eq_true rfl) rfl ?_
        rintro v348 L348 f348 ⟨rfl, -, rfl, rfl⟩
        refine tf_blk _ b_Law_law_351 rfl ?_
        refine tl_sld (fun _ _ h => h.2.1) 360 d_Law_law_359 rfl (hv1) ?_
        refine tf_blk _ b_Law_law_360 rfl ?_
        refine tl_sld (fun _ _ h => h.2.1) 366 d_Law_law_365 rfl (hv2) ?_
        refine tf_blk _ b_Law_law_366 rfl ?_
        refine tl_sld (fun _ _ h => h.2.1) 372 d_Law_law_371 rfl (hv3) ?_
        refine tf_blk _ b_Law_law_372 rfl ?_
        refine tl_sld (fun _ _ h => h.2.1) 378 d_Law_law_377 rfl (hv4) ?_
        refine tf_blk _ b_Law_law_378 rfl ?_
        refine tl_sld (fun _ _ h => h.2.1) 384 d_Law_law_383 rfl (hv5) ?_
        rw [e1]
        refine tf_cV (tf_gok _ _) (c_Mod_place_1 l D q (d - 1) _ _ (by omega) hT (show gi < 40 by omega) _ _ _ _ (fun z => hb z.2)) 387 d_Law_law_384 rfl lk_Law_77 cw_Mod_place (by rfl) in_Mod_place se_Mod_place (by exact hT.1.1) (by exact hT.1.2.1) (by rfl) (by rfl) (by omega) (by exact Nat.le_of_ble_eq_true rfl) rfl ?_
        rintro v384 L384 f384 ⟨rfl, rfl, hT⟩
        refine tf_blk _ b_Law_law_387 rfl ?_
        refine tf_cV (tf_gok _ _) (c_Mod_thrown l D q (d - 1) _ _ hT) 391 d_Law_law_388 rfl lk_Law_62 cw_Mod_thrown (by rfl) in_Mod_thrown se_Mod_thrown (by exact hT.1.1) (by exact hT.1.2.1) (by rfl) (by rfl) (by omega) (by exact Nat.le_of_ble_eq_true rfl) rfl ?_
        rintro v388 L388 f388 ⟨rfl, rfl, rfl⟩
        refine tf_blk _ b_Law_law_391 rfl ?_
        refine tf_ic_eq 398 396 d_Law_law_393 rfl rfl (fun h393 => ?_) (fun h393 => absurd (rfl) h393)
        refine tf_goto 1293 d_Law_law_398 rfl ?_
        refine tf_less (kc2 := kc) (ks2 := ks) (by omega) (by omega) ?_
        refine tf_drop [0, 1, 2, 3, 4] rfl ?_
        exact hK (ad) _ _ _ _ _ _ (_) (rfl) (lw_cS (hS) hT) hT.1 (hR) (hou) (by rw [hT.2 ou hno]; exact fou)
  · refine tf_blk _ b_Law_law_317 rfl ?_
    refine tl_sld (fun _ _ h => h.2.1) 324 d_Law_law_323 rfl (hv1) ?_
    refine tf_blk _ b_Law_law_324 rfl ?_
    refine tl_sld (fun _ _ h => h.2.1) 330 d_Law_law_329 rfl (hv2) ?_
    refine tf_blk _ b_Law_law_330 rfl ?_
    refine tl_sld (fun _ _ h => h.2.1) 336 d_Law_law_335 rfl (hv3) ?_
    refine tf_blk _ b_Law_law_336 rfl ?_
    refine tl_sld (fun _ _ h => h.2.1) 342 d_Law_law_341 rfl (hv4) ?_
    refine tf_blk _ b_Law_law_342 rfl ?_
    refine tl_sld (fun _ _ h => h.2.1) 348 d_Law_law_347 rfl (hv5) ?_
    refine tf_less (kc2 := kc + (0 + 1)) (ks2 := ks + (0 + 6)) (by omega) (by omega) ?_
    refine tl_cS (tf_gok _ _) tg_EL (fun _ _ h => h.1) (hl_place_x1 l D q (d - 1) _ _ (by omega) (ou := 0) _ _ _ _ _ hx fx (c_Tf_place_n l D q (d - 1 - 1) _ _ hl (by omega) hS hn hg _ _ _ _) (fun _ _ _ z => z) (fun _ _ _ z => z.1)) 351 d_Law_law_348 rfl lk_Law_74 tlw_place (by rfl) sal_place (by omega) (by exact Nat.le_of_ble_eq_true rfl) rfl ?_
    rintro v348 L348 f348 ⟨rfl, -, rfl, rfl⟩
    refine tf_blk _ b_Law_law_351 rfl ?_
    refine tl_sld (fun _ _ h => h.2.1) 360 d_Law_law_359 rfl (hv1) ?_
    refine tf_blk _ b_Law_law_360 rfl ?_
    refine tl_sld (fun _ _ h => h.2.1) 366 d_Law_law_365 rfl (hv2) ?_
    refine tf_blk _ b_Law_law_366 rfl ?_
    refine tl_sld (fun _ _ h => h.2.1) 372 d_Law_law_371 rfl (hv3) ?_
    refine tf_blk _ b_Law_law_372 rfl ?_
    refine tl_sld (fun _ _ h => h.2.1) 378 d_Law_law_377 rfl (hv4) ?_
    refine tf_blk _ b_Law_law_378 rfl ?_
    refine tl_sld (fun _ _ h => h.2.1) 384 d_Law_law_383 rfl (hv5) ?_
    refine tf_cV (tf_gok _ _) (c_Mod_place_n l D q (d - 1) _ _ (by omega) hT _ _ _ _ _ (lw_Gn hR hg)) 387 d_Law_law_384 rfl lk_Law_77 cw_Mod_place (by rfl) in_Mod_place se_Mod_place (by exact hT.1.1) (by exact hT.1.2.1) (by rfl) (by rfl) (by omega) (by exact Nat.le_of_ble_eq_true rfl) rfl ?_
    rintro v384 L384 f384 ⟨rfl, rfl, hT⟩
    refine tf_blk _ b_Law_law_387 rfl ?_
    refine tf_cV (tf_gok _ _) (c_Mod_thrown l D q (d - 1) _ _ hT) 391 d_Law_law_388 rfl lk_Law_62 cw_Mod_thrown (by rfl) in_Mod_thrown se_Mod_thrown (by exact hT.1.1) (by exact hT.1.2.1) (by rfl) (by rfl) (by omega) (by exact Nat.le_of_ble_eq_true rfl) rfl ?_
    rintro v388 L388 f388 ⟨rfl, rfl, rfl⟩
    refine tf_blk _ b_Law_law_391 rfl ?_
    refine tf_ic_eq 398 396 d_Law_law_393 rfl rfl (fun h393 => ?_) (fun h393 => absurd (rfl) h393)
    refine tf_goto 1293 d_Law_law_398 rfl ?_
    refine tf_less (kc2 := kc) (ks2 := ks) (by omega) (by omega) ?_
    refine tf_drop [0, 1, 2, 3, 4] rfl ?_
    exact hK (ad) _ _ _ _ _ _ (_) (rfl) (lw_cS (hS) hT) hT.1 (hR) (hou) (by rw [hT.2 ou hno]; exact fou)
end
