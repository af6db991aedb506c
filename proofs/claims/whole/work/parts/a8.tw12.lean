/-! the reference: tellContours -/
/-- the outline told so far: x, y, on, contour of each point; how many points, how many contours -/
abbrev tm_OU := (Nat → Int32) × (Nat → Int32) × (Nat → Int32) × (Nat → Int32) × Nat × Nat
def tm_o (J : Nat → Int32) (A : Nat → Nat → Int32) (x : tm_OU) (J2 : Nat → Int32) (A2 : Nat → Nat → Int32) : Prop :=
  (∀ k, k ≠ 23 → k ≠ 24 → k ≠ 27 → k ≠ 28 → J2 k = J k) ∧ J2 23 = nI x.2.2.2.2.1 ∧ J2 24 = nI x.2.2.2.2.2 ∧ (∀ k, k ≠ 19 → k ≠ 20 → k ≠ 21 → k ≠ 22 → A2 k = A k) ∧ A2 19 = x.1 ∧ A2 20 = x.2.1 ∧ A2 21 = x.2.2.1 ∧ A2 22 = x.2.2.2.1
def tm_add (x : tm_OU) (X Y O : Int32) : tm_OU := (upd x.1 x.2.2.2.2.1 X, upd x.2.1 x.2.2.2.2.1 Y, upd x.2.2.1 x.2.2.2.2.1 O, upd x.2.2.2.1 x.2.2.2.2.1 (nI x.2.2.2.2.2), x.2.2.2.2.1 + 1, x.2.2.2.2.2)
def tm_nc (x : tm_OU) : tm_OU := (x.1, x.2.1, x.2.2.1, x.2.2.2.1, x.2.2.2.2.1, x.2.2.2.2.2 + 1)
theorem tm_o_add {J : Nat → Int32} {A : Nat → Nat → Int32} {x : tm_OU} {J2 : Nat → Int32} {A2 : Nat → Nat → Int32} (h : tm_o J A x J2 A2) (hs : x.2.2.2.2.1 < 160) (X Y O : Int32) : tm_o J A (tm_add x X Y O) (upd (upd (upd J2 27 X) 28 Y) 23 (J2 23 + kI 1)) (va_up (va_up (va_up (va_up A2 19 (upd (A2 19) (J2 23).toNatClampNeg X)) 20 (upd (A2 20) (J2 23).toNatClampNeg Y)) 21 (upd (A2 21) (J2 23).toNatClampNeg O)) 22 (upd (A2 22) (J2 23).toNatClampNeg (J2 24))) := by
  obtain ⟨h1, h2, h3, h4, h5, h6, h7, h8⟩ := h
  rw [h2, h3, nI_clamp (by omega), h5, h6, h7, h8]
  refine ⟨fun k k1 k2 k3 k4 => ?_, ?_, ?_, fun k k1 k2 k3 k4 => ?_, rfl, rfl, rfl, rfl⟩
  · rw [show upd (upd (upd J2 27 X) 28 Y) 23 (nI x.2.2.2.2.1 + kI 1) k = J2 k from by simp only [upd, if_neg k1, if_neg k3, if_neg k4]]
    exact h1 k k1 k2 k3 k4
  · exact (nI_succ _).symm
  · exact h3
  · rw [va_up_ne _ _ k4, va_up_ne _ _ k3, va_up_ne _ _ k2, va_up_ne _ _ k1]
    exact h4 k k1 k2 k3 k4
theorem tm_o_nc {J : Nat → Int32} {A : Nat → Nat → Int32} {x : tm_OU} {J2 : Nat → Int32} {A2 : Nat → Nat → Int32} (h : tm_o J A x J2 A2) : tm_o J A (tm_nc x) (upd J2 24 (J2 24 + kI 1)) A2 := by
  obtain ⟨h1, h2, h3, h4, h5, h6, h7, h8⟩ := h
  rw [h3]
  refine ⟨fun k k1 k2 k3 k4 => ?_, h2, (nI_succ _).symm, h4, h5, h6, h7, h8⟩
  rw [show upd J2 24 (nI x.2.2.2.2.2 + kI 1) k = J2 k from if_neg k2]
  exact h1 k k1 k2 k3 k4
theorem tm_btw_J {J J2 : Nat → Int32} (h1 : J2 1 = J 1) (h2 : J2 17 = J 17) (h3 : J2 18 = J 18) (a b c e : Int32) : tm_btw J2 a b c e = tm_btw J a b c e := by
  unfold tm_btw
  rw [h1, h2, h3]
theorem tm_pnt_J {J J2 : Nat → Int32} (h1 : J2 1 = J 1) (h2 : J2 17 = J 17) (h3 : J2 18 = J 18) (g : Nat → Int32) (p : Nat) : tm_pnt J2 g p = tm_pnt J g p := by
  unfold tm_pnt
  rw [tm_btw_J h1 h2 h3, tm_btw_J h1 h2 h3]
def tm_mc (v : Int32) : Int32 := v >>> (kI 1 &&& 31)
def tm_mo (v : Int32) : Int32 := if v &&& kI 1 = kI 1 then kI 1 else kI 0
def tm_ps (g K : Nat) (b : Bool) (k : Nat) : Nat := 40 * g + (if b = true then K - 1 - k else k)
/-- the points of contour c among those from k on, w of them -/
def tm_tck (pt : Nat → Int32 × Int32) (mk : Nat → Int32) (g K : Nat) (b : Bool) (c : Nat) : Nat → Nat → tm_OU → tm_OU
  | 0, _, x => x
  | w + 1, k, x => tm_tck pt mk g K b c w (k + 1) (if tm_mc (mk (tm_ps g K b k)) = nI c then tm_add x (pt (tm_ps g K b k)).1 (pt (tm_ps g K b k)).2 (tm_mo (mk (tm_ps g K b k))) else x)
def tm_tcc (pt : Nat → Int32 × Int32) (mk : Nat → Int32) (g K : Nat) (b : Bool) : Nat → Nat → tm_OU → tm_OU
  | 0, _, x => x
  | w + 1, c, x => tm_tcc pt mk g K b w (c + 1) (tm_nc (tm_tck pt mk g K b c K 0 x))
def tm_bk (tn : Nat → Nat) : Nat → Nat → Bool → Bool
  | 0, _, b => b
  | w + 1, e, b => tm_bk tn w (e + 1) (b != decide (¬ tn e < 4))
theorem tm_tck_le (pt : Nat → Int32 × Int32) (mk : Nat → Int32) (g K : Nat) (b : Bool) (c : Nat) : ∀ w k x, x.2.2.2.2.1 ≤ (tm_tck pt mk g K b c w k x).2.2.2.2.1 := by
  intro w
  induction w with
  | zero => intro k x; exact Nat.le_refl _
  | succ w ih =>
    intro k x
    refine Nat.le_trans ?_ (ih _ _)
    split
    · exact Nat.le_succ _
    · exact Nat.le_refl _
theorem tm_tcc_le (pt : Nat → Int32 × Int32) (mk : Nat → Int32) (g K : Nat) (b : Bool) : ∀ w c x, x.2.2.2.2.1 ≤ (tm_tcc pt mk g K b w c x).2.2.2.2.1 := by
  intro w
  induction w with
  | zero => intro c x; exact Nat.le_refl _
  | succ w ih =>
    intro c x
    exact Nat.le_trans (tm_tck_le pt mk g K b c K 0 x) (ih (c + 1) (tm_nc (tm_tck pt mk g K b c K 0 x)))
/-- the point p of the pile's glyph as it lies in the outline -/
def tm_pp (J : Nat → Int32) (A : Nat → Nat → Int32) (pg np tn : Nat → Nat) (n : Nat) (p : Nat) : Int32 × Int32 := tm_trn (A 14) (A 15) pg np tn n (tm_pnt J (A 3) p)
section
variable (l : Launch) (D : va_G) (q : Nat → ClassId) (d : Nat) (L : List Nat) (f : tf_F) {ad : Nat → Nat} {m : Nat} {W0 : tf_F} {J : Nat → Int32} {A : Nat → Nat → Int32} {R : Nat → Int64}
set_option maxHeartbeats 4000000 in
set_option maxRecDepth 100000 in
theorem t_Mod_tc_k (hd : 4 ≤ d) {QB : tf_B} {kc ks : Nat} {n g K C : Nat} {pg np tn : Nat → Nat} (hn : n ≤ 5) (hg : g < 40) (hK : K ≤ 40) (h6 : A 6 g = nI K) (h7 : A 7 g = nI C) (hC : C ≤ 40) (hP : tm_pl A pg np tn n) {b : Bool} {c : Nat} : ∀ w k (x : tm_OU) (J2 : Nat → Int32) (A2 : Nat → Nat → Int32) (f : tf_F), k + w = K → (tm_tck (tm_pp J A pg np tn n) (A 4) g K b c w k x).2.2.2.2.1 ≤ 160 → tm_at q ad m W0 L J2 A2 R f → tm_o J A x J2 A2 → (∀ (J3 : Nat → Int32) (A3 : Nat → Nat → Int32) (f3 : tf_F), tm_at q ad m W0 L J3 A3 R f3 → tm_o J A (tm_tck (tm_pp J A pg np tn n) (A 4) g K b c w k x) J3 A3 → tf_W l (tf_H D q) tf_T QB d i_Mod_tellContours 225 [(0, .ref m), (1, .int (nI n)), (2, .int (nI g)), (3, .int (bI b)), (4, .int (nI c))] [] L f3 kc ks) → tf_W l (tf_H D q) tf_T QB d i_Mod_tellContours 84 [(0, .ref m), (1, .int (nI n)), (2, .int (nI g)), (3, .int (bI b)), (4, .int (nI c)), (5, .int (nI k))] [] L f kc ks := by
  intro w
  induction w with
  | zero =>
    intro k x J2 A2 f hk hS hT hO hKK
    have a4 : A2 4 = A 4 := hO.2.2.2.1 4 (by decide) (by decide) (by decide) (by decide)
    have a6 : A2 6 g = nI K := by rw [hO.2.2.2.1 6 (by decide) (by decide) (by decide) (by decide)]; exact h6
    have hgv : vp_in (nI g) 40 := vp_in_nI (by omega) (by omega)
    have hgc : (nI g).toNatClampNeg = g := nI_clamp (by omega)
    refine tf_blk _ b_Mod_tellContours_84 rfl ?_
    refine tm_get 90 d_Mod_tellContours_87 rfl fl_Mod_20 hT rfl ?_
    refine tf_blk _ b_Mod_tellContours_90 rfl ?_
    refine tm_iald _ 92 d_Mod_tellContours_91 rfl hT rfl (hgv) ?_
    rw [hgc, a6]
    refine tf_ic_ge 225 95 d_Mod_tellContours_92 rfl rfl (fun h92 => ?_) (fun h92 => absurd (nI_le (by omega) (by omega)) h92)
    refine tf_drop [0, 1, 2, 3, 4] rfl ?_
    exact hKK _ _ _ hT hO
  | succ w ih =>
    intro k x J2 A2 f hk hS hT hO hKK
    have a4 : A2 4 = A 4 := hO.2.2.2.1 4 (by decide) (by decide) (by decide) (by decide)
    have a6 : A2 6 g = nI K := by rw [hO.2.2.2.1 6 (by decide) (by decide) (by decide) (by decide)]; exact h6
    have hgv : vp_in (nI g) 40 := vp_in_nI (by omega) (by omega)
    have hgc : (nI g).toNatClampNeg = g := nI_clamp (by omega)
    have a16 : A2 16 = A 16 := hO.2.2.2.1 16 (by decide) (by decide) (by decide) (by decide)
    have a25 : A2 25 = A 25 := hO.2.2.2.1 25 (by decide) (by decide) (by decide) (by decide)
    have a26 : A2 26 = A 26 := hO.2.2.2.1 26 (by decide) (by decide) (by decide) (by decide)
    have hP2 : tm_pl A2 pg np tn n := fun e he => by rw [a25, a26, a16]; exact hP e he
    have hpt : tm_trn (A2 14) (A2 15) pg np tn n (tm_pnt J2 (A2 3) (tm_ps g K b k)) = tm_pp J A pg np tn n (tm_ps g K b k) := by
      rw [hO.2.2.2.1 14 (by decide) (by decide) (by decide) (by decide), hO.2.2.2.1 15 (by decide) (by decide) (by decide) (by decide), hO.2.2.2.1 3 (by decide) (by decide) (by decide) (by decide), tm_pnt_J (hO.1 1 (by decide) (by decide) (by decide) (by decide)) (hO.1 17 (by decide) (by decide) (by decide) (by decide)) (hO.1 18 (by decide) (by decide) (by decide) (by decide))]
      rfl
    have hle := tm_tck_le (tm_pp J A pg np tn n) (A 4) g K b c w (k + 1)
    have hst : tm_tck (tm_pp J A pg np tn n) (A 4) g K b c (w + 1) k x = tm_tck (tm_pp J A pg np tn n) (A 4) g K b c w (k + 1) (if tm_mc (A 4 (tm_ps g K b k)) = nI c then tm_add x (tm_pp J A pg np tn n (tm_ps g K b k)).1 (tm_pp J A pg np tn n (tm_ps g K b k)).2 (tm_mo (A 4 (tm_ps g K b k))) else x) := rfl
    rw [hst] at hS hKK
    generalize hps : tm_ps g K b k = p at hpt hS hKK
    have hp : p < 1600 := by
      rw [← hps]
      unfold tm_ps
      split <;> omega
    have hpv : vp_in (nI p) 1600 := vp_in_nI hp (by omega)
    have hpc : (nI p).toNatClampNeg = p := nI_clamp (by omega)
    by_cases hb : b = true
    · have e0 : kI 40 * nI g + (nI K - kI 1 - nI k) = nI p := by
        rw [← hps, tm_ps, if_pos hb, show kI 40 = nI 40 from rfl, show kI 1 = nI 1 from rfl, nI_subI (by omega), nI_subI (by omega), nI_mul, nI_add]
      by_cases hm : tm_mc (A 4 p) = nI c
      · have hsv : vp_in (J2 23) 160 := by
          rw [hO.2.1]
          have h8 := hle (tm_add x (tm_pp J A pg np tn n p).1 (tm_pp J A pg np tn n p).2 (tm_mo (A 4 p)))
          rw [if_pos hm] at hS
          have h7 : x.2.2.2.2.1 + 1 ≤ _ := h8
          exact vp_in_nI (by omega) (by omega)
        by_cases ho : A 4 p &&& kI 1 = kI 1
        · have ho2 : A2 4 p &&& kI 1 = kI 1 := by rw [a4]; exact ho
          refine tf_blk _ b_Mod_tellContours_84 rfl ?_
          refine tm_get 90 d_Mod_tellContours_87 rfl fl_Mod_20 hT rfl ?_
          refine tf_blk _ b_Mod_tellContours_90 rfl ?_
          refine tm_iald _ 92 d_Mod_tellContours_91 rfl hT rfl (hgv) ?_
          rw [hgc, a6]
          refine tf_ic_ge 225 95 d_Mod_tellContours_92 rfl rfl (fun h92 => absurd h92 (nI_ge (by omega) (by omega))) (fun h92 => ?_)
          refine tf_blk _ b_Mod_tellContours_95 rfl ?_
          refine tf_if_eq 117 103 d_Mod_tellContours_100 rfl rfl (fun h100 => absurd h100 (by rw [hb]; decide)) (fun h100 => ?_)
          refine tf_blk _ b_Mod_tellContours_103 rfl ?_
          refine tm_get 107 d_Mod_tellContours_104 rfl fl_Mod_20 hT rfl ?_
          refine tf_blk _ b_Mod_tellContours_107 rfl ?_
          refine tm_iald _ 109 d_Mod_tellContours_108 rfl hT rfl (hgv) ?_
          rw [hgc, a6]
          refine tf_blk _ b_Mod_tellContours_109 rfl ?_
          refine tf_goto 119 d_Mod_tellContours_114 rfl ?_
          refine tf_blk _ b_Mod_tellContours_119 rfl ?_
          refine tm_get 126 d_Mod_tellContours_123 rfl fl_Mod_13 hT rfl ?_
          rw [e0]
          refine tf_blk _ b_Mod_tellContours_126 rfl ?_
          first | refine tm_zald _ 129 d_Mod_tellContours_128 rfl hT rfl (hpv) ?_ | refine tm_bald _ 129 d_Mod_tellContours_128 rfl hT rfl (hpv) ?_
          rw [hpc, a4]
          refine tf_blk _ b_Mod_tellContours_129 rfl ?_
          refine tf_ic_ne 219 136 d_Mod_tellContours_133 rfl rfl (fun h133 => absurd h133 (not_not_intro hm)) (fun h133 => ?_)
          refine tf_blk _ b_Mod_tellContours_136 rfl ?_
          refine tf_cV (tf_gok _ _) (c_Mod_turnPoint l D q (d - 1) _ _ (by omega) hT hp hn hP2) 143 d_Mod_tellContours_140 rfl lk_Mod_183 cw_Mod_turnPoint (by rfl) in_Mod_turnPoint se_Mod_turnPoint (by exact hT.1.1) (by exact hT.1.2.1) (by rfl) (by rfl) (by omega) (by exact Nat.le_of_ble_eq_true rfl) rfl ?_
          rintro v140 L140 f140 ⟨rfl, rfl, hT⟩
          rw [hpt] at hT
          refine tf_blk _ b_Mod_tellContours_143 rfl ?_
          refine tm_get 147 d_Mod_tellContours_144 rfl fl_Mod_54 hT rfl ?_
          refine tf_blk _ b_Mod_tellContours_147 rfl ?_
          refine tm_get 151 d_Mod_tellContours_148 rfl fl_Mod_187 hT rfl ?_
          refine tf_blk _ b_Mod_tellContours_151 rfl ?_
          refine tm_get 155 d_Mod_tellContours_152 rfl fl_Mod_177 hT rfl ?_
          refine tm_iast _ 156 d_Mod_tellContours_155 rfl hT rfl (by exact hsv) (fun f hT => ?_)
          refine tf_blk _ b_Mod_tellContours_156 rfl ?_
          refine tm_get 160 d_Mod_tellContours_157 rfl fl_Mod_57 hT rfl ?_
          refine tf_blk _ b_Mod_tellContours_160 rfl ?_
          refine tm_get 164 d_Mod_tellContours_161 rfl fl_Mod_187 hT rfl ?_
          refine tf_blk _ b_Mod_tellContours_164 rfl ?_
          refine tm_get 168 d_Mod_tellContours_165 rfl fl_Mod_180 hT rfl ?_
          refine tm_iast _ 169 d_Mod_tellContours_168 rfl hT rfl (by exact hsv) (fun f hT => ?_)
          refine tf_blk _ b_Mod_tellContours_169 rfl ?_
          refine tm_get 173 d_Mod_tellContours_170 rfl fl_Mod_60 hT rfl ?_
          refine tf_blk _ b_Mod_tellContours_173 rfl ?_
          refine tm_get 177 d_Mod_tellContours_174 rfl fl_Mod_187 hT rfl ?_
          refine tf_blk _ b_Mod_tellContours_177 rfl ?_
          refine tm_get 181 d_Mod_tellContours_178 rfl fl_Mod_13 hT rfl ?_
          refine tf_blk _ b_Mod_tellContours_181 rfl ?_
          first | refine tm_zald _ 184 d_Mod_tellContours_183 rfl hT rfl (hpv) ?_ | refine tm_bald _ 184 d_Mod_tellContours_183 rfl hT rfl (hpv) ?_
          rw [hpc]
          refine tf_blk _ b_Mod_tellContours_184 rfl ?_
          refine tf_ic_ne 194 190 d_Mod_tellContours_187 rfl rfl (fun h187 => absurd h187 (not_not_intro ho2)) (fun h187 => ?_)
          refine tf_blk _ b_Mod_tellContours_190 rfl ?_
          refine tf_goto 195 d_Mod_tellContours_191 rfl ?_
          first | refine tm_zast _ 196 d_Mod_tellContours_195 rfl hT rfl (by exact hsv) (fun f hT => ?_) | refine tm_bast _ 196 d_Mod_tellContours_195 rfl hT rfl (by exact hsv) (fun f hT => ?_)
          refine tf_blk _ b_Mod_tellContours_196 rfl ?_
          refine tm_get 200 d_Mod_tellContours_197 rfl fl_Mod_63 hT rfl ?_
          refine tf_blk _ b_Mod_tellContours_200 rfl ?_
          refine tm_get 204 d_Mod_tellContours_201 rfl fl_Mod_187 hT rfl ?_
          refine tf_blk _ b_Mod_tellContours_204 rfl ?_
          refine tm_get 208 d_Mod_tellContours_205 rfl fl_Mod_190 hT rfl ?_
          refine tm_iast _ 209 d_Mod_tellContours_208 rfl hT rfl (by exact hsv) (fun f hT => ?_)
          refine tf_blk _ b_Mod_tellContours_209 rfl ?_
          refine tm_get 214 d_Mod_tellContours_211 rfl fl_Mod_187 hT rfl ?_
          refine tf_blk _ b_Mod_tellContours_214 rfl ?_
          refine tm_put 219 d_Mod_tellContours_216 rfl fw_Mod_187 hT (by decide) rfl rfl rfl (fun f hT => ?_)
          refine tf_blk _ b_Mod_tellContours_219 rfl ?_
          refine tf_goto 84 d_Mod_tellContours_222 rfl ?_
          refine tf_drop [0, 1, 2, 3, 4, 5] rfl ?_
          rw [if_pos hm] at hS hKK
          have h160 : x.2.2.2.2.1 < 160 := by
            have h8 := hle (tm_add x (tm_pp J A pg np tn n p).1 (tm_pp J A pg np tn n p).2 (tm_mo (A 4 p)))
            have h7 : x.2.2.2.2.1 + 1 ≤ _ := h8
            omega
          rw [show tm_mo (A 4 p) = kI 1 from if_pos ho] at hS hKK
          have h9 := ih (k + 1) _ _ _ _ (by omega) hS hT (tm_o_add hO h160 _ _ _) hKK
          rw [show nI (k + 1) = nI k + 1 from nI_succ k] at h9
          exact h9
        have ho2 : ¬ A2 4 p &&& kI 1 = kI 1 := by rw [a4]; exact ho
        refine tf_blk _ b_Mod_tellContours_84 rfl ?_
        refine tm_get 90 d_Mod_tellContours_87 rfl fl_Mod_20 hT rfl ?_
        refine tf_blk _ b_Mod_tellContours_90 rfl ?_
        refine tm_iald _ 92 d_Mod_tellContours_91 rfl hT rfl (hgv) ?_
        rw [hgc, a6]
        refine tf_ic_ge 225 95 d_Mod_tellContours_92 rfl rfl (fun h92 => absurd h92 (nI_ge (by omega) (by omega))) (fun h92 => ?_)
        refine tf_blk _ b_Mod_tellContours_95 rfl ?_
        refine tf_if_eq 117 103 d_Mod_tellContours_100 rfl rfl (fun h100 => absurd h100 (by rw [hb]; decide)) (fun h100 => ?_)
        refine tf_blk _ b_Mod_tellContours_103 rfl ?_
        refine tm_get 107 d_Mod_tellContours_104 rfl fl_Mod_20 hT rfl ?_
        refine tf_blk _ b_Mod_tellContours_107 rfl ?_
        refine tm_iald _ 109 d_Mod_tellContours_108 rfl hT rfl (hgv) ?_
        rw [hgc, a6]
        refine tf_blk _ b_Mod_tellContours_109 rfl ?_
        refine tf_goto 119 d_Mod_tellContours_114 rfl ?_
        refine tf_blk _ b_Mod_tellContours_119 rfl ?_
        refine tm_get 126 d_Mod_tellContours_123 rfl fl_Mod_13 hT rfl ?_
        rw [e0]
        refine tf_blk _ b_Mod_tellContours_126 rfl ?_
        first | refine tm_zald _ 129 d_Mod_tellContours_128 rfl hT rfl (hpv) ?_ | refine tm_bald _ 129 d_Mod_tellContours_128 rfl hT rfl (hpv) ?_
        rw [hpc, a4]
        refine tf_blk _ b_Mod_tellContours_129 rfl ?_
        refine tf_ic_ne 219 136 d_Mod_tellContours_133 rfl rfl (fun h133 => absurd h133 (not_not_intro hm)) (fun h133 => ?_)
        refine tf_blk _ b_Mod_tellContours_136 rfl ?_
        refine tf_cV (tf_gok _ _) (c_Mod_turnPoint l D q (d - 1) _ _ (by omega) hT hp hn hP2) 143 d_Mod_tellContours_140 rfl lk_Mod_183 cw_Mod_turnPoint (by rfl) in_Mod_turnPoint se_Mod_turnPoint (by exact hT.1.1) (by exact hT.1.2.1) (by rfl) (by rfl) (by omega) (by exact Nat.le_of_ble_eq_true rfl) rfl ?_
        rintro v140 L140 f140 ⟨rfl, rfl, hT⟩
        rw [hpt] at hT
        refine tf_blk _ b_Mod_tellContours_143 rfl ?_
        refine tm_get 147 d_Mod_tellContours_144 rfl fl_Mod_54 hT rfl ?_
        refine tf_blk _ b_Mod_tellContours_147 rfl ?_
        refine tm_get 151 d_Mod_tellContours_148 rfl fl_Mod_187 hT rfl ?_
        refine tf_blk _ b_Mod_tellContours_151 rfl ?_
        refine tm_get 155 d_Mod_tellContours_152 rfl fl_Mod_177 hT rfl ?_
        refine tm_iast _ 156 d_Mod_tellContours_155 rfl hT rfl (by exact hsv) (fun f hT => ?_)
        refine tf_blk _ b_Mod_tellContours_156 rfl ?_
        refine tm_get 160 d_Mod_tellContours_157 rfl fl_Mod_57 hT rfl ?_
        refine tf_blk _ b_Mod_tellContours_160 rfl ?_
        refine tm_get 164 d_Mod_tellContours_161 rfl fl_Mod_187 hT rfl ?_
        refine tf_blk _ b_Mod_tellContours_164 rfl ?_
        refine tm_get 168 d_Mod_tellContours_165 rfl fl_Mod_180 hT rfl ?_
        refine tm_iast _ 169 d_Mod_tellContours_168 rfl hT rfl (by exact hsv) (fun f hT => ?_)
        refine tf_blk _ b_Mod_tellContours_169 rfl ?_
        refine tm_get 173 d_Mod_tellContours_170 rfl fl_Mod_60 hT rfl ?_
        refine tf_blk _ b_Mod_tellContours_173 rfl ?_
        refine tm_get 177 d_Mod_tellContours_174 rfl fl_Mod_187 hT rfl ?_
        refine tf_blk _ b_Mod_tellContours_177 rfl ?_
        refine tm_get 181 d_Mod_tellContours_178 rfl fl_Mod_13 hT rfl ?_
        refine tf_blk _ b_Mod_tellContours_181 rfl ?_
        first | refine tm_zald _ 184 d_Mod_tellContours_183 rfl hT rfl (hpv) ?_ | refine tm_bald _ 184 d_Mod_tellContours_183 rfl hT rfl (hpv) ?_
        rw [hpc]
        refine tf_blk _ b_Mod_tellContours_184 rfl ?_
        refine tf_ic_ne 194 190 d_Mod_tellContours_187 rfl rfl (fun h187 => ?_) (fun h187 => absurd h187 (ho2))
        refine tf_blk _ b_Mod_tellContours_194 rfl ?_
        first | refine tm_zast _ 196 d_Mod_tellContours_195 rfl hT rfl (by exact hsv) (fun f hT => ?_) | refine tm_bast _ 196 d_Mod_tellContours_195 rfl hT rfl (by exact hsv) (fun f hT => ?_)
        refine tf_blk _ b_Mod_tellContours_196 rfl ?_
        refine tm_get 200 d_Mod_tellContours_197 rfl fl_Mod_63 hT rfl ?_
        refine tf_blk _ b_Mod_tellContours_200 rfl ?_
        refine tm_get 204 d_Mod_tellContours_201 rfl fl_Mod_187 hT rfl ?_
        refine tf_blk _ b_Mod_tellContours_204 rfl ?_
        refine tm_get 208 d_Mod_tellContours_205 rfl fl_Mod_190 hT rfl ?_
        refine tm_iast _ 209 d_Mod_tellContours_208 rfl hT rfl (by exact hsv) (fun f hT => ?_)
        refine tf_blk _ b_Mod_tellContours_209 rfl ?_
        refine tm_get 214 d_Mod_tellContours_211 rfl fl_Mod_187 hT rfl ?_
        refine tf_blk _ b_Mod_tellContours_214 rfl ?_
        refine tm_put 219 d_Mod_tellContours_216 rfl fw_Mod_187 hT (by decide) rfl rfl rfl (fun f hT => ?_)
        refine tf_blk _ b_Mod_tellContours_219 rfl ?_
        refine tf_goto 84 d_Mod_tellContours_222 rfl ?_
        refine tf_drop [0, 1, 2, 3, 4, 5] rfl ?_
        rw [if_pos hm] at hS hKK
        have h160 : x.2.2.2.2.1 < 160 := by
          have h8 := hle (tm_add x (tm_pp J A pg np tn n p).1 (tm_pp J A pg np tn n p).2 (tm_mo (A 4 p)))
          have h7 : x.2.2.2.2.1 + 1 ≤ _ := h8
          omega
        rw [show tm_mo (A 4 p) = kI 0 from if_neg ho] at hS hKK
        have h9 := ih (k + 1) _ _ _ _ (by omega) hS hT (tm_o_add hO h160 _ _ _) hKK
        rw [show nI (k + 1) = nI k + 1 from nI_succ k] at h9
        exact h9
      refine tf_blk _ b_Mod_tellContours_84 rfl ?_
      refine tm_get 90 d_Mod_tellContours_87 rfl fl_Mod_20 hT rfl ?_
      refine tf_blk _ b_Mod_tellContours_90 rfl ?_
      refine tm_iald _ 92 d_Mod_tellContours_91 rfl hT rfl (hgv) ?_
      rw [hgc, a6]
      refine tf_ic_ge 225 95 d_Mod_tellContours_92 rfl rfl (fun h92 => absurd h92 (nI_ge (by omega) (by omega))) (fun h92 => ?_)
      refine tf_blk _ b_Mod_tellContours_95 rfl ?_
      refine tf_if_eq 117 103 d_Mod_tellContours_100 rfl rfl (fun h100 => absurd h100 (by rw [hb]; decide)) (fun h100 => ?_)
      refine tf_blk _ b_Mod_tellContours_103 rfl ?_
      refine tm_get 107 d_Mod_tellContours_104 rfl fl_Mod_20 hT rfl ?_
      refine tf_blk _ b_Mod_tellContours_107 rfl ?_
      refine tm_iald _ 109 d_Mod_tellContours_108 rfl hT rfl (hgv) ?_
      rw [hgc, a6]
      refine tf_blk _ b_Mod_tellContours_109 rfl ?_
      refine tf_goto 119 d_Mod_tellContours_114 rfl ?_
      refine tf_blk _ b_Mod_tellContours_119 rfl ?_
      refine tm_get 126 d_Mod_tellContours_123 rfl fl_Mod_13 hT rfl ?_
      rw [e0]
      refine tf_blk _ b_Mod_tellContours_126 rfl ?_
      first | refine tm_zald _ 129 d_Mod_tellContours_128 rfl hT rfl (hpv) ?_ | refine tm_bald _ 129 d_Mod_tellContours_128 rfl hT rfl (hpv) ?_
      rw [hpc, a4]
      refine tf_blk _ b_Mod_tellContours_129 rfl ?_
      refine tf_ic_ne 219 136 d_Mod_tellContours_133 rfl rfl (fun h133 => ?_) (fun h133 => absurd h133 (hm))
      refine tf_blk _ b_Mod_tellContours_219 rfl ?_
      refine tf_goto 84 d_Mod_tellContours_222 rfl ?_
      refine tf_drop [0, 1, 2, 3, 4, 5] rfl ?_
      rw [if_neg hm] at hS hKK
      have h9 := ih (k + 1) x _ _ _ (by omega) hS hT hO hKK
      rw [show nI (k + 1) = nI k + 1 from nI_succ k] at h9
      exact h9
    have hb : b = false := by cases b with | false => rfl | true => exact absurd rfl hb
    have e0 : kI 40 * nI g + nI k = nI p := by
      rw [← hps, tm_ps, if_neg (by rw [hb]; decide), show kI 40 = nI 40 from rfl, nI_mul, nI_add]
    by_cases hm : tm_mc (A 4 p) = nI c
    · have hsv : vp_in (J2 23) 160 := by
        rw [hO.2.1]
        have h8 := hle (tm_add x (tm_pp J A pg np tn n p).1 (tm_pp J A pg np tn n p).2 (tm_mo (A 4 p)))
        rw [if_pos hm] at hS
        have h7 : x.2.2.2.2.1 + 1 ≤ _ := h8
        exact vp_in_nI (by omega) (by omega)
      by_cases ho : A 4 p &&& kI 1 = kI 1
      · have ho2 : A2 4 p &&& kI 1 = kI 1 := by rw [a4]; exact ho
        refine tf_blk _ b_Mod_tellContours_84 rfl ?_
        refine tm_get 90 d_Mod_tellContours_87 rfl fl_Mod_20 hT rfl ?_
        refine tf_blk _ b_Mod_tellContours_90 rfl ?_
        refine tm_iald _ 92 d_Mod_tellContours_91 rfl hT rfl (hgv) ?_
        rw [hgc, a6]
        refine tf_ic_ge 225 95 d_Mod_tellContours_92 rfl rfl (fun h92 => absurd h92 (nI_ge (by omega) (by omega))) (fun h92 => ?_)
        refine tf_blk _ b_Mod_tellContours_95 rfl ?_
        refine tf_if_eq 117 103 d_Mod_tellContours_100 rfl rfl (fun h100 => ?_) (fun h100 => absurd (by rw [hb]; rfl) h100)
        refine tf_blk _ b_Mod_tellContours_117 rfl ?_
        refine tf_blk _ b_Mod_tellContours_119 rfl ?_
        refine tm_get 126 d_Mod_tellContours_123 rfl fl_Mod_13 hT rfl ?_
        rw [e0]
        refine tf_blk _ b_Mod_tellContours_126 rfl ?_
        first | refine tm_zald _ 129 d_Mod_tellContours_128 rfl hT rfl (hpv) ?_ | refine tm_bald _ 129 d_Mod_tellContours_128 rfl hT rfl (hpv) ?_
        rw [hpc, a4]
        refine tf_blk _ b_Mod_tellContours_129 rfl ?_
        refine tf_ic_ne 219 136 d_Mod_tellContours_133 rfl rfl (fun h133 => absurd h133 (not_not_intro hm)) (fun h133 => ?_)
        refine tf_blk _ b_Mod_tellContours_136 rfl ?_
        refine tf_cV (tf_gok _ _) (c_Mod_turnPoint l D q (d - 1) _ _ (by omega) hT hp hn hP2) 143 d_Mod_tellContours_140 rfl lk_Mod_183 cw_Mod_turnPoint (by rfl) in_Mod_turnPoint se_Mod_turnPoint (by exact hT.1.1) (by exact hT.1.2.1) (by rfl) (by rfl) (by omega) (by exact Nat.le_of_ble_eq_true rfl) rfl ?_
        rintro v140 L140 f140 ⟨rfl, rfl, hT⟩
        rw [hpt] at hT
        refine tf_blk _ b_Mod_tellContours_143 rfl ?_
        refine tm_get 147 d_Mod_tellContours_144 rfl fl_Mod_54 hT rfl ?_
        refine tf_blk _ b_Mod_tellContours_147 rfl ?_
        refine tm_get 151 d_Mod_tellContours_148 rfl fl_Mod_187 hT rfl ?_
        refine tf_blk _ b_Mod_tellContours_151 rfl ?_
        refine tm_get 155 d_Mod_tellContours_152 rfl fl_Mod_177 hT rfl ?_
        refine tm_iast _ 156 d_Mod_tellContours_155 rfl hT rfl (by exact hsv) (fun f hT => ?_)
        refine tf_blk _ b_Mod_tellContours_156 rfl ?_
        refine tm_get 160 d_Mod_tellContours_157 rfl fl_Mod_57 hT rfl ?_
        refine tf_blk _ b_Mod_tellContours_160 rfl ?_
        refine tm_get 164 d_Mod_tellContours_161 rfl fl_Mod_187 hT rfl ?_
        refine tf_blk _ b_Mod_tellContours_164 rfl ?_
        refine tm_get 168 d_Mod_tellContours_165 rfl fl_Mod_180 hT rfl ?_
        refine tm_iast _ 169 d_Mod_tellContours_168 rfl hT rfl (by exact hsv) (fun f hT => ?_)
        refine tf_blk _ b_Mod_tellContours_169 rfl ?_
        refine tm_get 173 d_Mod_tellContours_170 rfl fl_Mod_60 hT rfl ?_
        refine tf_blk _ b_Mod_tellContours_173 rfl ?_
        refine tm_get 177 d_Mod_tellContours_174 rfl fl_Mod_187 hT rfl ?_
        refine tf_blk _ b_Mod_tellContours_177 rfl ?_
        refine tm_get 181 d_Mod_tellContours_178 rfl fl_Mod_13 hT rfl ?_
        refine tf_blk _ b_Mod_tellContours_181 rfl ?_
        first | refine tm_zald _ 184 d_Mod_tellContours_183 rfl hT rfl (hpv) ?_ | refine tm_bald _ 184 d_Mod_tellContours_183 rfl hT rfl (hpv) ?_
        rw [hpc]
        refine tf_blk _ b_Mod_tellContours_184 rfl ?_
        refine tf_ic_ne 194 190 d_Mod_tellContours_187 rfl rfl (fun h187 => absurd h187 (not_not_intro ho2)) (fun h187 => ?_)
        refine tf_blk _ b_Mod_tellContours_190 rfl ?_
        refine tf_goto 195 d_Mod_tellContours_191 rfl ?_
        first | refine tm_zast _ 196 d_Mod_tellContours_195 rfl hT rfl (by exact hsv) (fun f hT => ?_) | refine tm_bast _ 196 d_Mod_tellContours_195 rfl hT rfl (by exact hsv) (fun f hT => ?_)
        refine tf_blk _ b_Mod_tellContours_196 rfl ?_
        refine tm_get 200 d_Mod_tellContours_197 rfl fl_Mod_63 hT rfl ?_
        refine tf_blk _ b_Mod_tellContours_200 rfl ?_
        refine tm_get 204 d_Mod_tellContours_201 rfl fl_Mod_187 hT rfl ?_
        refine tf_blk _ b_Mod_tellContours_204 rfl ?_
        refine tm_get 208 d_Mod_tellContours_205 rfl fl_Mod_190 hT rfl ?_
        refine tm_iast _ 209 d_Mod_tellContours_208 rfl hT rfl (by exact hsv) (fun f hT => ?_)
        refine tf_blk _ b_Mod_tellContours_209 rfl ?_
        refine tm_get 214 d_Mod_tellContours_211 rfl fl_Mod_187 hT rfl ?_
        refine tf_blk _ b_Mod_tellContours_214 rfl ?_
        refine tm_put 219 d_Mod_tellContours_216 rfl fw_Mod_187 hT (by decide) rfl rfl rfl (fun f hT => ?_)
        refine tf_blk _ b_Mod_tellContours_219 rfl ?_
        refine tf_goto 84 d_Mod_tellContours_222 rfl ?_
        refine tf_drop [0, 1, 2, 3, 4, 5] rfl ?_
        rw [if_pos hm] at hS hKK
        have h160 : x.2.2.2.2.1 < 160 := by
          have h8 := hle (tm_add x (tm_pp J A pg np tn n p).1 (tm_pp J A pg np tn n p).2 (tm_mo (A 4 p)))
          have h7 : x.2.2.2.2.1 + 1 ≤ _ := h8
          omega
        rw [show tm_mo (A 4 p) = kI 1 from if_pos ho] at hS hKK
        have h9 := ih (k + 1) _ _ _ _ (by omega) hS hT (tm_o_add hO h160 _ _ _) hKK
        rw [show nI (k + 1) = nI k + 1 from nI_succ k] at h9
        exact h9
      have ho2 : ¬ A2 4 p &&& kI 1 = kI 1 := by rw [a4]; exact ho
      refine tf_blk _ b_Mod_tellContours_84 rfl ?_
      refine tm_get 90 d_Mod_tellContours_87 rfl fl_Mod_20 hT rfl ?_
      refine tf_blk _ b_Mod_tellContours_90 rfl ?_
      refine tm_iald _ 92 d_Mod_tellContours_91 rfl hT rfl (hgv) ?_
      rw [hgc, a6]
      refine tf_ic_ge 225 95 d_Mod_tellContours_92 rfl rfl (fun h92 => absurd h92 (nI_ge (by omega) (by omega))) (fun h92 => ?_)
      refine tf_blk _ b_Mod_tellContours_95 rfl ?_
      refine tf_if_eq 117 103 d_Mod_tellContours_100 rfl rfl (fun h100 => ?_) (fun h100 => absurd (by rw [hb]; rfl) h100)
      refine tf_blk _ b_Mod_tellContours_117 rfl ?_
      refine tf_blk _ b_Mod_tellContours_119 rfl ?_
      refine tm_get 126 d_Mod_tellContours_123 rfl fl_Mod_13 hT rfl ?_
      rw [e0]
      refine tf_blk _ b_Mod_tellContours_126 rfl ?_
      first | refine tm_zald _ 129 d_Mod_tellContours_128 rfl hT rfl (hpv) ?_ | refine tm_bald _ 129 d_Mod_tellContours_128 rfl hT rfl (hpv) ?_
      rw [hpc, a4]
      refine tf_blk _ b_Mod_tellContours_129 rfl ?_
      refine tf_ic_ne 219 136 d_Mod_tellContours_133 rfl rfl (fun h133 => absurd h133 (not_not_intro hm)) (fun h133 => ?_)
      refine tf_blk _ b_Mod_tellContours_136 rfl ?_
      refine tf_cV (tf_gok _ _) (c_Mod_turnPoint l D q (d - 1) _ _ (by omega) hT hp hn hP2) 143 d_Mod_tellContours_140 rfl lk_Mod_183 cw_Mod_turnPoint (by rfl) in_Mod_turnPoint se_Mod_turnPoint (by exact hT.1.1) (by exact hT.1.2.1) (by rfl) (by rfl) (by omega) (by exact Nat.le_of_ble_eq_true rfl) rfl ?_
      rintro v140 L140 f140 ⟨rfl, rfl, hT⟩
      rw [hpt] at hT
      refine tf_blk _ b_Mod_tellContours_143 rfl ?_
      refine tm_get 147 d_Mod_tellContours_144 rfl fl_Mod_54 hT rfl ?_
      refine tf_blk _ b_Mod_tellContours_147 rfl ?_
      refine tm_get 151 d_Mod_tellContours_148 rfl fl_Mod_187 hT rfl ?_
      refine tf_blk _ b_Mod_tellContours_151 rfl ?_
      refine tm_get 155 d_Mod_tellContours_152 rfl fl_Mod_177 hT rfl ?_
      refine tm_iast _ 156 d_Mod_tellContours_155 rfl hT rfl (by exact hsv) (fun f hT => ?_)
      refine tf_blk _ b_Mod_tellContours_156 rfl ?_
      refine tm_get 160 d_Mod_tellContours_157 rfl fl_Mod_57 hT rfl ?_
      refine tf_blk _ b_Mod_tellContours_160 rfl ?_
      refine tm_get 164 d_Mod_tellContours_161 rfl fl_Mod_187 hT rfl ?_
      refine tf_blk _ b_Mod_tellContours_164 rfl ?_
      refine tm_get 168 d_Mod_tellContours_165 rfl fl_Mod_180 hT rfl ?_
      refine tm_iast _ 169 d_Mod_tellContours_168 rfl hT rfl (by exact hsv) (fun f hT => ?_)
      refine tf_blk _ b_Mod_tellContours_169 rfl ?_
      refine tm_get 173 d_Mod_tellContours_170 rfl fl_Mod_60 hT rfl ?_
      refine tf_blk _ b_Mod_tellContours_173 rfl ?_
      refine tm_get 177 d_Mod_tellContours_174 rfl fl_Mod_187 hT rfl ?_
      refine tf_blk _ b_Mod_tellContours_177 rfl ?_
      refine tm_get 181 d_Mod_tellContours_178 rfl fl_Mod_13 hT rfl ?_
      refine tf_blk _ b_Mod_tellContours_181 rfl ?_
      first | refine tm_zald _ 184 d_Mod_tellContours_183 rfl hT rfl (hpv) ?_ | refine tm_bald _ 184 d_Mod_tellContours_183 rfl hT rfl (hpv) ?_
      rw [hpc]
      refine tf_blk _ b_Mod_tellContours_184 rfl ?_
      refine tf_ic_ne 194 190 d_Mod_tellContours_187 rfl rfl (fun h187 => ?_) (fun h187 => absurd h187 (ho2))
      refine tf_blk _ b_Mod_tellContours_194 rfl ?_
      first | refine tm_zast _ 196 d_Mod_tellContours_195 rfl hT rfl (by exact hsv) (fun f hT => ?_) | refine tm_bast _ 196 d_Mod_tellContours_195 rfl hT rfl (by exact hsv) (fun f hT => ?_)
      refine tf_blk _ b_Mod_tellContours_196 rfl ?_
      refine tm_get 200 d_Mod_tellContours_197 rfl fl_Mod_63 hT rfl ?_
      refine tf_blk _ b_Mod_tellContours_200 rfl ?_
      refine tm_get 204 d_Mod_tellContours_201 rfl fl_Mod_187 hT rfl ?_
      refine tf_blk _ b_Mod_tellContours_204 rfl ?_
      refine tm_get 208 d_Mod_tellContours_205 rfl fl_Mod_190 hT rfl ?_
      refine tm_iast _ 209 d_Mod_tellContours_208 rfl hT rfl (by exact hsv) (fun f hT => ?_)
      refine tf_blk _ b_Mod_tellContours_209 rfl ?_
      refine tm_get 214 d_Mod_tellContours_211 rfl fl_Mod_187 hT rfl ?_
      refine tf_blk _ b_Mod_tellContours_214 rfl ?_
      refine tm_put 219 d_Mod_tellContours_216 rfl fw_Mod_187 hT (by decide) rfl rfl rfl (fun f hT => ?_)
      refine tf_blk _ b_Mod_tellContours_219 rfl ?_
      refine tf_goto 84 d_Mod_tellContours_222 rfl ?_
      refine tf_drop [0, 1, 2, 3, 4, 5] rfl ?_
      rw [if_pos hm] at hS hKK
      have h160 : x.2.2.2.2.1 < 160 := by
        have h8 := hle (tm_add x (tm_pp J A pg np tn n p).1 (tm_pp J A pg np tn n p).2 (tm_mo (A 4 p)))
        have h7 : x.2.2.2.2.1 + 1 ≤ _ := h8
        omega
      rw [show tm_mo (A 4 p) = kI 0 from if_neg ho] at hS hKK
      have h9 := ih (k + 1) _ _ _ _ (by omega) hS hT (tm_o_add hO h160 _ _ _) hKK
      rw [show nI (k + 1) = nI k + 1 from nI_succ k] at h9
      exact h9
    refine tf_blk _ b_Mod_tellContours_84 rfl ?_
    refine tm_get 90 d_Mod_tellContours_87 rfl fl_Mod_20 hT rfl ?_
    refine tf_blk _ b_Mod_tellContours_90 rfl ?_
    refine tm_iald _ 92 d_Mod_tellContours_91 rfl hT rfl (hgv) ?_
    rw [hgc, a6]
    refine tf_ic_ge 225 95 d_Mod_tellContours_92 rfl rfl (fun h92 => absurd h92 (nI_ge (by omega) (by omega))) (fun h92 => ?_)
    refine tf_blk _ b_Mod_tellContours_95 rfl ?_
    refine tf_if_eq 117 103 d_Mod_tellContours_100 rfl rfl (fun h100 => ?_) (fun h100 => absurd (by rw [hb]; rfl) h100)
    refine tf_blk _ b_Mod_tellContours_117 rfl ?_
    refine tf_blk _ b_Mod_tellContours_119 rfl ?_
    refine tm_get 126 d_Mod_tellContours_123 rfl fl_Mod_13 hT rfl ?_
    rw [e0]
    refine tf_blk _ b_Mod_tellContours_126 rfl ?_
    first | refine tm_zald _ 129 d_Mod_tellContours_128 rfl hT rfl (hpv) ?_ | refine tm_bald _ 129 d_Mod_tellContours_128 rfl hT rfl (hpv) ?_
    rw [hpc, a4]
    refine tf_blk _ b_Mod_tellContours_129 rfl ?_
    refine tf_ic_ne 219 136 d_Mod_tellContours_133 rfl rfl (fun h133 => ?_) (fun h133 => absurd h133 (hm))
    refine tf_blk _ b_Mod_tellContours_219 rfl ?_
    refine tf_goto 84 d_Mod_tellContours_222 rfl ?_
    refine tf_drop [0, 1, 2, 3, 4, 5] rfl ?_
    rw [if_neg hm] at hS hKK
    have h9 := ih (k + 1) x _ _ _ (by omega) hS hT hO hKK
    rw [show nI (k + 1) = nI k + 1 from nI_succ k] at h9
    exact h9
set_option maxHeartbeats 4000000 in
set_option maxRecDepth 100000 in
theorem t_Mod_tc_c (hd : 4 ≤ d) {n g K C : Nat} {pg np tn : Nat → Nat} (hn : n ≤ 5) (hg : g < 40) (hK : K ≤ 40) (h6 : A 6 g = nI K) (h7 : A 7 g = nI C) (hC : C ≤ 40) (hP : tm_pl A pg np tn n) {b : Bool} : ∀ w c (x : tm_OU) (J2 : Nat → Int32) (A2 : Nat → Nat → Int32) (f : tf_F), c + w = C → (tm_tcc (tm_pp J A pg np tn n) (A 4) g K b w c x).2.2.2.2.1 ≤ 160 → tm_at q ad m W0 L J2 A2 R f → tm_o J A x J2 A2 → tf_W l (tf_H D q) tf_T (tf_QM (tf_H D q) (fun v L2 f2 => v = none ∧ L2 = L ∧ ∃ (J3 : Nat → Int32) (A3 : Nat → Nat → Int32), tm_at q ad m W0 L J3 A3 R f2 ∧ tm_o J A (tm_tcc (tm_pp J A pg np tn n) (A 4) g K b w c x) J3 A3)) d i_Mod_tellContours 70 [(0, .ref m), (1, .int (nI n)), (2, .int (nI g)), (3, .int (bI b)), (4, .int (nI c))] [] L f 0 0 := by
  intro w
  induction w with
  | zero =>
    intro c x J2 A2 f hc hS hT hO
    have a7 : A2 7 g = nI C := by rw [hO.2.2.2.1 7 (by decide) (by decide) (by decide) (by decide)]; exact h7
    have hgv : vp_in (nI g) 40 := vp_in_nI (by omega) (by omega)
    have hgc : (nI g).toNatClampNeg = g := nI_clamp (by omega)
    refine tf_blk _ b_Mod_tellContours_70 rfl ?_
    refine tm_get 76 d_Mod_tellContours_73 rfl fl_Mod_23 hT rfl ?_
    refine tf_blk _ b_Mod_tellContours_76 rfl ?_
    refine tm_iald _ 78 d_Mod_tellContours_77 rfl hT rfl (hgv) ?_
    rw [hgc, a7]
    refine tf_ic_ge 241 81 d_Mod_tellContours_78 rfl rfl (fun h78 => ?_) (fun h78 => absurd (nI_le (by omega) (by omega)) h78)
    refine tf_vret d_Mod_tellContours_241 rfl ?_
    exact ⟨rfl, rfl, J2, A2, hT, hO⟩
  | succ w ih =>
    intro c x J2 A2 f hc hS hT hO
    have a7 : A2 7 g = nI C := by rw [hO.2.2.2.1 7 (by decide) (by decide) (by decide) (by decide)]; exact h7
    have hgv : vp_in (nI g) 40 := vp_in_nI (by omega) (by omega)
    have hgc : (nI g).toNatClampNeg = g := nI_clamp (by omega)
    refine tf_blk _ b_Mod_tellContours_70 rfl ?_
    refine tm_get 76 d_Mod_tellContours_73 rfl fl_Mod_23 hT rfl ?_
    refine tf_blk _ b_Mod_tellContours_76 rfl ?_
    refine tm_iald _ 78 d_Mod_tellContours_77 rfl hT rfl (hgv) ?_
    rw [hgc, a7]
    refine tf_ic_ge 241 81 d_Mod_tellContours_78 rfl rfl (fun h78 => absurd h78 (nI_ge (by omega) (by omega))) (fun h78 => ?_)
    refine tf_blk _ b_Mod_tellContours_81 rfl ?_
    refine t_Mod_tc_k l D q d _ hd hn hg hK h6 h7 hC hP K 0 x _ _ _ (by omega) (Nat.le_trans (tm_tcc_le (tm_pp J A pg np tn n) (A 4) g K b w (c + 1) (tm_nc (tm_tck (tm_pp J A pg np tn n) (A 4) g K b c K 0 x))) hS) hT hO (fun J3 A3 f3 hT hO => ?_)
    refine tf_blk _ b_Mod_tellContours_225 rfl ?_
    refine tm_get 230 d_Mod_tellContours_227 rfl fl_Mod_190 hT rfl ?_
    refine tf_blk _ b_Mod_tellContours_230 rfl ?_
    refine tm_put 235 d_Mod_tellContours_232 rfl fw_Mod_190 hT (by decide) rfl rfl rfl (fun f hT => ?_)
    refine tf_blk _ b_Mod_tellContours_235 rfl ?_
    refine tf_goto 70 d_Mod_tellContours_238 rfl ?_
    have h9 := ih (c + 1) _ _ _ _ (by omega) hS hT (tm_o_nc hO)
    rw [show nI (c + 1) = nI c + 1 from nI_succ c] at h9
    exact h9
set_option maxHeartbeats 4000000 in
set_option maxRecDepth 100000 in
theorem t_Mod_tc_b {QB : tf_B} {kc ks : Nat} {n g : Nat} {pg np tn : Nat → Nat} (hn : n ≤ 5) (hT : tm_at q ad m W0 L J A R f) (hP : tm_pl A pg np tn n) : ∀ w e (b : Bool), e + w = n → tf_W l (tf_H D q) tf_T QB d i_Mod_tellContours 67 [(0, .ref m), (1, .int (nI n)), (2, .int (nI g)), (3, .int (bI (tm_bk tn w e b))), (4, .int (nI n))] [] L f kc ks → tf_W l (tf_H D q) tf_T QB d i_Mod_tellContours 12 [(0, .ref m), (1, .int (nI n)), (2, .int (nI g)), (3, .int (bI b)), (4, .int (nI e))] [] L f kc ks := by
  intro w
  induction w with
  | zero =>
    intro e b he hK
    obtain rfl : e = n := he
    refine tf_blk _ b_Mod_tellContours_12 rfl ?_
    refine tf_ic_ge 67 18 d_Mod_tellContours_15 rfl rfl (fun h15 => ?_) (fun h15 => absurd (nI_le (by omega) (by omega)) h15)
    exact hK
  | succ w ih =>
    intro e b he hK
    obtain ⟨p1, p2, p3, p4, p5, p6⟩ := hP e (by omega)
    have hev : vp_in (nI e) 6 := vp_in_nI (by omega) (by omega)
    have hec : (nI e).toNatClampNeg = e := nI_clamp (by omega)
    have e0 : kI 4 * nI (pg e) + nI (np e + 1) - kI 1 = nI (4 * pg e + np e) := by rw [show kI 4 = nI 4 from rfl, show kI 1 = nI 1 from rfl, nI_mul, nI_add, nI_subI (by omega)]; rfl
    have hv : vp_in (nI (4 * pg e + np e)) 160 := vp_in_nI (by omega) (by omega)
    have hc : (nI (4 * pg e + np e)).toNatClampNeg = 4 * pg e + np e := nI_clamp (show 4 * pg e + np e < 2 ^ 31 by omega)
    have hs : tm_bk tn (w + 1) e b = tm_bk tn w (e + 1) (b != decide (¬ tn e < 4)) := rfl
    rw [hs] at hK
    by_cases h4 : tn e < 4
    · by_cases hb : b = true
      · refine tf_blk _ b_Mod_tellContours_12 rfl ?_
        refine tf_ic_ge 67 18 d_Mod_tellContours_15 rfl rfl (fun h15 => absurd h15 (nI_ge (by omega) (by omega))) (fun h15 => ?_)
        refine tf_blk _ b_Mod_tellContours_18 rfl ?_
        refine tm_get 23 d_Mod_tellContours_20 rfl fl_Mod_51 hT rfl ?_
        refine tf_blk _ b_Mod_tellContours_23 rfl ?_
        refine tm_get 28 d_Mod_tellContours_25 rfl fl_Mod_66 hT rfl ?_
        refine tf_blk _ b_Mod_tellContours_28 rfl ?_
        refine tm_iald _ 31 d_Mod_tellContours_30 rfl hT rfl (hev) ?_
        rw [hec, p1]
        refine tf_blk _ b_Mod_tellContours_31 rfl ?_
        refine tm_get 36 d_Mod_tellContours_33 rfl fl_Mod_69 hT rfl ?_
        refine tf_blk _ b_Mod_tellContours_36 rfl ?_
        refine tm_iald _ 39 d_Mod_tellContours_38 rfl hT rfl (hev) ?_
        rw [hec, p2]
        refine tf_blk _ b_Mod_tellContours_39 rfl ?_
        refine tm_iald _ 43 d_Mod_tellContours_42 rfl hT rfl (by rw [e0]; exact hv) ?_
        rw [e0, hc, p5]
        refine tf_blk _ b_Mod_tellContours_43 rfl ?_
        refine tf_ic_le 51 47 d_Mod_tellContours_44 rfl rfl (fun h44 => ?_) (fun h44 => absurd (nI_le (b := 3) (by omega) (by omega)) h44)
        refine tf_blk _ b_Mod_tellContours_51 rfl ?_
        refine tf_ic_eq 59 55 d_Mod_tellContours_52 rfl rfl (fun h52 => absurd h52 (by rw [hb]; decide)) (fun h52 => ?_)
        refine tf_blk _ b_Mod_tellContours_55 rfl ?_
        refine tf_goto 60 d_Mod_tellContours_56 rfl ?_
        refine tf_blk _ b_Mod_tellContours_60 rfl ?_
        refine tf_goto 12 d_Mod_tellContours_64 rfl ?_
        have h9 := ih (e + 1) _ (by omega) hK
        rw [show nI (e + 1) = nI e + 1 from nI_succ e, hb, decide_eq_false (not_not_intro h4), show bI (true != false) = kI 1 from rfl] at h9
        exact h9
      have hb : b = false := by cases b with | false => rfl | true => exact absurd rfl hb
      refine tf_blk _ b_Mod_tellContours_12 rfl ?_
      refine tf_ic_ge 67 18 d_Mod_tellContours_15 rfl rfl (fun h15 => absurd h15 (nI_ge (by omega) (by omega))) (fun h15 => ?_)
      refine tf_blk _ b_Mod_tellContours_18 rfl ?_
      refine tm_get 23 d_Mod_tellContours_20 rfl fl_Mod_51 hT rfl ?_
      refine tf_blk _ b_Mod_tellContours_23 rfl ?_
      refine tm_get 28 d_Mod_tellContours_25 rfl fl_Mod_66 hT rfl ?_
      refine tf_blk _ b_Mod_tellContours_28 rfl ?_
      refine tm_iald _ 31 d_Mod_tellContours_30 rfl hT rfl (hev) ?_
      rw [hec, p1]
      refine tf_blk _ b_Mod_tellContours_31 rfl ?_
      refine tm_get 36 d_Mod_tellContours_33 rfl fl_Mod_69 hT rfl ?_
      refine tf_blk _ b_Mod_tellContours_36 rfl ?_
      refine tm_iald _ 39 d_Mod_tellContours_38 rfl hT rfl (hev) ?_
      rw [hec, p2]
      refine tf_blk _ b_Mod_tellContours_39 rfl ?_
      refine tm_iald _ 43 d_Mod_tellContours_42 rfl hT rfl (by rw [e0]; exact hv) ?_
      rw [e0, hc, p5]
      refine tf_blk _ b_Mod_tellContours_43 rfl ?_
      refine tf_ic_le 51 47 d_Mod_tellContours_44 rfl rfl (fun h44 => ?_) (fun h44 => absurd (nI_le (b := 3) (by omega) (by omega)) h44)
      refine tf_blk _ b_Mod_tellContours_51 rfl ?_
      refine tf_ic_eq 59 55 d_Mod_tellContours_52 rfl rfl (fun h52 => ?_) (fun h52 => absurd (by rw [hb]; rfl) h52)
      refine tf_blk _ b_Mod_tellContours_59 rfl ?_
      refine tf_blk _ b_Mod_tellContours_60 rfl ?_
      refine tf_goto 12 d_Mod_tellContours_64 rfl ?_
      have h9 := ih (e + 1) _ (by omega) hK
      rw [show nI (e + 1) = nI e + 1 from nI_succ e, hb, decide_eq_false (not_not_intro h4), show bI (false != false) = kI 0 from rfl] at h9
      exact h9
    by_cases hb : b = true
    · refine tf_blk _ b_Mod_tellContours_12 rfl ?_
      refine tf_ic_ge 67 18 d_Mod_tellContours_15 rfl rfl (fun h15 => absurd h15 (nI_ge (by omega) (by omega))) (fun h15 => ?_)
      refine tf_blk _ b_Mod_tellContours_18 rfl ?_
      refine tm_get 23 d_Mod_tellContours_20 rfl fl_Mod_51 hT rfl ?_
      refine tf_blk _ b_Mod_tellContours_23 rfl ?_
      refine tm_get 28 d_Mod_tellContours_25 rfl fl_Mod_66 hT rfl ?_
      refine tf_blk _ b_Mod_tellContours_28 rfl ?_
      refine tm_iald _ 31 d_Mod_tellContours_30 rfl hT rfl (hev) ?_
      rw [hec, p1]
      refine tf_blk _ b_Mod_tellContours_31 rfl ?_
      refine tm_get 36 d_Mod_tellContours_33 rfl fl_Mod_69 hT rfl ?_
      refine tf_blk _ b_Mod_tellContours_36 rfl ?_
      refine tm_iald _ 39 d_Mod_tellContours_38 rfl hT rfl (hev) ?_
      rw [hec, p2]
      refine tf_blk _ b_Mod_tellContours_39 rfl ?_
      refine tm_iald _ 43 d_Mod_tellContours_42 rfl hT rfl (by rw [e0]; exact hv) ?_
      rw [e0, hc, p5]
      refine tf_blk _ b_Mod_tellContours_43 rfl ?_
      refine tf_ic_le 51 47 d_Mod_tellContours_44 rfl rfl (fun h44 => absurd h44 (nI_nle3 h4 p6)) (fun h44 => ?_)
      refine tf_blk _ b_Mod_tellContours_47 rfl ?_
      refine tf_goto 52 d_Mod_tellContours_48 rfl ?_
      refine tf_ic_eq 59 55 d_Mod_tellContours_52 rfl rfl (fun h52 => ?_) (fun h52 => absurd (by rw [hb]; rfl) h52)
      refine tf_blk _ b_Mod_tellContours_59 rfl ?_
      refine tf_blk _ b_Mod_tellContours_60 rfl ?_
      refine tf_goto 12 d_Mod_tellContours_64 rfl ?_
      have h9 := ih (e + 1) _ (by omega) hK
      rw [show nI (e + 1) = nI e + 1 from nI_succ e, hb, decide_eq_true h4, show bI (true != true) = kI 0 from rfl] at h9
      exact h9
    have hb : b = false := by cases b with | false => rfl | true => exact absurd rfl hb
    refine tf_blk _ b_Mod_tellContours_12 rfl ?_
    refine tf_ic_ge 67 18 d_Mod_tellContours_15 rfl rfl (fun h15 => absurd h15 (nI_ge (by omega) (by omega))) (fun h15 => ?_)
    refine tf_blk _ b_Mod_tellContours_18 rfl ?_
    refine tm_get 23 d_Mod_tellContours_20 rfl fl_Mod_51 hT rfl ?_
    refine tf_blk _ b_Mod_tellContours_23 rfl ?_
    refine tm_get 28 d_Mod_tellContours_25 rfl fl_Mod_66 hT rfl ?_
    refine tf_blk _ b_Mod_tellContours_28 rfl ?_
    refine tm_iald _ 31 d_Mod_tellContours_30 rfl hT rfl (hev) ?_
    rw [hec, p1]
    refine tf_blk _ b_Mod_tellContours_31 rfl ?_
    refine tm_get 36 d_Mod_tellContours_33 rfl fl_Mod_69 hT rfl ?_
    refine tf_blk _ b_Mod_tellContours_36 rfl ?_
    refine tm_iald _ 39 d_Mod_tellContours_38 rfl hT rfl (hev) ?_
    rw [hec, p2]
    refine tf_blk _ b_Mod_tellContours_39 rfl ?_
    refine tm_iald _ 43 d_Mod_tellContours_42 rfl hT rfl (by rw [e0]; exact hv) ?_
    rw [e0, hc, p5]
    refine tf_blk _ b_Mod_tellContours_43 rfl ?_
    refine tf_ic_le 51 47 d_Mod_tellContours_44 rfl rfl (fun h44 => absurd h44 (nI_nle3 h4 p6)) (fun h44 => ?_)
    refine tf_blk _ b_Mod_tellContours_47 rfl ?_
    refine tf_goto 52 d_Mod_tellContours_48 rfl ?_
    refine tf_ic_eq 59 55 d_Mod_tellContours_52 rfl rfl (fun h52 => absurd h52 (by rw [hb]; decide)) (fun h52 => ?_)
    refine tf_blk _ b_Mod_tellContours_55 rfl ?_
    refine tf_goto 60 d_Mod_tellContours_56 rfl ?_
    refine tf_blk _ b_Mod_tellContours_60 rfl ?_
    refine tf_goto 12 d_Mod_tellContours_64 rfl ?_
    have h9 := ih (e + 1) _ (by omega) hK
    rw [show nI (e + 1) = nI e + 1 from nI_succ e, hb, decide_eq_true h4, show bI (false != true) = kI 1 from rfl] at h9
    exact h9
set_option maxHeartbeats 4000000 in
set_option maxRecDepth 100000 in
theorem c_Mod_tellContours (hd : 4 ≤ d) (hT : tm_at q ad m W0 L J A R f) {n g K C : Nat} {pg np tn : Nat → Nat} (hn : n ≤ 5) (hg : g < 40) (hK : K ≤ 40) (h6 : A 6 g = nI K) (h7 : A 7 g = nI C) (hC : C ≤ 40) (hP : tm_pl A pg np tn n) (h25 : A 25 n = nI g) {s oc : Nat} (h23 : J 23 = nI s) (h24 : J 24 = nI oc) (hS : (tm_tcc (tm_pp J A pg np tn n) (A 4) g K (tm_bk tn n 0 false) C 0 (A 19, A 20, A 21, A 22, s, oc)).2.2.2.2.1 ≤ 160) : tf_C l (tf_H D q) d i_Mod_tellContours [.ref m, .int (nI n)] L f 0 0 (fun v L2 f2 => v = none ∧ L2 = L ∧ ∃ (J3 : Nat → Int32) (A3 : Nat → Nat → Int32), tm_at q ad m W0 L J3 A3 R f2 ∧ tm_o J A (tm_tcc (tm_pp J A pg np tn n) (A 4) g K (tm_bk tn n 0 false) C 0 (A 19, A 20, A 21, A 22, s, oc)) J3 A3) := by
  refine tf_C.of (tf_gok _ _) (by decide) w_1355 (Nat.le_of_ble_eq_true rfl) ?_
  refine tf_blk _ b_Mod_tellContours_0 rfl ?_
  refine tm_get 4 d_Mod_tellContours_1 rfl fl_Mod_66 hT rfl ?_
  refine tf_blk _ b_Mod_tellContours_4 rfl ?_
  refine tm_iald _ 6 d_Mod_tellContours_5 rfl hT rfl (vp_in_nI (by omega) (by omega)) ?_
  rw [nI_clamp (show n < 2 ^ 31 by omega), h25]
  refine tf_blk _ b_Mod_tellContours_6 rfl ?_
  refine t_Mod_tc_b l D q d _ _ hn hT hP n 0 false (by omega) ?_
  refine tf_blk _ b_Mod_tellContours_67 rfl ?_
  exact t_Mod_tc_c l D q d _ hd hn hg hK h6 h7 hC hP C 0 (A 19, A 20, A 21, A 22, s, oc) _ _ _ (by omega) hS hT ⟨fun _ _ _ _ _ => rfl, h23, h24, fun _ _ _ _ _ => rfl, rfl, rfl, rfl, rfl⟩
end
