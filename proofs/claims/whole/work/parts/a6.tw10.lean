/-! the reference: kernOf, shaped, component -/
def tm_kn (A : Nat → Nat → Int32) (n i j : Nat) : Int32 := if tm_pat (A 39) (kI 64 * nI i + nI j) n 0 (kI (-1)) < 0 then tm_kc A i j else A 40 (tm_pat (A 39) (kI 64 * nI i + nI j) n 0 (kI (-1))).toNatClampNeg
def tm_xs (J : Nat → Int32) (A : Nat → Nat → Int32) (n rs : Nat) (gr : Nat → Nat) : Nat → Nat → Int32 → Int32
  | 0, _, x => x
  | w + 1, k, x => tm_xs J A n rs gr w (k + 1) (x + (tm_wid J A (gr k) + (if k + 1 < rs then tm_kn A n (gr k) (gr (k + 1)) else kI 0)))
def tm_compA (A : Nat → Nat → Int32) (i j n : Nat) (dx dy t : Int32) : Nat → Nat → Int32 :=
  va_up (va_up (va_up (va_up (va_up (va_up (va_up (va_up A 13 (upd (A 13) (4 * i + n) (nI j))) 14 (upd (A 14) (4 * i + n) dx)) 15 (upd (A 15) (4 * i + n) dy)) 16 (upd (A 16) (4 * i + n) t)) 12 (upd (A 12) i (nI n + kI 1))) 11 (upd (A 11) i (A 11 i + A 11 j))) 10 (upd (A 10) i (if A 10 j + kI 1 ≤ A 10 i then A 10 i else A 10 j + kI 1))) 9 (upd (A 9) j (kI 1))
theorem tm_xs_J (J : Nat → Int32) (v : Int32) (A : Nat → Nat → Int32) (n rs : Nat) (gr : Nat → Nat) : ∀ w k x, tm_xs (upd J 0 v) A n rs gr w k x = tm_xs J A n rs gr w k x := by
  intro w
  induction w with
  | zero => intro k x; rfl
  | succ w ih => intro k x; exact ih _ _
section
variable (l : Launch) (D : va_G) (q : Nat → ClassId) (d : Nat) (L : List Nat) (f : tf_F) {ad : Nat → Nat} {m : Nat} {W0 : tf_F} {J : Nat → Int32} {A : Nat → Nat → Int32} {R : Nat → Int64}
theorem c_Mod_kernOf (hd : 1 ≤ d) (hT : tm_at q ad m W0 L J A R f) {n : Nat} (hn : n ≤ 40) (h41 : J 41 = nI n) {i j : Nat} (hi : i < 40) (hj : j < 40) (hcv : vp_in (kI 16 * A 35 i + A 36 j) 256) : tf_C l (tf_H D q) d i_Mod_kernOf [.ref m, .int (nI i), .int (nI j)] L f 0 0 (tf_rd (.int (tm_kn A n i j)) L f) := by
  rcases tm_pat_or (A 39) (kI 64 * nI i + nI j) n 0 (kI (-1)) with h | ⟨k, h1, h2, h3⟩
  · rw [show tm_kn A n i j = tm_kc A i j from by rw [tm_kn, h]; rfl]
    exact c_Mod_kernOf_c l D q d L f hd hT hn h41 hi hj h hcv
  · rw [show tm_kn A n i j = A 40 k from by rw [tm_kn, h3, if_neg (nI_pos (by omega)), nI_clamp (by omega)]]
    exact c_Mod_kernOf_p l D q d L f hd hT hn h41 hi hj (by omega) h3
set_option maxHeartbeats 4000000 in
set_option maxRecDepth 100000 in
theorem t_Mod_shaped (hd : 4 ≤ d) (hT : tm_at q ad m W0 L J A R f) {n rs : Nat} (hn : n ≤ 40) (h41 : J 41 = nI n) (hrs : rs ≤ 60) (h52 : J 52 = nI rs) {gr : Nat → Nat} (hg : ∀ k, k < rs → A 51 k = nI (gr k) ∧ gr k < 40) (hcv : ∀ i j, i < 40 → j < 40 → vp_in (kI 16 * A 35 i + A 36 j) 256) {c : Nat} (hc : c ≤ rs) {w0 b0 : Int32} {Phi : Option Value → List Nat → tf_F → Prop} : ∀ w k (x : Int32), k + w = c → Phi (some (.int (tm_xs J A n rs gr w k x))) L f → tf_W l (tf_H D q) tf_T (tf_QM (tf_H D q) Phi) d i_Mod_shaped 71 [(0, .ref m), (1, .int (nI c)), (2, .int w0), (3, .int b0), (4, .int x), (5, .int (nI k))] [] L f 0 0 := by
  intro w
  induction w with
  | zero =>
    intro k x hk hP
    refine tf_blk _ b_Mod_shaped_71 rfl ?_
    refine tf_ic_ge 135 77 d_Mod_shaped_74 rfl rfl (fun h74 => ?_) (fun h74 => absurd (nI_le (by omega) (by omega)) h74)
    refine tf_blk _ b_Mod_shaped_135 rfl ?_
    refine tf_iret d_Mod_shaped_137 rfl ?_
    exact hP
  | succ w ih =>
    intro k x hk hP
    have hkv : vp_in (nI k) 60 := vp_in_nI (by omega) (by omega)
    have hkc : (nI k).toNatClampNeg = k := nI_clamp (by omega)
    have e1 : nI k + kI 1 = nI (k + 1) := by rw [show kI 1 = nI 1 from rfl, nI_add]
    obtain ⟨g0, g1⟩ := hg k (by omega)
    by_cases hk1 : k + 1 < rs
    · have hv1 : vp_in (nI k + kI 1) 60 := by rw [e1]; exact vp_in_nI (by omega) (by omega)
      have hc1 : (nI k + kI 1).toNatClampNeg = k + 1 := by rw [e1]; exact nI_clamp (show k + 1 < 2 ^ 31 by omega)
      obtain ⟨h0, h1⟩ := hg (k + 1) hk1
      refine tf_blk _ b_Mod_shaped_71 rfl ?_
      refine tf_ic_ge 135 77 d_Mod_shaped_74 rfl rfl (fun h74 => absurd h74 (nI_ge (by omega) (by omega))) (fun h74 => ?_)
      refine tf_blk _ b_Mod_shaped_77 rfl ?_
      refine tm_get 84 d_Mod_shaped_81 rfl fl_Mod_116 hT rfl ?_
      refine tf_blk _ b_Mod_shaped_84 rfl ?_
      refine tm_iald _ 87 d_Mod_shaped_86 rfl hT rfl (hkv) ?_
      rw [hkc, g0]
      refine tf_cV (tf_gok _ _) (c_Mod_widthOf l D q (d - 1) _ _ (by omega) hT g1) 90 d_Mod_shaped_87 rfl lk_Mod_200 cw_Mod_widthOf (by rfl) in_Mod_widthOf se_Mod_widthOf (by exact hT.1.1) (by exact hT.1.2.1) (by rfl) (by rfl) (by omega) (by exact Nat.le_of_ble_eq_true rfl) rfl ?_
      rintro v87 L87 f87 ⟨rfl, rfl, rfl⟩
      refine tf_blk _ b_Mod_shaped_90 rfl ?_
      refine tm_get 98 d_Mod_shaped_95 rfl fl_Mod_292 hT rfl ?_
      rw [h52, e1]
      refine tf_ic_ge 124 101 d_Mod_shaped_98 rfl rfl (fun h98 => absurd h98 (nI_ge (by omega) (by omega))) (fun h98 => ?_)
      refine tf_blk _ b_Mod_shaped_101 rfl ?_
      refine tm_get 106 d_Mod_shaped_103 rfl fl_Mod_116 hT rfl ?_
      refine tf_blk _ b_Mod_shaped_106 rfl ?_
      refine tm_iald _ 109 d_Mod_shaped_108 rfl hT rfl (hkv) ?_
      refine tf_blk _ b_Mod_shaped_109 rfl ?_
      refine tm_get 113 d_Mod_shaped_110 rfl fl_Mod_116 hT rfl ?_
      refine tf_blk _ b_Mod_shaped_113 rfl ?_
      refine tm_iald _ 118 d_Mod_shaped_117 rfl hT rfl (hv1) ?_
      rw [hkc, g0, hc1, h0]
      refine tf_cV (tf_gok _ _) (c_Mod_kernOf l D q (d - 1) _ _ (by omega) hT hn h41 g1 h1 (hcv _ _ g1 h1)) 121 d_Mod_shaped_118 rfl lk_Mod_312 cw_Mod_kernOf (by rfl) in_Mod_kernOf se_Mod_kernOf (by exact hT.1.1) (by exact hT.1.2.1) (by rfl) (by rfl) (by omega) (by exact Nat.le_of_ble_eq_true rfl) rfl ?_
      rintro v118 L118 f118 ⟨rfl, rfl, rfl⟩
      refine tf_goto 125 d_Mod_shaped_121 rfl ?_
      refine tf_blk _ b_Mod_shaped_125 rfl ?_
      refine tf_goto 71 d_Mod_shaped_132 rfl ?_
      refine tf_drop [0, 1, 2, 3, 4, 5] rfl ?_
      have h9 := ih (k + 1) (x + (tm_wid J A (gr k) + (if k + 1 < rs then tm_kn A n (gr k) (gr (k + 1)) else kI 0))) (by omega) hP
      rw [show nI (k + 1) = nI k + 1 from nI_succ k, if_pos hk1] at h9
      exact h9
    refine tf_blk _ b_Mod_shaped_71 rfl ?_
    refine tf_ic_ge 135 77 d_Mod_shaped_74 rfl rfl (fun h74 => absurd h74 (nI_ge (by omega) (by omega))) (fun h74 => ?_)
    refine tf_blk _ b_Mod_shaped_77 rfl ?_
    refine tm_get 84 d_Mod_shaped_81 rfl fl_Mod_116 hT rfl ?_
    refine tf_blk _ b_Mod_shaped_84 rfl ?_
    refine tm_iald _ 87 d_Mod_shaped_86 rfl hT rfl (hkv) ?_
    rw [hkc, g0]
    refine tf_cV (tf_gok _ _) (c_Mod_widthOf l D q (d - 1) _ _ (by omega) hT g1) 90 d_Mod_shaped_87 rfl lk_Mod_200 cw_Mod_widthOf (by rfl) in_Mod_widthOf se_Mod_widthOf (by exact hT.1.1) (by exact hT.1.2.1) (by rfl) (by rfl) (by omega) (by exact Nat.le_of_ble_eq_true rfl) rfl ?_
    rintro v87 L87 f87 ⟨rfl, rfl, rfl⟩
    refine tf_blk _ b_Mod_shaped_90 rfl ?_
    refine tm_get 98 d_Mod_shaped_95 rfl fl_Mod_292 hT rfl ?_
    rw [h52, e1]
    refine tf_ic_ge 124 101 d_Mod_shaped_98 rfl rfl (fun h98 => ?_) (fun h98 => absurd (nI_le (by omega) (by omega)) h98)
    refine tf_blk _ b_Mod_shaped_124 rfl ?_
    refine tf_blk _ b_Mod_shaped_125 rfl ?_
    refine tf_goto 71 d_Mod_shaped_132 rfl ?_
    refine tf_drop [0, 1, 2, 3, 4, 5] rfl ?_
    have h9 := ih (k + 1) (x + (tm_wid J A (gr k) + (if k + 1 < rs then tm_kn A n (gr k) (gr (k + 1)) else kI 0))) (by omega) hP
    rw [show nI (k + 1) = nI k + 1 from nI_succ k, if_neg hk1] at h9
    exact h9
set_option maxHeartbeats 4000000 in
set_option maxRecDepth 100000 in
theorem c_Mod_shaped_0 (hT : tm_at q ad m W0 L J A R f) {c rs : Nat} (hrs : rs ≤ 60) (h52 : J 52 = nI rs) (hc : c < rs) : tf_C l (tf_H D q) d i_Mod_shaped [.ref m, .int (nI c), .int 0] L f 0 0 (tm_to q ad m W0 L (some (.int (A 51 c))) (upd J 0 (kI 0)) (A) (R)) := by
  refine tf_C.of (tf_gok _ _) (by decide) w_1504 (Nat.le_of_ble_eq_true rfl) ?_
  refine tf_blk _ b_Mod_shaped_0 rfl ?_
  refine tf_if_lt 33 4 d_Mod_shaped_1 rfl rfl (fun h1 => absurd h1 (nI_pos (by omega))) (fun h1 => ?_)
  refine tf_blk _ b_Mod_shaped_4 rfl ?_
  refine tf_if_ne 16 8 d_Mod_shaped_5 rfl rfl (fun h5 => absurd h5 (not_not_intro rfl)) (fun h5 => ?_)
  refine tf_blk _ b_Mod_shaped_8 rfl ?_
  refine tm_get 13 d_Mod_shaped_10 rfl fl_Mod_292 hT rfl ?_
  refine tf_ic_lt 29 16 d_Mod_shaped_13 rfl rfl (fun h13 => ?_) (fun h13 => absurd (by rw [h52]; exact nI_lt hc (by omega)) h13)
  refine tf_blk _ b_Mod_shaped_29 rfl ?_
  refine tf_goto 34 d_Mod_shaped_30 rfl ?_
  refine tf_blk _ b_Mod_shaped_34 rfl ?_
  refine tf_if_eq 44 40 d_Mod_shaped_37 rfl rfl (fun h37 => absurd h37 (show ¬ kI 1 = 0 by decide)) (fun h37 => ?_)
  refine tf_blk _ b_Mod_shaped_40 rfl ?_
  refine tf_goto 45 d_Mod_shaped_41 rfl ?_
  refine tm_put 48 d_Mod_shaped_45 rfl fw_Mod_123 hT (by decide) rfl rfl rfl (fun f hT => ?_)
  refine tf_blk _ b_Mod_shaped_48 rfl ?_
  refine tf_if_ne 54 52 d_Mod_shaped_49 rfl rfl (fun h49 => ?_) (fun h49 => absurd h49 (show ¬ kI 1 = 0 by decide))
  refine tf_blk _ b_Mod_shaped_54 rfl ?_
  refine tf_if_ne 65 58 d_Mod_shaped_55 rfl rfl (fun h55 => absurd h55 (not_not_intro rfl)) (fun h55 => ?_)
  refine tf_blk _ b_Mod_shaped_58 rfl ?_
  refine tm_get 62 d_Mod_shaped_59 rfl fl_Mod_116 hT rfl ?_
  refine tf_blk _ b_Mod_shaped_62 rfl ?_
  refine tm_iald _ 64 d_Mod_shaped_63 rfl hT rfl (vp_in_nI (by omega) (by omega)) ?_
  refine tf_iret d_Mod_shaped_64 rfl ?_
  exact ⟨by rw [nI_clamp (by omega)], rfl, hT⟩
set_option maxHeartbeats 4000000 in
set_option maxRecDepth 100000 in
theorem c_Mod_shaped_1 (hd : 4 ≤ d) (hT : tm_at q ad m W0 L J A R f) {n rs : Nat} (hn : n ≤ 40) (h41 : J 41 = nI n) (hrs : rs ≤ 60) (h52 : J 52 = nI rs) {gr : Nat → Nat} (hg : ∀ k, k < rs → A 51 k = nI (gr k) ∧ gr k < 40) (hcv : ∀ i j, i < 40 → j < 40 → vp_in (kI 16 * A 35 i + A 36 j) 256) {c : Nat} (hc : c ≤ rs) : tf_C l (tf_H D q) d i_Mod_shaped [.ref m, .int (nI c), .int (kI 1)] L f 0 0 (tm_to q ad m W0 L (some (.int (tm_xs J A n rs gr c 0 (kI 0)))) (upd J 0 (kI 0)) (A) (R)) := by
  refine tf_C.of (tf_gok _ _) (by decide) w_1504 (Nat.le_of_ble_eq_true rfl) ?_
  refine tf_blk _ b_Mod_shaped_0 rfl ?_
  refine tf_if_lt 33 4 d_Mod_shaped_1 rfl rfl (fun h1 => absurd h1 (nI_pos (by omega))) (fun h1 => ?_)
  refine tf_blk _ b_Mod_shaped_4 rfl ?_
  refine tf_if_ne 16 8 d_Mod_shaped_5 rfl rfl (fun h5 => ?_) (fun h5 => absurd h5 (by decide))
  refine tf_blk _ b_Mod_shaped_16 rfl ?_
  refine tf_ic_ne 33 21 d_Mod_shaped_18 rfl rfl (fun h18 => absurd h18 (not_not_intro rfl)) (fun h18 => ?_)
  refine tf_blk _ b_Mod_shaped_21 rfl ?_
  refine tm_get 26 d_Mod_shaped_23 rfl fl_Mod_292 hT rfl ?_
  refine tf_ic_gt 33 29 d_Mod_shaped_26 rfl rfl (fun h26 => absurd h26 (by rw [h52]; exact nI_nlt hc (by omega))) (fun h26 => ?_)
  refine tf_blk _ b_Mod_shaped_29 rfl ?_
  refine tf_goto 34 d_Mod_shaped_30 rfl ?_
  refine tf_blk _ b_Mod_shaped_34 rfl ?_
  refine tf_if_eq 44 40 d_Mod_shaped_37 rfl rfl (fun h37 => absurd h37 (show ¬ kI 1 = 0 by decide)) (fun h37 => ?_)
  refine tf_blk _ b_Mod_shaped_40 rfl ?_
  refine tf_goto 45 d_Mod_shaped_41 rfl ?_
  refine tm_put 48 d_Mod_shaped_45 rfl fw_Mod_123 hT (by decide) rfl rfl rfl (fun f hT => ?_)
  refine tf_blk _ b_Mod_shaped_48 rfl ?_
  refine tf_if_ne 54 52 d_Mod_shaped_49 rfl rfl (fun h49 => ?_) (fun h49 => absurd h49 (show ¬ kI 1 = 0 by decide))
  refine tf_blk _ b_Mod_shaped_54 rfl ?_
  refine tf_if_ne 65 58 d_Mod_shaped_55 rfl rfl (fun h55 => ?_) (fun h55 => absurd h55 (by decide))
  refine tf_blk _ b_Mod_shaped_65 rfl ?_
  refine t_Mod_shaped l D q d L _ hd hT hn h41 hrs h52 hg hcv hc c 0 (kI 0) (by omega) ⟨?_, rfl, hT⟩
  rw [tm_xs_J]
set_option maxHeartbeats 4000000 in
set_option maxRecDepth 100000 in
theorem c_Mod_component_1 (hd : 1 ≤ d) (hT : tm_at q ad m W0 L J A R f) {i : Nat} (hi : i < 40) (h dx dy t : Int32) (hb : ¬ (tm_isG J (nI i) = true ∧ tm_isG J h = true ∧ ¬ nI i = h ∧ tm_isS dx = true ∧ tm_isS dy = true ∧ ¬ t < 0 ∧ ¬ kI 8 ≤ t)) : tf_C l (tf_H D q) d i_Mod_component [.ref m, .int (nI i), .int h, .int dx, .int dy, .int t] L f 0 0 (tm_to q ad m W0 L (none) (upd J 0 (kI 1)) (A) (R)) := by
  refine tf_C.of (tf_gok _ _) (by decide) w_1328 (Nat.le_of_ble_eq_true rfl) ?_
  refine tf_blk _ b_Mod_component_0 rfl ?_
  refine tf_cV (tf_gok _ _) (c_Mod_isGlyph l D q (d - 1) _ _ hT _) 5 d_Mod_component_2 rfl lk_Mod_148 cw_Mod_isGlyph (by rfl) in_Mod_isGlyph se_Mod_isGlyph (by exact hT.1.1) (by exact hT.1.2.1) (by rfl) (by rfl) (by omega) (by exact Nat.le_of_ble_eq_true rfl) rfl ?_
  rintro v2 L2 f2 ⟨rfl, rfl, rfl⟩
  refine tf_if_eq 52 8 d_Mod_component_5 rfl rfl (fun h5 => ?_) (fun h5 => ?_)
  · refine tf_blk _ b_Mod_component_52 rfl ?_
    refine tf_blk _ b_Mod_component_53 rfl ?_
    refine tf_if_ne 65 61 d_Mod_component_58 rfl rfl (fun h58 => absurd h58 (show ¬ ¬ kI 0 = 0 by decide)) (fun h58 => ?_)
    refine tf_blk _ b_Mod_component_61 rfl ?_
    refine tf_goto 116 d_Mod_component_62 rfl ?_
    refine tm_put 119 d_Mod_component_116 rfl fw_Mod_123 hT (by decide) rfl rfl rfl (fun f hT => ?_)
    refine tf_blk _ b_Mod_component_119 rfl ?_
    refine tm_get 123 d_Mod_component_120 rfl fl_Mod_123 hT rfl ?_
    refine tf_if_le 127 126 d_Mod_component_123 rfl rfl (fun h123 => absurd h123 (show ¬ kI 1 ≤ 0 by decide)) (fun h123 => ?_)
    refine tf_vret d_Mod_component_126 rfl ?_
    exact ⟨rfl, rfl, hT⟩
  · refine tf_blk _ b_Mod_component_8 rfl ?_
    refine tf_cV (tf_gok _ _) (c_Mod_isGlyph l D q (d - 1) _ _ hT _) 13 d_Mod_component_10 rfl lk_Mod_148 cw_Mod_isGlyph (by rfl) in_Mod_isGlyph se_Mod_isGlyph (by exact hT.1.1) (by exact hT.1.2.1) (by rfl) (by rfl) (by omega) (by exact Nat.le_of_ble_eq_true rfl) rfl ?_
    rintro v10 L10 f10 ⟨rfl, rfl, rfl⟩
    refine tf_if_eq 52 16 d_Mod_component_13 rfl rfl (fun h13 => ?_) (fun h13 => ?_)
    · refine tf_blk _ b_Mod_component_52 rfl ?_
      refine tf_blk _ b_Mod_component_53 rfl ?_
      refine tf_if_ne 65 61 d_Mod_component_58 rfl rfl (fun h58 => absurd h58 (show ¬ ¬ kI 0 = 0 by decide)) (fun h58 => ?_)
      refine tf_blk _ b_Mod_component_61 rfl ?_
      refine tf_goto 116 d_Mod_component_62 rfl ?_
      refine tm_put 119 d_Mod_component_116 rfl fw_Mod_123 hT (by decide) rfl rfl rfl (fun f hT => ?_)
      refine tf_blk _ b_Mod_component_119 rfl ?_
      refine tm_get 123 d_Mod_component_120 rfl fl_Mod_123 hT rfl ?_
      refine tf_if_le 127 126 d_Mod_component_123 rfl rfl (fun h123 => absurd h123 (show ¬ kI 1 ≤ 0 by decide)) (fun h123 => ?_)
      refine tf_vret d_Mod_component_126 rfl ?_
      exact ⟨rfl, rfl, hT⟩
    · refine tf_blk _ b_Mod_component_16 rfl ?_
      refine tf_ic_eq 52 21 d_Mod_component_18 rfl rfl (fun h18 => ?_) (fun h18 => ?_)
      · refine tf_blk _ b_Mod_component_52 rfl ?_
        refine tf_blk _ b_Mod_component_53 rfl ?_
        refine tf_if_ne 65 61 d_Mod_component_58 rfl rfl (fun h58 => absurd h58 (show ¬ ¬ kI 0 = 0 by decide)) (fun h58 => ?_)
        refine tf_blk _ b_Mod_component_61 rfl ?_
        refine tf_goto 116 d_Mod_component_62 rfl ?_
        refine tm_put 119 d_Mod_component_116 rfl fw_Mod_123 hT (by decide) rfl rfl rfl (fun f hT => ?_)
        refine tf_blk _ b_Mod_component_119 rfl ?_
        refine tm_get 123 d_Mod_component_120 rfl fl_Mod_123 hT rfl ?_
        refine tf_if_le 127 126 d_Mod_component_123 rfl rfl (fun h123 => absurd h123 (show ¬ kI 1 ≤ 0 by decide)) (fun h123 => ?_)
        refine tf_vret d_Mod_component_126 rfl ?_
        exact ⟨rfl, rfl, hT⟩
      · refine tf_blk _ b_Mod_component_21 rfl ?_
        refine tf_cS (tf_gok _ _) (c_Mod_isShift l D q (d - 1) _ _ _) 25 d_Mod_component_22 rfl lk_Mod_159 cw_Mod_isShift (by rfl) sa_Mod_isShift (by omega) (by exact Nat.le_of_ble_eq_true rfl) rfl ?_
        rintro v22 L22 f22 ⟨rfl, rfl, rfl⟩
        refine tf_if_eq 52 28 d_Mod_component_25 rfl rfl (fun h25 => ?_) (fun h25 => ?_)
        · refine tf_blk _ b_Mod_component_52 rfl ?_
          refine tf_blk _ b_Mod_component_53 rfl ?_
          refine tf_if_ne 65 61 d_Mod_component_58 rfl rfl (fun h58 => absurd h58 (show ¬ ¬ kI 0 = 0 by decide)) (fun h58 => ?_)
          refine tf_blk _ b_Mod_component_61 rfl ?_
          refine tf_goto 116 d_Mod_component_62 rfl ?_
          refine tm_put 119 d_Mod_component_116 rfl fw_Mod_123 hT (by decide) rfl rfl rfl (fun f hT => ?_)
          refine tf_blk _ b_Mod_component_119 rfl ?_
          refine tm_get 123 d_Mod_component_120 rfl fl_Mod_123 hT rfl ?_
          refine tf_if_le 127 126 d_Mod_component_123 rfl rfl (fun h123 => absurd h123 (show ¬ kI 1 ≤ 0 by decide)) (fun h123 => ?_)
          refine tf_vret d_Mod_component_126 rfl ?_
          exact ⟨rfl, rfl, hT⟩
        · refine tf_blk _ b_Mod_component_28 rfl ?_
          refine tf_cS (tf_gok _ _) (c_Mod_isShift l D q (d - 1) _ _ _) 33 d_Mod_component_30 rfl lk_Mod_159 cw_Mod_isShift (by rfl) sa_Mod_isShift (by omega) (by exact Nat.le_of_ble_eq_true rfl) rfl ?_
          rintro v30 L30 f30 ⟨rfl, rfl, rfl⟩
          refine tf_if_eq 52 36 d_Mod_component_33 rfl rfl (fun h33 => ?_) (fun h33 => ?_)
          · refine tf_blk _ b_Mod_component_52 rfl ?_
            refine tf_blk _ b_Mod_component_53 rfl ?_
            refine tf_if_ne 65 61 d_Mod_component_58 rfl rfl (fun h58 => absurd h58 (show ¬ ¬ kI 0 = 0 by decide)) (fun h58 => ?_)
            refine tf_blk _ b_Mod_component_61 rfl ?_
            refine tf_goto 116 d_Mod_component_62 rfl ?_
            refine tm_put 119 d_Mod_component_116 rfl fw_Mod_123 hT (by decide) rfl rfl rfl (fun f hT => ?_)
            refine tf_blk _ b_Mod_component_119 rfl ?_
            refine tm_get 123 d_Mod_component_120 rfl fl_Mod_123 hT rfl ?_
            refine tf_if_le 127 126 d_Mod_component_123 rfl rfl (fun h123 => absurd h123 (show ¬ kI 1 ≤ 0 by decide)) (fun h123 => ?_)
            refine tf_vret d_Mod_component_126 rfl ?_
            exact ⟨rfl, rfl, hT⟩
          · refine tf_blk _ b_Mod_component_36 rfl ?_
            refine tf_if_lt 52 41 d_Mod_component_38 rfl rfl (fun h38 => ?_) (fun h38 => ?_)
            · refine tf_blk _ b_Mod_component_52 rfl ?_
              refine tf_blk _ b_Mod_component_53 rfl ?_
              refine tf_if_ne 65 61 d_Mod_component_58 rfl rfl (fun h58 => absurd h58 (show ¬ ¬ kI 0 = 0 by decide)) (fun h58 => ?_)
              refine tf_blk _ b_Mod_component_61 rfl ?_
              refine tf_goto 116 d_Mod_component_62 rfl ?_
              refine tm_put 119 d_Mod_component_116 rfl fw_Mod_123 hT (by decide) rfl rfl rfl (fun f hT => ?_)
              refine tf_blk _ b_Mod_component_119 rfl ?_
              refine tm_get 123 d_Mod_component_120 rfl fl_Mod_123 hT rfl ?_
              refine tf_if_le 127 126 d_Mod_component_123 rfl rfl (fun h123 => absurd h123 (show ¬ kI 1 ≤ 0 by decide)) (fun h123 => ?_)
              refine tf_vret d_Mod_component_126 rfl ?_
              exact ⟨rfl, rfl, hT⟩
            · refine tf_blk _ b_Mod_component_41 rfl ?_
              refine tf_ic_ge 52 48 d_Mod_component_45 rfl rfl (fun h45 => ?_) (fun h45 => ?_)
              · refine tf_blk _ b_Mod_component_52 rfl ?_
                refine tf_blk _ b_Mod_component_53 rfl ?_
                refine tf_if_ne 65 61 d_Mod_component_58 rfl rfl (fun h58 => absurd h58 (show ¬ ¬ kI 0 = 0 by decide)) (fun h58 => ?_)
                refine tf_blk _ b_Mod_component_61 rfl ?_
                refine tf_goto 116 d_Mod_component_62 rfl ?_
                refine tm_put 119 d_Mod_component_116 rfl fw_Mod_123 hT (by decide) rfl rfl rfl (fun f hT => ?_)
                refine tf_blk _ b_Mod_component_119 rfl ?_
                refine tm_get 123 d_Mod_component_120 rfl fl_Mod_123 hT rfl ?_
                refine tf_if_le 127 126 d_Mod_component_123 rfl rfl (fun h123 => absurd h123 (show ¬ kI 1 ≤ 0 by decide)) (fun h123 => ?_)
                refine tf_vret d_Mod_component_126 rfl ?_
                exact ⟨rfl, rfl, hT⟩
              · exact absurd ⟨bI_t h5, bI_t h13, h18, bI_t h25, bI_t h33, h38, h45⟩ hb
set_option maxHeartbeats 4000000 in
set_option maxRecDepth 100000 in
theorem c_Mod_component_2 (hd : 1 ≤ d) (hT : tm_at q ad m W0 L J A R f) {i j n : Nat} (hi : i < 40) (hj : j < 40) (hn : n ≤ 4) (h12 : A 12 i = nI n) (hs : ∀ k, k < n → vp_in (A 13 (4 * i + k)) 40) (dx dy t : Int32) (hg : tm_isG J (nI i) = true ∧ tm_isG J (nI j) = true ∧ ¬ nI i = nI j ∧ tm_isS dx = true ∧ tm_isS dy = true ∧ ¬ t < 0 ∧ ¬ kI 8 ≤ t) (hb : ¬ (A 9 i = 0 ∧ ¬ n = 4 ∧ ¬ kI 3 < A 10 j ∧ ¬ kI 120 < tm_cpt A i n 0 (kI 0) + A 11 j)) : tf_C l (tf_H D q) d i_Mod_component [.ref m, .int (nI i), .int (nI j), .int dx, .int dy, .int t] L f 0 0 (tm_to q ad m W0 L (none) (upd J 0 (kI 2)) (A) (R)) := by
  have hiv : vp_in (nI i) 40 := vp_in_nI (by omega) (by omega)
  have hic : (nI i).toNatClampNeg = i := nI_clamp (by omega)
  have hjv : vp_in (nI j) 40 := vp_in_nI (by omega) (by omega)
  have hjc : (nI j).toNatClampNeg = j := nI_clamp (by omega)
  refine tf_C.of (tf_gok _ _) (by decide) w_1328 (Nat.le_of_ble_eq_true rfl) ?_
  refine tf_blk _ b_Mod_component_0 rfl ?_
  refine tf_cV (tf_gok _ _) (c_Mod_isGlyph l D q (d - 1) _ _ hT _) 5 d_Mod_component_2 rfl lk_Mod_148 cw_Mod_isGlyph (by rfl) in_Mod_isGlyph se_Mod_isGlyph (by exact hT.1.1) (by exact hT.1.2.1) (by rfl) (by rfl) (by omega) (by exact Nat.le_of_ble_eq_true rfl) rfl ?_
  rintro v2 L2 f2 ⟨rfl, rfl, rfl⟩
  refine tf_if_eq 52 8 d_Mod_component_5 rfl rfl (fun h5 => absurd h5 (by rw [hg.1]; decide)) (fun h5 => ?_)
  refine tf_blk _ b_Mod_component_8 rfl ?_
  refine tf_cV (tf_gok _ _) (c_Mod_isGlyph l D q (d - 1) _ _ hT _) 13 d_Mod_component_10 rfl lk_Mod_148 cw_Mod_isGlyph (by rfl) in_Mod_isGlyph se_Mod_isGlyph (by exact hT.1.1) (by exact hT.1.2.1) (by rfl) (by rfl) (by omega) (by exact Nat.le_of_ble_eq_true rfl) rfl ?_
  rintro v10 L10 f10 ⟨rfl, rfl, rfl⟩
  refine tf_if_eq 52 16 d_Mod_component_13 rfl rfl (fun h13 => absurd h13 (by rw [hg.2.1]; decide)) (fun h13 => ?_)
  refine tf_blk _ b_Mod_component_16 rfl ?_
  refine tf_ic_eq 52 21 d_Mod_component_18 rfl rfl (fun h18 => absurd h18 (hg.2.2.1)) (fun h18 => ?_)
  refine tf_blk _ b_Mod_component_21 rfl ?_
  refine tf_cS (tf_gok _ _) (c_Mod_isShift l D q (d - 1) _ _ _) 25 d_Mod_component_22 rfl lk_Mod_159 cw_Mod_isShift (by rfl) sa_Mod_isShift (by omega) (by exact Nat.le_of_ble_eq_true rfl) rfl ?_
  rintro v22 L22 f22 ⟨rfl, rfl, rfl⟩
  refine tf_if_eq 52 28 d_Mod_component_25 rfl rfl (fun h25 => absurd h25 (by rw [hg.2.2.2.1]; decide)) (fun h25 => ?_)
  refine tf_blk _ b_Mod_component_28 rfl ?_
  refine tf_cS (tf_gok _ _) (c_Mod_isShift l D q (d - 1) _ _ _) 33 d_Mod_component_30 rfl lk_Mod_159 cw_Mod_isShift (by rfl) sa_Mod_isShift (by omega) (by exact Nat.le_of_ble_eq_true rfl) rfl ?_
  rintro v30 L30 f30 ⟨rfl, rfl, rfl⟩
  refine tf_if_eq 52 36 d_Mod_component_33 rfl rfl (fun h33 => absurd h33 (by rw [hg.2.2.2.2.1]; decide)) (fun h33 => ?_)
  refine tf_blk _ b_Mod_component_36 rfl ?_
  refine tf_if_lt 52 41 d_Mod_component_38 rfl rfl (fun h38 => absurd h38 (hg.2.2.2.2.2.1)) (fun h38 => ?_)
  refine tf_blk _ b_Mod_component_41 rfl ?_
  refine tf_ic_ge 52 48 d_Mod_component_45 rfl rfl (fun h45 => absurd h45 (hg.2.2.2.2.2.2)) (fun h45 => ?_)
  refine tf_blk _ b_Mod_component_48 rfl ?_
  refine tf_goto 53 d_Mod_component_49 rfl ?_
  refine tf_blk _ b_Mod_component_53 rfl ?_
  refine tf_if_ne 65 61 d_Mod_component_58 rfl rfl (fun h58 => ?_) (fun h58 => absurd h58 (show ¬ kI 1 = 0 by decide))
  refine tf_blk _ b_Mod_component_65 rfl ?_
  refine tm_get 69 d_Mod_component_66 rfl fl_Mod_29 hT rfl ?_
  refine tf_blk _ b_Mod_component_69 rfl ?_
  first | refine tm_zald _ 71 d_Mod_component_70 rfl hT rfl (hiv) ?_ | refine tm_bald _ 71 d_Mod_component_70 rfl hT rfl (hiv) ?_
  rw [hic]
  refine tf_if_ne 111 74 d_Mod_component_71 rfl rfl (fun h71 => ?_) (fun h71 => ?_)
  · refine tf_blk _ b_Mod_component_111 rfl ?_
    refine tf_goto 116 d_Mod_component_112 rfl ?_
    refine tm_put 119 d_Mod_component_116 rfl fw_Mod_123 hT (by decide) rfl rfl rfl (fun f hT => ?_)
    refine tf_blk _ b_Mod_component_119 rfl ?_
    refine tm_get 123 d_Mod_component_120 rfl fl_Mod_123 hT rfl ?_
    refine tf_if_le 127 126 d_Mod_component_123 rfl rfl (fun h123 => absurd h123 (show ¬ kI 2 ≤ 0 by decide)) (fun h123 => ?_)
    refine tf_vret d_Mod_component_126 rfl ?_
    exact ⟨rfl, rfl, hT⟩
  · refine tf_blk _ b_Mod_component_74 rfl ?_
    refine tm_get 78 d_Mod_component_75 rfl fl_Mod_39 hT rfl ?_
    refine tf_blk _ b_Mod_component_78 rfl ?_
    refine tm_iald _ 80 d_Mod_component_79 rfl hT rfl (hiv) ?_
    rw [hic, h12]
    refine tf_blk _ b_Mod_component_80 rfl ?_
    refine tf_ic_eq 111 84 d_Mod_component_81 rfl rfl (fun h81 => ?_) (fun h81 => ?_)
    · refine tf_blk _ b_Mod_component_111 rfl ?_
      refine tf_goto 116 d_Mod_component_112 rfl ?_
      refine tm_put 119 d_Mod_component_116 rfl fw_Mod_123 hT (by decide) rfl rfl rfl (fun f hT => ?_)
      refine tf_blk _ b_Mod_component_119 rfl ?_
      refine tm_get 123 d_Mod_component_120 rfl fl_Mod_123 hT rfl ?_
      refine tf_if_le 127 126 d_Mod_component_123 rfl rfl (fun h123 => absurd h123 (show ¬ kI 2 ≤ 0 by decide)) (fun h123 => ?_)
      refine tf_vret d_Mod_component_126 rfl ?_
      exact ⟨rfl, rfl, hT⟩
    · refine tf_blk _ b_Mod_component_84 rfl ?_
      refine tm_get 88 d_Mod_component_85 rfl fl_Mod_33 hT rfl ?_
      refine tf_blk _ b_Mod_component_88 rfl ?_
      refine tm_iald _ 90 d_Mod_component_89 rfl hT rfl (hjv) ?_
      rw [hjc]
      refine tf_blk _ b_Mod_component_90 rfl ?_
      refine tf_ic_gt 111 94 d_Mod_component_91 rfl rfl (fun h91 => ?_) (fun h91 => ?_)
      · refine tf_blk _ b_Mod_component_111 rfl ?_
        refine tf_goto 116 d_Mod_component_112 rfl ?_
        refine tm_put 119 d_Mod_component_116 rfl fw_Mod_123 hT (by decide) rfl rfl rfl (fun f hT => ?_)
        refine tf_blk _ b_Mod_component_119 rfl ?_
        refine tm_get 123 d_Mod_component_120 rfl fl_Mod_123 hT rfl ?_
        refine tf_if_le 127 126 d_Mod_component_123 rfl rfl (fun h123 => absurd h123 (show ¬ kI 2 ≤ 0 by decide)) (fun h123 => ?_)
        refine tf_vret d_Mod_component_126 rfl ?_
        exact ⟨rfl, rfl, hT⟩
      · refine tf_blk _ b_Mod_component_94 rfl ?_
        refine tf_cV (tf_gok _ _) (c_Mod_componentPoints l D q (d - 1) _ _ hT hi hn h12 hs) 99 d_Mod_component_96 rfl lk_Mod_162 cw_Mod_componentPoints (by rfl) in_Mod_componentPoints se_Mod_componentPoints (by exact hT.1.1) (by exact hT.1.2.1) (by rfl) (by rfl) (by omega) (by exact Nat.le_of_ble_eq_true rfl) rfl ?_
        rintro v96 L96 f96 ⟨rfl, rfl, rfl⟩
        refine tf_blk _ b_Mod_component_99 rfl ?_
        refine tm_get 103 d_Mod_component_100 rfl fl_Mod_36 hT rfl ?_
        refine tf_blk _ b_Mod_component_103 rfl ?_
        refine tm_iald _ 105 d_Mod_component_104 rfl hT rfl (hjv) ?_
        rw [hjc]
        refine tf_blk _ b_Mod_component_105 rfl ?_
        refine tf_ic_le 115 111 d_Mod_component_108 rfl rfl (fun h108 => ?_) (fun h108 => ?_)
        · exact absurd ⟨h71, fun z => h81 (by rw [z]; rfl), h91, Int32.not_lt.mpr h108⟩ hb
        · refine tf_blk _ b_Mod_component_111 rfl ?_
          refine tf_goto 116 d_Mod_component_112 rfl ?_
          refine tm_put 119 d_Mod_component_116 rfl fw_Mod_123 hT (by decide) rfl rfl rfl (fun f hT => ?_)
          refine tf_blk _ b_Mod_component_119 rfl ?_
          refine tm_get 123 d_Mod_component_120 rfl fl_Mod_123 hT rfl ?_
          refine tf_if_le 127 126 d_Mod_component_123 rfl rfl (fun h123 => absurd h123 (show ¬ kI 2 ≤ 0 by decide)) (fun h123 => ?_)
          refine tf_vret d_Mod_component_126 rfl ?_
          exact ⟨rfl, rfl, hT⟩
set_option maxHeartbeats 4000000 in
set_option maxRecDepth 100000 in
theorem c_Mod_component_t0 (hd : 1 ≤ d) (hT : tm_at q ad m W0 L J A R f) {i j n : Nat} (hi : i < 40) (hj : j < 40) (hn : n ≤ 4) (h12 : A 12 i = nI n) (hs : ∀ k, k < n → vp_in (A 13 (4 * i + k)) 40) (dx dy t : Int32) (hg : tm_isG J (nI i) = true ∧ tm_isG J (nI j) = true ∧ ¬ nI i = nI j ∧ tm_isS dx = true ∧ tm_isS dy = true ∧ ¬ t < 0 ∧ ¬ kI 8 ≤ t) (hb : A 9 i = 0 ∧ ¬ n = 4 ∧ ¬ kI 3 < A 10 j ∧ ¬ kI 120 < tm_cpt A i n 0 (kI 0) + A 11 j) (hq : A 10 j + kI 1 ≤ A 10 i) : tf_C l (tf_H D q) d i_Mod_component [.ref m, .int (nI i), .int (nI j), .int dx, .int dy, .int t] L f 0 0 (tm_to q ad m W0 L (none) (upd J 0 (kI 0)) (tm_compA A i j n dx dy t) (R)) := by
  have hiv : vp_in (nI i) 40 := vp_in_nI (by omega) (by omega)
  have hic : (nI i).toNatClampNeg = i := nI_clamp (by omega)
  have hjv : vp_in (nI j) 40 := vp_in_nI (by omega) (by omega)
  have hjc : (nI j).toNatClampNeg = j := nI_clamp (by omega)
  have e0 : kI 4 * nI i + nI n = nI (4 * i + n) := by rw [show kI 4 = nI 4 from rfl, nI_mul, nI_add]
  have hcv : vp_in (kI 4 * nI i + nI n) 160 := by rw [e0]; exact vp_in_nI (by omega) (by omega)
  have hcc : (kI 4 * nI i + nI n).toNatClampNeg = 4 * i + n := by rw [e0]; exact nI_clamp (show 4 * i + n < 2 ^ 31 by omega)
  refine tf_C.of (tf_gok _ _) (by decide) w_1328 (Nat.le_of_ble_eq_true rfl) ?_
  refine tf_blk _ b_Mod_component_0 rfl ?_
  refine tf_cV (tf_gok _ _) (c_Mod_isGlyph l D q (d - 1) _ _ hT _) 5 d_Mod_component_2 rfl lk_Mod_148 cw_Mod_isGlyph (by rfl) in_Mod_isGlyph se_Mod_isGlyph (by exact hT.1.1) (by exact hT.1.2.1) (by rfl) (by rfl) (by omega) (by exact Nat.le_of_ble_eq_true rfl) rfl ?_
  rintro v2 L2 f2 ⟨rfl, rfl, rfl⟩
  refine tf_if_eq 52 8 d_Mod_component_5 rfl rfl (fun h5 => absurd h5 (by rw [hg.1]; decide)) (fun h5 => ?_)
  refine tf_blk _ b_Mod_component_8 rfl ?_
  refine tf_cV (tf_gok _ _) (c_Mod_isGlyph l D q (d - 1) _ _ hT _) 13 d_Mod_component_10 rfl lk_Mod_148 cw_Mod_isGlyph (by rfl) in_Mod_isGlyph se_Mod_isGlyph (by exact hT.1.1) (by exact hT.1.2.1) (by rfl) (by rfl) (by omega) (by exact Nat.le_of_ble_eq_true rfl) rfl ?_
  rintro v10 L10 f10 ⟨rfl, rfl, rfl⟩
  refine tf_if_eq 52 16 d_Mod_component_13 rfl rfl (fun h13 => absurd h13 (by rw [hg.2.1]; decide)) (fun h13 => ?_)
  refine tf_blk _ b_Mod_component_16 rfl ?_
  refine tf_ic_eq 52 21 d_Mod_component_18 rfl rfl (fun h18 => absurd h18 (hg.2.2.1)) (fun h18 => ?_)
  refine tf_blk _ b_Mod_component_21 rfl ?_
  refine tf_cS (tf_gok _ _) (c_Mod_isShift l D q (d - 1) _ _ _) 25 d_Mod_component_22 rfl lk_Mod_159 cw_Mod_isShift (by rfl) sa_Mod_isShift (by omega) (by exact Nat.le_of_ble_eq_true rfl) rfl ?_
  rintro v22 L22 f22 ⟨rfl, rfl, rfl⟩
  refine tf_if_eq 52 28 d_Mod_component_25 rfl rfl (fun h25 => absurd h25 (by rw [hg.2.2.2.1]; decide)) (fun h25 => ?_)
  refine tf_blk _ b_Mod_component_28 rfl ?_
  refine tf_cS (tf_gok _ _) (c_Mod_isShift l D q (d - 1) _ _ _) 33 d_Mod_component_30 rfl lk_Mod_159 cw_Mod_isShift (by rfl) sa_Mod_isShift (by omega) (by exact Nat.le_of_ble_eq_true rfl) rfl ?_
  rintro v30 L30 f30 ⟨rfl, rfl, rfl⟩
  refine tf_if_eq 52 36 d_Mod_component_33 rfl rfl (fun h33 => absurd h33 (by rw [hg.2.2.2.2.1]; decide)) (fun h33 => ?_)
  refine tf_blk _ b_Mod_component_36 rfl ?_
  refine tf_if_lt 52 41 d_Mod_component_38 rfl rfl (fun h38 => absurd h38 (hg.2.2.2.2.2.1)) (fun h38 => ?_)
  refine tf_blk _ b_Mod_component_41 rfl ?_
  refine tf_ic_ge 52 48 d_Mod_component_45 rfl rfl (fun h45 => absurd h45 (hg.2.2.2.2.2.2)) (fun h45 => ?_)
  refine tf_blk _ b_Mod_component_48 rfl ?_
  refine tf_goto 53 d_Mod_component_49 rfl ?_
  refine tf_blk _ b_Mod_component_53 rfl ?_
  refine tf_if_ne 65 61 d_Mod_component_58 rfl rfl (fun h58 => ?_) (fun h58 => absurd h58 (show ¬ kI 1 = 0 by decide))
  refine tf_blk _ b_Mod_component_65 rfl ?_
  refine tm_get 69 d_Mod_component_66 rfl fl_Mod_29 hT rfl ?_
  refine tf_blk _ b_Mod_component_69 rfl ?_
  first | refine tm_zald _ 71 d_Mod_component_70 rfl hT rfl (hiv) ?_ | refine tm_bald _ 71 d_Mod_component_70 rfl hT rfl (hiv) ?_
  rw [hic]
  refine tf_if_ne 111 74 d_Mod_component_71 rfl rfl (fun h71 => absurd h71 (not_not_intro hb.1)) (fun h71 => ?_)
  refine tf_blk _ b_Mod_component_74 rfl ?_
  refine tm_get 78 d_Mod_component_75 rfl fl_Mod_39 hT rfl ?_
  refine tf_blk _ b_Mod_component_78 rfl ?_
  refine tm_iald _ 80 d_Mod_component_79 rfl hT rfl (hiv) ?_
  rw [hic, h12]
  refine tf_blk _ b_Mod_component_80 rfl ?_
  refine tf_ic_eq 111 84 d_Mod_component_81 rfl rfl (fun h81 => absurd h81 (fun z => hb.2.1 ((nI_eq (b := 4) (by omega) (by omega)).mp z))) (fun h81 => ?_)
  refine tf_blk _ b_Mod_component_84 rfl ?_
  refine tm_get 88 d_Mod_component_85 rfl fl_Mod_33 hT rfl ?_
  refine tf_blk _ b_Mod_component_88 rfl ?_
  refine tm_iald _ 90 d_Mod_component_89 rfl hT rfl (hjv) ?_
  rw [hjc]
  refine tf_blk _ b_Mod_component_90 rfl ?_
  refine tf_ic_gt 111 94 d_Mod_component_91 rfl rfl (fun h91 => absurd h91 (hb.2.2.1)) (fun h91 => ?_)
  refine tf_blk _ b_Mod_component_94 rfl ?_
  refine tf_cV (tf_gok _ _) (c_Mod_componentPoints l D q (d - 1) _ _ hT hi hn h12 hs) 99 d_Mod_component_96 rfl lk_Mod_162 cw_Mod_componentPoints (by rfl) in_Mod_componentPoints se_Mod_componentPoints (by exact hT.1.1) (by exact hT.1.2.1) (by rfl) (by rfl) (by omega) (by exact Nat.le_of_ble_eq_true rfl) rfl ?_
  rintro v96 L96 f96 ⟨rfl, rfl, rfl⟩
  refine tf_blk _ b_Mod_component_99 rfl ?_
  refine tm_get 103 d_Mod_component_100 rfl fl_Mod_36 hT rfl ?_
  refine tf_blk _ b_Mod_component_103 rfl ?_
  refine tm_iald _ 105 d_Mod_component_104 rfl hT rfl (hjv) ?_
  rw [hjc]
  refine tf_blk _ b_Mod_component_105 rfl ?_
  refine tf_ic_le 115 111 d_Mod_component_108 rfl rfl (fun h108 => ?_) (fun h108 => absurd (Int32.not_lt.mp hb.2.2.2) h108)
  refine tf_blk _ b_Mod_component_115 rfl ?_
  refine tm_put 119 d_Mod_component_116 rfl fw_Mod_123 hT (by decide) rfl rfl rfl (fun f hT => ?_)
  refine tf_blk _ b_Mod_component_119 rfl ?_
  refine tm_get 123 d_Mod_component_120 rfl fl_Mod_123 hT rfl ?_
  refine tf_if_le 127 126 d_Mod_component_123 rfl rfl (fun h123 => ?_) (fun h123 => absurd (show kI 0 ≤ 0 by decide) h123)
  refine tf_blk _ b_Mod_component_127 rfl ?_
  refine tm_get 134 d_Mod_component_131 rfl fl_Mod_39 hT rfl ?_
  refine tf_blk _ b_Mod_component_134 rfl ?_
  refine tm_iald _ 136 d_Mod_component_135 rfl hT rfl (hiv) ?_
  rw [hic, h12]
  refine tf_blk _ b_Mod_component_136 rfl ?_
  refine tm_get 143 d_Mod_component_140 rfl fl_Mod_42 hT rfl ?_
  refine tf_blk _ b_Mod_component_143 rfl ?_
  refine tm_iast _ 147 d_Mod_component_146 rfl hT rfl (hcv) (fun f hT => ?_)
  refine tf_blk _ b_Mod_component_147 rfl ?_
  refine tm_get 151 d_Mod_component_148 rfl fl_Mod_45 hT rfl ?_
  refine tf_blk _ b_Mod_component_151 rfl ?_
  refine tm_iast _ 155 d_Mod_component_154 rfl hT rfl (hcv) (fun f hT => ?_)
  refine tf_blk _ b_Mod_component_155 rfl ?_
  refine tm_get 159 d_Mod_component_156 rfl fl_Mod_48 hT rfl ?_
  refine tf_blk _ b_Mod_component_159 rfl ?_
  refine tm_iast _ 164 d_Mod_component_163 rfl hT rfl (hcv) (fun f hT => ?_)
  refine tf_blk _ b_Mod_component_164 rfl ?_
  refine tm_get 168 d_Mod_component_165 rfl fl_Mod_51 hT rfl ?_
  refine tf_blk _ b_Mod_component_168 rfl ?_
  refine tm_iast _ 173 d_Mod_component_172 rfl hT rfl (hcv) (fun f hT => ?_)
  refine tf_blk _ b_Mod_component_173 rfl ?_
  refine tm_get 177 d_Mod_component_174 rfl fl_Mod_39 hT rfl ?_
  refine tf_blk _ b_Mod_component_177 rfl ?_
  refine tm_iald _ 180 d_Mod_component_179 rfl hT rfl (hiv) ?_
  refine tf_blk _ b_Mod_component_180 rfl ?_
  refine tm_iast _ 183 d_Mod_component_182 rfl hT rfl (hiv) (fun f hT => ?_)
  refine tf_blk _ b_Mod_component_183 rfl ?_
  refine tm_get 187 d_Mod_component_184 rfl fl_Mod_36 hT rfl ?_
  refine tf_blk _ b_Mod_component_187 rfl ?_
  refine tm_iald _ 190 d_Mod_component_189 rfl hT rfl (hiv) ?_
  refine tf_blk _ b_Mod_component_190 rfl ?_
  refine tm_get 194 d_Mod_component_191 rfl fl_Mod_36 hT rfl ?_
  refine tf_blk _ b_Mod_component_194 rfl ?_
  refine tm_iald _ 196 d_Mod_component_195 rfl hT rfl (hjv) ?_
  refine tf_blk _ b_Mod_component_196 rfl ?_
  refine tm_iast _ 198 d_Mod_component_197 rfl hT rfl (hiv) (fun f hT => ?_)
  refine tf_blk _ b_Mod_component_198 rfl ?_
  refine tm_get 202 d_Mod_component_199 rfl fl_Mod_33 hT rfl ?_
  refine tf_blk _ b_Mod_component_202 rfl ?_
  refine tm_get 207 d_Mod_component_204 rfl fl_Mod_33 hT rfl ?_
  refine tf_blk _ b_Mod_component_207 rfl ?_
  refine tm_iald _ 209 d_Mod_component_208 rfl hT rfl (hjv) ?_
  refine tf_blk _ b_Mod_component_209 rfl ?_
  refine tm_get 215 d_Mod_component_212 rfl fl_Mod_33 hT rfl ?_
  refine tf_blk _ b_Mod_component_215 rfl ?_
  refine tm_iald _ 217 d_Mod_component_216 rfl hT rfl (hiv) ?_
  refine tf_ic_le 231 220 d_Mod_component_217 rfl rfl (fun h217 => ?_) (fun h217 => absurd (by rw [hic, hjc]; exact hq) h217)
  refine tf_blk _ b_Mod_component_231 rfl ?_
  refine tm_get 235 d_Mod_component_232 rfl fl_Mod_33 hT rfl ?_
  refine tf_blk _ b_Mod_component_235 rfl ?_
  refine tm_iald _ 237 d_Mod_component_236 rfl hT rfl (hiv) ?_
  refine tm_iast _ 238 d_Mod_component_237 rfl hT rfl (hiv) (fun f hT => ?_)
  refine tf_blk _ b_Mod_component_238 rfl ?_
  refine tm_get 242 d_Mod_component_239 rfl fl_Mod_29 hT rfl ?_
  refine tf_blk _ b_Mod_component_242 rfl ?_
  first | refine tm_zast _ 245 d_Mod_component_244 rfl hT rfl (hjv) (fun f hT => ?_) | refine tm_bast _ 245 d_Mod_component_244 rfl hT rfl (hjv) (fun f hT => ?_)
  refine tf_vret d_Mod_component_245 rfl ?_
  rw [hcc, hic, hjc] at hT
  refine ⟨rfl, rfl, ?_⟩
  unfold tm_compA
  rw [if_pos hq, ← h12]
  exact hT
set_option maxHeartbeats 4000000 in
set_option maxRecDepth 100000 in
theorem c_Mod_component_t1 (hd : 1 ≤ d) (hT : tm_at q ad m W0 L J A R f) {i j n : Nat} (hi : i < 40) (hj : j < 40) (hn : n ≤ 4) (h12 : A 12 i = nI n) (hs : ∀ k, k < n → vp_in (A 13 (4 * i + k)) 40) (dx dy t : Int32) (hg : tm_isG J (nI i) = true ∧ tm_isG J (nI j) = true ∧ ¬ nI i = nI j ∧ tm_isS dx = true ∧ tm_isS dy = true ∧ ¬ t < 0 ∧ ¬ kI 8 ≤ t) (hb : A 9 i = 0 ∧ ¬ n = 4 ∧ ¬ kI 3 < A 10 j ∧ ¬ kI 120 < tm_cpt A i n 0 (kI 0) + A 11 j) (hq : ¬ A 10 j + kI 1 ≤ A 10 i) : tf_C l (tf_H D q) d i_Mod_component [.ref m, .int (nI i), .int (nI j), .int dx, .int dy, .int t] L f 0 0 (tm_to q ad m W0 L (none) (upd J 0 (kI 0)) (tm_compA A i j n dx dy t) (R)) := by
  have hiv : vp_in (nI i) 40 := vp_in_nI (by omega) (by omega)
  have hic : (nI i).toNatClampNeg = i := nI_clamp (by omega)
  have hjv : vp_in (nI j) 40 := vp_in_nI (by omega) (by omega)
  have hjc : (nI j).toNatClampNeg = j := nI_clamp (by omega)
  have e0 : kI 4 * nI i + nI n = nI (4 * i + n) := by rw [show kI 4 = nI 4 from rfl, nI_mul, nI_add]
  have hcv : vp_in (kI 4 * nI i + nI n) 160 := by rw [e0]; exact vp_in_nI (by omega) (by omega)
  have hcc : (kI 4 * nI i + nI n).toNatClampNeg = 4 * i + n := by rw [e0]; exact nI_clamp (show 4 * i + n < 2 ^ 31 by omega)
  refine tf_C.of (tf_gok _ _) (by decide) w_1328 (Nat.le_of_ble_eq_true rfl) ?_
  refine tf_blk _ b_Mod_component_0 rfl ?_
  refine tf_cV (tf_gok _ _) (c_Mod_isGlyph l D q (d - 1) _ _ hT _) 5 d_Mod_component_2 rfl lk_Mod_148 cw_Mod_isGlyph (by rfl) in_Mod_isGlyph se_Mod_isGlyph (by exact hT.1.1) (by exact hT.1.2.1) (by rfl) (by rfl) (by omega) (by exact Nat.le_of_ble_eq_true rfl) rfl ?_
  rintro v2 L2 f2 ⟨rfl, rfl, rfl⟩
  refine tf_if_eq 52 8 d_Mod_component_5 rfl rfl (fun h5 => absurd h5 (by rw [hg.1]; decide)) (fun h5 => ?_)
  refine tf_blk _ b_Mod_component_8 rfl ?_
  refine tf_cV (tf_gok _ _) (c_Mod_isGlyph l D q (d - 1) _ _ hT _) 13 d_Mod_component_10 rfl lk_Mod_148 cw_Mod_isGlyph (by rfl) in_Mod_isGlyph se_Mod_isGlyph (by exact hT.1.1) (by exact hT.1.2.1) (by rfl) (by rfl) (by omega) (by exact Nat.le_of_ble_eq_true rfl) rfl ?_
  rintro v10 L10 f10 ⟨rfl, rfl, rfl⟩
  refine tf_if_eq 52 16 d_Mod_component_13 rfl rfl (fun h13 => absurd h13 (by rw [hg.2.1]; decide)) (fun h13 => ?_)
  refine tf_blk _ b_Mod_component_16 rfl ?_
  refine tf_ic_eq 52 21 d_Mod_component_18 rfl rfl (fun h18 => absurd h18 (hg.2.2.1)) (fun h18 => ?_)
  refine tf_blk _ b_Mod_component_21 rfl ?_
  refine tf_cS (tf_gok _ _) (c_Mod_isShift l D q (d - 1) _ _ _) 25 d_Mod_component_22 rfl lk_Mod_159 cw_Mod_isShift (by rfl) sa_Mod_isShift (by omega) (by exact Nat.le_of_ble_eq_true rfl) rfl ?_
  rintro v22 L22 f22 ⟨rfl, rfl, rfl⟩
  refine tf_if_eq 52 28 d_Mod_component_25 rfl rfl (fun h25 => absurd h25 (by rw [hg.2.2.2.1]; decide)) (fun h25 => ?_)
  refine tf_blk _ b_Mod_component_28 rfl ?_
  refine tf_cS (tf_gok _ _) (c_Mod_isShift l D q (d - 1) _ _ _) 33 d_Mod_component_30 rfl lk_Mod_159 cw_Mod_isShift (by rfl) sa_Mod_isShift (by omega) (by exact Nat.le_of_ble_eq_true rfl) rfl ?_
  rintro v30 L30 f30 ⟨rfl, rfl, rfl⟩
  refine tf_if_eq 52 36 d_Mod_component_33 rfl rfl (fun h33 => absurd h33 (by rw [hg.2.2.2.2.1]; decide)) (fun h33 => ?_)
  refine tf_blk _ b_Mod_component_36 rfl ?_
  refine tf_if_lt 52 41 d_Mod_component_38 rfl rfl (fun h38 => absurd h38 (hg.2.2.2.2.2.1)) (fun h38 => ?_)
  refine tf_blk _ b_Mod_component_41 rfl ?_
  refine tf_ic_ge 52 48 d_Mod_component_45 rfl rfl (fun h45 => absurd h45 (hg.2.2.2.2.2.2)) (fun h45 => ?_)
  refine tf_blk _ b_Mod_component_48 rfl ?_
  refine tf_goto 53 d_Mod_component_49 rfl ?_
  refine tf_blk _ b_Mod_component_53 rfl ?_
  refine tf_if_ne 65 61 d_Mod_component_58 rfl rfl (fun h58 => ?_) (fun h58 => absurd h58 (show ¬ kI 1 = 0 by decide))
  refine tf_blk _ b_Mod_component_65 rfl ?_
  refine tm_get 69 d_Mod_component_66 rfl fl_Mod_29 hT rfl ?_
  refine tf_blk _ b_Mod_component_69 rfl ?_
  first | refine tm_zald _ 71 d_Mod_component_70 rfl hT rfl (hiv) ?_ | refine tm_bald _ 71 d_Mod_component_70 rfl hT rfl (hiv) ?_
  rw [hic]
  refine tf_if_ne 111 74 d_Mod_component_71 rfl rfl (fun h71 => absurd h71 (not_not_intro hb.1)) (fun h71 => ?_)
  refine tf_blk _ b_Mod_component_74 rfl ?_
  refine tm_get 78 d_Mod_component_75 rfl fl_Mod_39 hT rfl ?_
  refine tf_blk _ b_Mod_component_78 rfl ?_
  refine tm_iald _ 80 d_Mod_component_79 rfl hT rfl (hiv) ?_
  rw [hic, h12]
  refine tf_blk _ b_Mod_component_80 rfl ?_
  refine tf_ic_eq 111 84 d_Mod_component_81 rfl rfl (fun h81 => absurd h81 (fun z => hb.2.1 ((nI_eq (b := 4) (by omega) (by omega)).mp z))) (fun h81 => ?_)
  refine tf_blk _ b_Mod_component_84 rfl ?_
  refine tm_get 88 d_Mod_component_85 rfl fl_Mod_33 hT rfl ?_
  refine tf_blk _ b_Mod_component_88 rfl ?_
  refine tm_iald _ 90 d_Mod_component_89 rfl hT rfl (hjv) ?_
  rw [hjc]
  refine tf_blk _ b_Mod_component_90 rfl ?_
  refine tf_ic_gt 111 94 d_Mod_component_91 rfl rfl (fun h91 => absurd h91 (hb.2.2.1)) (fun h91 => ?_)
  refine tf_blk _ b_Mod_component_94 rfl ?_
  refine tf_cV (tf_gok _ _) (c_Mod_componentPoints l D q (d - 1) _ _ hT hi hn h12 hs) 99 d_Mod_component_96 rfl lk_Mod_162 cw_Mod_componentPoints (by rfl) in_Mod_componentPoints se_Mod_componentPoints (by exact hT.1.1) (by exact hT.1.2.1) (by rfl) (by rfl) (by omega) (by exact Nat.le_of_ble_eq_true rfl) rfl ?_
  rintro v96 L96 f96 ⟨rfl, rfl, rfl⟩
  refine tf_blk _ b_Mod_component_99 rfl ?_
  refine tm_get 103 d_Mod_component_100 rfl fl_Mod_36 hT rfl ?_
  refine tf_blk _ b_Mod_component_103 rfl ?_
  refine tm_iald _ 105 d_Mod_component_104 rfl hT rfl (hjv) ?_
  rw [hjc]
  refine tf_blk _ b_Mod_component_105 rfl ?_
  refine tf_ic_le 115 111 d_Mod_component_108 rfl rfl (fun h108 => ?_) (fun h108 => absurd (Int32.not_lt.mp hb.2.2.2) h108)
  refine tf_blk _ b_Mod_component_115 rfl ?_
  refine tm_put 119 d_Mod_component_116 rfl fw_Mod_123 hT (by decide) rfl rfl rfl (fun f hT => ?_)
  refine tf_blk _ b_Mod_component_119 rfl ?_
  refine tm_get 123 d_Mod_component_120 rfl fl_Mod_123 hT rfl ?_
  refine tf_if_le 127 126 d_Mod_component_123 rfl rfl (fun h123 => ?_) (fun h123 => absurd (show kI 0 ≤ 0 by decide) h123)
  refine tf_blk _ b_Mod_component_127 rfl ?_
  refine tm_get 134 d_Mod_component_131 rfl fl_Mod_39 hT rfl ?_
  refine tf_blk _ b_Mod_component_134 rfl ?_
  refine tm_iald _ 136 d_Mod_component_135 rfl hT rfl (hiv) ?_
  rw [hic, h12]
  refine tf_blk _ b_Mod_component_136 rfl ?_
  refine tm_get 143 d_Mod_component_140 rfl fl_Mod_42 hT rfl ?_
  refine tf_blk _ b_Mod_component_143 rfl ?_
  refine tm_iast _ 147 d_Mod_component_146 rfl hT rfl (hcv) (fun f hT => ?_)
  refine tf_blk _ b_Mod_component_147 rfl ?_
  refine tm_get 151 d_Mod_component_148 rfl fl_Mod_45 hT rfl ?_
  refine tf_blk _ b_Mod_component_151 rfl ?_
  refine tm_iast _ 155 d_Mod_component_154 rfl hT rfl (hcv) (fun f hT => ?_)
  refine tf_blk _ b_Mod_component_155 rfl ?_
  refine tm_get 159 d_Mod_component_156 rfl fl_Mod_48 hT rfl ?_
  refine tf_blk _ b_Mod_component_159 rfl ?_
  refine tm_iast _ 164 d_Mod_component_163 rfl hT rfl (hcv) (fun f hT => ?_)
  refine tf_blk _ b_Mod_component_164 rfl ?_
  refine tm_get 168 d_Mod_component_165 rfl fl_Mod_51 hT rfl ?_
  refine tf_blk _ b_Mod_component_168 rfl ?_
  refine tm_iast _ 173 d_Mod_component_172 rfl hT rfl (hcv) (fun f hT => ?_)
  refine tf_blk _ b_Mod_component_173 rfl ?_
  refine tm_get 177 d_Mod_component_174 rfl fl_Mod_39 hT rfl ?_
  refine tf_blk _ b_Mod_component_177 rfl ?_
  refine tm_iald _ 180 d_Mod_component_179 rfl hT rfl (hiv) ?_
  refine tf_blk _ b_Mod_component_180 rfl ?_
  refine tm_iast _ 183 d_Mod_component_182 rfl hT rfl (hiv) (fun f hT => ?_)
  refine tf_blk _ b_Mod_component_183 rfl ?_
  refine tm_get 187 d_Mod_component_184 rfl fl_Mod_36 hT rfl ?_
  refine tf_blk _ b_Mod_component_187 rfl ?_
  refine tm_iald _ 190 d_Mod_component_189 rfl hT rfl (hiv) ?_
  refine tf_blk _ b_Mod_component_190 rfl ?_
  refine tm_get 194 d_Mod_component_191 rfl fl_Mod_36 hT rfl ?_
  refine tf_blk _ b_Mod_component_194 rfl ?_
  refine tm_iald _ 196 d_Mod_component_195 rfl hT rfl (hjv) ?_
  refine tf_blk _ b_Mod_component_196 rfl ?_
  refine tm_iast _ 198 d_Mod_component_197 rfl hT rfl (hiv) (fun f hT => ?_)
  refine tf_blk _ b_Mod_component_198 rfl ?_
  refine tm_get 202 d_Mod_component_199 rfl fl_Mod_33 hT rfl ?_
  refine tf_blk _ b_Mod_component_202 rfl ?_
  refine tm_get 207 d_Mod_component_204 rfl fl_Mod_33 hT rfl ?_
  refine tf_blk _ b_Mod_component_207 rfl ?_
  refine tm_iald _ 209 d_Mod_component_208 rfl hT rfl (hjv) ?_
  refine tf_blk _ b_Mod_component_209 rfl ?_
  refine tm_get 215 d_Mod_component_212 rfl fl_Mod_33 hT rfl ?_
  refine tf_blk _ b_Mod_component_215 rfl ?_
  refine tm_iald _ 217 d_Mod_component_216 rfl hT rfl (hiv) ?_
  refine tf_ic_le 231 220 d_Mod_component_217 rfl rfl (fun h217 => absurd h217 (by rw [hic, hjc]; exact hq)) (fun h217 => ?_)
  refine tf_blk _ b_Mod_component_220 rfl ?_
  refine tm_get 224 d_Mod_component_221 rfl fl_Mod_33 hT rfl ?_
  refine tf_blk _ b_Mod_component_224 rfl ?_
  refine tm_iald _ 226 d_Mod_component_225 rfl hT rfl (hjv) ?_
  refine tf_blk _ b_Mod_component_226 rfl ?_
  refine tf_goto 237 d_Mod_component_228 rfl ?_
  refine tm_iast _ 238 d_Mod_component_237 rfl hT rfl (hiv) (fun f hT => ?_)
  refine tf_blk _ b_Mod_component_238 rfl ?_
  refine tm_get 242 d_Mod_component_239 rfl fl_Mod_29 hT rfl ?_
  refine tf_blk _ b_Mod_component_242 rfl ?_
  first | refine tm_zast _ 245 d_Mod_component_244 rfl hT rfl (hjv) (fun f hT => ?_) | refine tm_bast _ 245 d_Mod_component_244 rfl hT rfl (hjv) (fun f hT => ?_)
  refine tf_vret d_Mod_component_245 rfl ?_
  rw [hcc, hic, hjc] at hT
  refine ⟨rfl, rfl, ?_⟩
  unfold tm_compA
  rw [if_neg hq, ← h12]
  exact hT
end
