/-! the reference: between, widthOf, kernOf, componentPoints, rule -/
def tm_btw (J : Nat → Int32) (a b c e : Int32) : Int32 :=
  if J 1 = kI 1 then a else if J 1 = kI 2 then (tm_nr (a.toInt64 * (kI 1024 - J 17).toInt64 + b.toInt64 * (J 17).toInt64) 1024).toInt32 else (tm_nr (a.toInt64 * (kI 1024 - J 17).toInt64 * (kI 1024 - J 18).toInt64 + (b * J 17).toInt64 * (kI 1024 - J 18).toInt64 + c.toInt64 * (kI 1024 - J 17).toInt64 * (J 18).toInt64 + e.toInt64 * (J 17).toInt64 * (J 18).toInt64) 1048576).toInt32
def tm_wid (J : Nat → Int32) (A : Nat → Nat → Int32) (i : Nat) : Int32 := tm_btw J (A 8 (4 * i)) (A 8 (4 * i + 1)) (A 8 (4 * i + 2)) (A 8 (4 * i + 3))
/-- the distance of two classes -/
def tm_kc (A : Nat → Nat → Int32) (i j : Nat) : Int32 := if A 35 i ≤ 0 then kI 0 else if A 36 j ≤ 0 then kI 0 else if A 38 (kI 16 * A 35 i + A 36 j).toNatClampNeg = 0 then kI 0 else A 37 (kI 16 * A 35 i + A 36 j).toNatClampNeg
def tm_cpt (A : Nat → Nat → Int32) (i : Nat) : Nat → Nat → Int32 → Int32
  | 0, _, n => n
  | m + 1, k, n => tm_cpt A i m (k + 1) (n + A 11 (A 13 (4 * i + k)).toNatClampNeg)
section
variable (l : Launch) (D : va_G) (q : Nat → ClassId) (d : Nat) (L : List Nat) (f : tf_F) {ad : Nat → Nat} {m : Nat} {W0 : tf_F} {J : Nat → Int32} {A : Nat → Nat → Int32} {R : Nat → Int64}
set_option maxHeartbeats 4000000 in
set_option maxRecDepth 100000 in
theorem c_Mod_between (hd : 2 ≤ d) (hT : tm_at q ad m W0 L J A R f) (a b c e : Int32) : tf_C l (tf_H D q) d i_Mod_between [.ref m, .int a, .int b, .int c, .int e] L f 0 0 (tf_rd (.int (tm_btw J a b c e)) L f) := by
  refine tf_C.of (tf_gok _ _) (by decide) w_1367 (Nat.le_of_ble_eq_true rfl) ?_
  refine tf_blk _ b_Mod_between_0 rfl ?_
  refine tm_get 7 d_Mod_between_4 rfl fl_Mod_132 hT rfl ?_
  refine tf_blk _ b_Mod_between_7 rfl ?_
  refine tm_get 18 d_Mod_between_15 rfl fl_Mod_135 hT rfl ?_
  refine tf_blk _ b_Mod_between_18 rfl ?_
  refine tm_get 26 d_Mod_between_23 rfl fl_Mod_119 hT rfl ?_
  refine tf_blk _ b_Mod_between_26 rfl ?_
  refine tf_ic_ne 32 30 d_Mod_between_27 rfl rfl (fun h27 => ?_) (fun h27 => ?_)
  · refine tf_blk _ b_Mod_between_32 rfl ?_
    refine tm_get 36 d_Mod_between_33 rfl fl_Mod_119 hT rfl ?_
    refine tf_blk _ b_Mod_between_36 rfl ?_
    refine tf_ic_ne 62 40 d_Mod_between_37 rfl rfl (fun h37 => ?_) (fun h37 => ?_)
    · refine tf_blk _ b_Mod_between_62 rfl ?_
      refine tm_get 75 d_Mod_between_72 rfl fl_Mod_132 hT rfl ?_
      refine tf_blk _ b_Mod_between_75 rfl ?_
      refine tm_get 90 d_Mod_between_87 rfl fl_Mod_135 hT rfl ?_
      refine tf_blk _ b_Mod_between_90 rfl ?_
      refine tm_get 100 d_Mod_between_97 rfl fl_Mod_132 hT rfl ?_
      refine tf_blk _ b_Mod_between_100 rfl ?_
      refine tm_get 106 d_Mod_between_103 rfl fl_Mod_135 hT rfl ?_
      refine tf_blk _ b_Mod_between_106 rfl ?_
      refine tf_ldc2 112 d_Mod_between_109 rfl w_1376 ?_
      refine tf_cS (tf_gok _ _) (c_Mod_near l D q (d - 1) _ _ (by omega) (by decide)) 115 d_Mod_between_112 rfl lk_Mod_140 cw_Mod_near (by rfl) sa_Mod_near (by omega) (by exact Nat.le_of_ble_eq_true rfl) rfl ?_
      rintro v112 L112 f112 ⟨rfl, rfl, rfl⟩
      refine tf_blk _ b_Mod_between_115 rfl ?_
      refine tf_iret d_Mod_between_116 rfl ?_
      exact ⟨by rw [tm_btw, if_neg h27, if_neg h37], rfl, rfl⟩
    · refine tf_blk _ b_Mod_between_40 rfl ?_
      refine tm_get 51 d_Mod_between_48 rfl fl_Mod_132 hT rfl ?_
      refine tf_blk _ b_Mod_between_51 rfl ?_
      refine tf_ldc2 57 d_Mod_between_54 rfl w_1368 ?_
      refine tf_cS (tf_gok _ _) (c_Mod_near l D q (d - 1) _ _ (by omega) (by decide)) 60 d_Mod_between_57 rfl lk_Mod_140 cw_Mod_near (by rfl) sa_Mod_near (by omega) (by exact Nat.le_of_ble_eq_true rfl) rfl ?_
      rintro v57 L57 f57 ⟨rfl, rfl, rfl⟩
      refine tf_blk _ b_Mod_between_60 rfl ?_
      refine tf_iret d_Mod_between_61 rfl ?_
      exact ⟨by rw [tm_btw, if_neg h27, if_pos h37], rfl, rfl⟩
  · refine tf_blk _ b_Mod_between_30 rfl ?_
    refine tf_iret d_Mod_between_31 rfl ?_
    exact ⟨by rw [tm_btw, if_pos h27], rfl, rfl⟩
set_option maxHeartbeats 4000000 in
set_option maxRecDepth 100000 in
theorem c_Mod_widthOf (hd : 3 ≤ d) (hT : tm_at q ad m W0 L J A R f) {i : Nat} (hi : i < 40) : tf_C l (tf_H D q) d i_Mod_widthOf [.ref m, .int (nI i)] L f 0 0 (tf_rd (.int (tm_wid J A i)) L f) := by
  have e0 : kI 4 * nI i = nI (4 * i) := by rw [show kI 4 = nI 4 from rfl, nI_mul]
  have v0 : vp_in (kI 4 * nI i) 160 := by rw [e0]; exact vp_in_nI (by omega) (by omega)
  have q0 : (kI 4 * nI i).toNatClampNeg = 4 * i := by rw [e0]; exact nI_clamp (show 4 * i < 2 ^ 31 by omega)
  have e1 : kI 4 * nI i + kI 1 = nI (4 * i + 1) := by rw [show kI 4 = nI 4 from rfl, nI_mul, show kI 1 = nI 1 from rfl, nI_add]
  have v1 : vp_in (kI 4 * nI i + kI 1) 160 := by rw [e1]; exact vp_in_nI (by omega) (by omega)
  have q1 : (kI 4 * nI i + kI 1).toNatClampNeg = 4 * i + 1 := by rw [e1]; exact nI_clamp (show 4 * i + 1 < 2 ^ 31 by omega)
  have e2 : kI 4 * nI i + kI 2 = nI (4 * i + 2) := by rw [show kI 4 = nI 4 from rfl, nI_mul, show kI 2 = nI 2 from rfl, nI_add]
  have v2 : vp_in (kI 4 * nI i + kI 2) 160 := by rw [e2]; exact vp_in_nI (by omega) (by omega)
  have q2 : (kI 4 * nI i + kI 2).toNatClampNeg = 4 * i + 2 := by rw [e2]; exact nI_clamp (show 4 * i + 2 < 2 ^ 31 by omega)
  have e3 : kI 4 * nI i + kI 3 = nI (4 * i + 3) := by rw [show kI 4 = nI 4 from rfl, nI_mul, show kI 3 = nI 3 from rfl, nI_add]
  have v3 : vp_in (kI 4 * nI i + kI 3) 160 := by rw [e3]; exact vp_in_nI (by omega) (by omega)
  have q3 : (kI 4 * nI i + kI 3).toNatClampNeg = 4 * i + 3 := by rw [e3]; exact nI_clamp (show 4 * i + 3 < 2 ^ 31 by omega)
  refine tf_C.of (tf_gok _ _) (by decide) w_1385 (Nat.le_of_ble_eq_true rfl) ?_
  refine tf_blk _ b_Mod_widthOf_0 rfl ?_
  refine tm_get 5 d_Mod_widthOf_2 rfl fl_Mod_26 hT rfl ?_
  refine tf_blk _ b_Mod_widthOf_5 rfl ?_
  refine tm_iald _ 9 d_Mod_widthOf_8 rfl hT rfl (v0) ?_
  refine tf_blk _ b_Mod_widthOf_9 rfl ?_
  refine tm_get 13 d_Mod_widthOf_10 rfl fl_Mod_26 hT rfl ?_
  refine tf_blk _ b_Mod_widthOf_13 rfl ?_
  refine tm_iald _ 19 d_Mod_widthOf_18 rfl hT rfl (v1) ?_
  refine tf_blk _ b_Mod_widthOf_19 rfl ?_
  refine tm_get 23 d_Mod_widthOf_20 rfl fl_Mod_26 hT rfl ?_
  refine tf_blk _ b_Mod_widthOf_23 rfl ?_
  refine tm_iald _ 29 d_Mod_widthOf_28 rfl hT rfl (v2) ?_
  refine tf_blk _ b_Mod_widthOf_29 rfl ?_
  refine tm_get 33 d_Mod_widthOf_30 rfl fl_Mod_26 hT rfl ?_
  refine tf_blk _ b_Mod_widthOf_33 rfl ?_
  refine tm_iald _ 39 d_Mod_widthOf_38 rfl hT rfl (v3) ?_
  rw [q0, q1, q2, q3]
  refine tf_cV (tf_gok _ _) (c_Mod_between l D q (d - 1) _ _ (by omega) hT _ _ _ _) 42 d_Mod_widthOf_39 rfl lk_Mod_170 cw_Mod_between (by rfl) in_Mod_between se_Mod_between (by exact hT.1.1) (by exact hT.1.2.1) (by rfl) (by rfl) (by omega) (by exact Nat.le_of_ble_eq_true rfl) rfl ?_
  rintro v39 L39 f39 ⟨rfl, rfl, rfl⟩
  refine tf_iret d_Mod_widthOf_42 rfl ?_
  exact ⟨rfl, rfl, rfl⟩
set_option maxHeartbeats 4000000 in
set_option maxRecDepth 100000 in
theorem c_Mod_kernOf_p (hd : 1 ≤ d) (hT : tm_at q ad m W0 L J A R f) {n : Nat} (hn : n ≤ 40) (h41 : J 41 = nI n) {i j : Nat} (hi : i < 40) (hj : j < 40) {k : Nat} (hk : k < n) (hq : tm_pat (A 39) (kI 64 * nI i + nI j) n 0 (kI (-1)) = nI k) : tf_C l (tf_H D q) d i_Mod_kernOf [.ref m, .int (nI i), .int (nI j)] L f 0 0 (tf_rd (.int (A 40 k)) L f) := by
  have hiv : vp_in (nI i) 40 := vp_in_nI (by omega) (by omega)
  have hic : (nI i).toNatClampNeg = i := nI_clamp (by omega)
  have hjv : vp_in (nI j) 40 := vp_in_nI (by omega) (by omega)
  have hjc : (nI j).toNatClampNeg = j := nI_clamp (by omega)
  refine tf_C.of (tf_gok _ _) (by decide) w_1508 (Nat.le_of_ble_eq_true rfl) ?_
  refine tf_blk _ b_Mod_kernOf_0 rfl ?_
  refine tf_cV (tf_gok _ _) (c_Mod_pairAt l D q (d - 1) _ _ hT hn h41 (nI i) (nI j)) 6 d_Mod_kernOf_3 rfl lk_Mod_267 cw_Mod_pairAt (by rfl) in_Mod_pairAt se_Mod_pairAt (by exact hT.1.1) (by exact hT.1.2.1) (by rfl) (by rfl) (by omega) (by exact Nat.le_of_ble_eq_true rfl) rfl ?_
  rintro v3 L3 f3 ⟨rfl, rfl, rfl⟩
  rw [hq]
  refine tf_blk _ b_Mod_kernOf_6 rfl ?_
  refine tf_if_lt 18 11 d_Mod_kernOf_8 rfl rfl (fun h8 => absurd h8 (nI_pos (by omega))) (fun h8 => ?_)
  refine tf_blk _ b_Mod_kernOf_11 rfl ?_
  refine tm_get 15 d_Mod_kernOf_12 rfl fl_Mod_94 hT rfl ?_
  refine tf_blk _ b_Mod_kernOf_15 rfl ?_
  refine tm_iald _ 17 d_Mod_kernOf_16 rfl hT rfl (vp_in_nI (by omega) (by omega)) ?_
  refine tf_iret d_Mod_kernOf_17 rfl ?_
  exact ⟨by rw [nI_clamp (show k < 2 ^ 31 by omega)], rfl, rfl⟩
set_option maxHeartbeats 4000000 in
set_option maxRecDepth 100000 in
theorem c_Mod_kernOf_c (hd : 1 ≤ d) (hT : tm_at q ad m W0 L J A R f) {n : Nat} (hn : n ≤ 40) (h41 : J 41 = nI n) {i j : Nat} (hi : i < 40) (hj : j < 40) (hq : tm_pat (A 39) (kI 64 * nI i + nI j) n 0 (kI (-1)) = kI (-1)) (hcv : vp_in (kI 16 * A 35 i + A 36 j) 256) : tf_C l (tf_H D q) d i_Mod_kernOf [.ref m, .int (nI i), .int (nI j)] L f 0 0 (tf_rd (.int (tm_kc A i j)) L f) := by
  have hiv : vp_in (nI i) 40 := vp_in_nI (by omega) (by omega)
  have hic : (nI i).toNatClampNeg = i := nI_clamp (by omega)
  have hjv : vp_in (nI j) 40 := vp_in_nI (by omega) (by omega)
  have hjc : (nI j).toNatClampNeg = j := nI_clamp (by omega)
  refine tf_C.of (tf_gok _ _) (by decide) w_1508 (Nat.le_of_ble_eq_true rfl) ?_
  refine tf_blk _ b_Mod_kernOf_0 rfl ?_
  refine tf_cV (tf_gok _ _) (c_Mod_pairAt l D q (d - 1) _ _ hT hn h41 (nI i) (nI j)) 6 d_Mod_kernOf_3 rfl lk_Mod_267 cw_Mod_pairAt (by rfl) in_Mod_pairAt se_Mod_pairAt (by exact hT.1.1) (by exact hT.1.2.1) (by rfl) (by rfl) (by omega) (by exact Nat.le_of_ble_eq_true rfl) rfl ?_
  rintro v3 L3 f3 ⟨rfl, rfl, rfl⟩
  rw [hq]
  refine tf_blk _ b_Mod_kernOf_6 rfl ?_
  refine tf_if_lt 18 11 d_Mod_kernOf_8 rfl rfl (fun h8 => ?_) (fun h8 => absurd (show kI (-1) < 0 by decide) h8)
  refine tf_blk _ b_Mod_kernOf_18 rfl ?_
  refine tm_get 24 d_Mod_kernOf_21 rfl fl_Mod_78 hT rfl ?_
  refine tf_blk _ b_Mod_kernOf_24 rfl ?_
  first | refine tm_zald _ 26 d_Mod_kernOf_25 rfl hT rfl (hiv) ?_ | refine tm_bald _ 26 d_Mod_kernOf_25 rfl hT rfl (hiv) ?_
  rw [hic]
  refine tf_blk _ b_Mod_kernOf_26 rfl ?_
  refine tm_get 31 d_Mod_kernOf_28 rfl fl_Mod_81 hT rfl ?_
  refine tf_blk _ b_Mod_kernOf_31 rfl ?_
  first | refine tm_zald _ 33 d_Mod_kernOf_32 rfl hT rfl (hjv) ?_ | refine tm_bald _ 33 d_Mod_kernOf_32 rfl hT rfl (hjv) ?_
  rw [hjc]
  refine tf_blk _ b_Mod_kernOf_33 rfl ?_
  refine tm_get 40 d_Mod_kernOf_37 rfl fl_Mod_78 hT rfl ?_
  refine tf_blk _ b_Mod_kernOf_40 rfl ?_
  first | refine tm_zald _ 42 d_Mod_kernOf_41 rfl hT rfl (hiv) ?_ | refine tm_bald _ 42 d_Mod_kernOf_41 rfl hT rfl (hiv) ?_
  rw [hic]
  refine tf_if_le 74 45 d_Mod_kernOf_42 rfl rfl (fun h42 => ?_) (fun h42 => ?_)
  · refine tf_blk _ b_Mod_kernOf_74 rfl ?_
    refine tf_iret d_Mod_kernOf_75 rfl ?_
    exact ⟨by (simp only [tm_kc, h42, (Int32.not_lt.mpr h42), if_true, if_false]; try rfl), rfl, rfl⟩
  · refine tf_blk _ b_Mod_kernOf_45 rfl ?_
    refine tm_get 49 d_Mod_kernOf_46 rfl fl_Mod_81 hT rfl ?_
    refine tf_blk _ b_Mod_kernOf_49 rfl ?_
    first | refine tm_zald _ 51 d_Mod_kernOf_50 rfl hT rfl (hjv) ?_ | refine tm_bald _ 51 d_Mod_kernOf_50 rfl hT rfl (hjv) ?_
    rw [hjc]
    refine tf_if_le 74 54 d_Mod_kernOf_51 rfl rfl (fun h51 => ?_) (fun h51 => ?_)
    · refine tf_blk _ b_Mod_kernOf_74 rfl ?_
      refine tf_iret d_Mod_kernOf_75 rfl ?_
      exact ⟨by (simp only [tm_kc, h42, (Int32.not_le.mp h42), h51, (Int32.not_lt.mpr h51), if_true, if_false]; try rfl), rfl, rfl⟩
    · refine tf_blk _ b_Mod_kernOf_54 rfl ?_
      refine tm_get 58 d_Mod_kernOf_55 rfl fl_Mod_88 hT rfl ?_
      refine tf_blk _ b_Mod_kernOf_58 rfl ?_
      first | refine tm_zald _ 61 d_Mod_kernOf_60 rfl hT rfl (hcv) ?_ | refine tm_bald _ 61 d_Mod_kernOf_60 rfl hT rfl (hcv) ?_
      refine tf_if_eq 74 64 d_Mod_kernOf_61 rfl rfl (fun h61 => ?_) (fun h61 => ?_)
      · refine tf_blk _ b_Mod_kernOf_74 rfl ?_
        refine tf_iret d_Mod_kernOf_75 rfl ?_
        exact ⟨by (simp only [tm_kc, h42, (Int32.not_le.mp h42), h51, (Int32.not_le.mp h51), h61, if_true, if_false]; try rfl), rfl, rfl⟩
      · refine tf_blk _ b_Mod_kernOf_64 rfl ?_
        refine tm_get 68 d_Mod_kernOf_65 rfl fl_Mod_84 hT rfl ?_
        refine tf_blk _ b_Mod_kernOf_68 rfl ?_
        refine tm_sald _ 71 d_Mod_kernOf_70 rfl hT rfl (hcv) ?_
        refine tf_goto 75 d_Mod_kernOf_71 rfl ?_
        refine tf_iret d_Mod_kernOf_75 rfl ?_
        exact ⟨by (simp only [tm_kc, h42, (Int32.not_le.mp h42), h51, (Int32.not_le.mp h51), h61, if_true, if_false]; try rfl), rfl, rfl⟩
set_option maxHeartbeats 4000000 in
set_option maxRecDepth 100000 in
theorem t_Mod_componentPoints (hT : tm_at q ad m W0 L J A R f) {i n : Nat} (hi : i < 40) (hn : n ≤ 4) (h12 : A 12 i = nI n) (hs : ∀ k, k < n → vp_in (A 13 (4 * i + k)) 40) : ∀ w k (x : Int32), k + w = n → tf_W l (tf_H D q) tf_T (tf_QM (tf_H D q) (tf_rd (.int (tm_cpt A i w k x)) L f)) d i_Mod_componentPoints 4 [(0, .ref m), (1, .int (nI i)), (2, .int x), (3, .int (nI k))] [] L f 0 0 := by
  have hiv : vp_in (nI i) 40 := vp_in_nI (by omega) (by omega)
  have hic : (nI i).toNatClampNeg = i := nI_clamp (by omega)
  intro w
  induction w with
  | zero =>
    intro k x hk
    refine tf_blk _ b_Mod_componentPoints_4 rfl ?_
    refine tm_get 9 d_Mod_componentPoints_6 rfl fl_Mod_39 hT rfl ?_
    refine tf_blk _ b_Mod_componentPoints_9 rfl ?_
    refine tm_iald _ 11 d_Mod_componentPoints_10 rfl hT rfl (hiv) ?_
    rw [hic, h12]
    refine tf_ic_ge 38 14 d_Mod_componentPoints_11 rfl rfl (fun h11 => ?_) (fun h11 => absurd (nI_le (by omega) (by omega)) h11)
    refine tf_blk _ b_Mod_componentPoints_38 rfl ?_
    refine tf_iret d_Mod_componentPoints_39 rfl ?_
    exact ⟨rfl, rfl, rfl⟩
  | succ w ih =>
    intro k x hk
    have e0 : kI 4 * nI i + nI k = nI (4 * i + k) := by rw [show kI 4 = nI 4 from rfl, nI_mul, nI_add]
    have v0 : vp_in (kI 4 * nI i + nI k) 160 := by rw [e0]; exact vp_in_nI (by omega) (by omega)
    have q0 : (kI 4 * nI i + nI k).toNatClampNeg = 4 * i + k := by rw [e0]; exact nI_clamp (show 4 * i + k < 2 ^ 31 by omega)
    refine tf_blk _ b_Mod_componentPoints_4 rfl ?_
    refine tm_get 9 d_Mod_componentPoints_6 rfl fl_Mod_39 hT rfl ?_
    refine tf_blk _ b_Mod_componentPoints_9 rfl ?_
    refine tm_iald _ 11 d_Mod_componentPoints_10 rfl hT rfl (hiv) ?_
    rw [hic, h12]
    refine tf_ic_ge 38 14 d_Mod_componentPoints_11 rfl rfl (fun h11 => absurd h11 (nI_ge (by omega) (by omega))) (fun h11 => ?_)
    refine tf_blk _ b_Mod_componentPoints_14 rfl ?_
    refine tm_get 19 d_Mod_componentPoints_16 rfl fl_Mod_36 hT rfl ?_
    refine tf_blk _ b_Mod_componentPoints_19 rfl ?_
    refine tm_get 23 d_Mod_componentPoints_20 rfl fl_Mod_42 hT rfl ?_
    refine tf_blk _ b_Mod_componentPoints_23 rfl ?_
    refine tm_iald _ 29 d_Mod_componentPoints_28 rfl hT rfl (v0) ?_
    rw [q0]
    refine tm_iald _ 30 d_Mod_componentPoints_29 rfl hT rfl (hs k (by omega)) ?_
    refine tf_blk _ b_Mod_componentPoints_30 rfl ?_
    refine tf_goto 4 d_Mod_componentPoints_35 rfl ?_
    have h9 := ih (k + 1) (x + A 11 (A 13 (4 * i + k)).toNatClampNeg) (by omega)
    rw [show nI (k + 1) = nI k + 1 from nI_succ k] at h9
    exact h9
set_option maxHeartbeats 4000000 in
set_option maxRecDepth 100000 in
theorem c_Mod_componentPoints (hT : tm_at q ad m W0 L J A R f) {i n : Nat} (hi : i < 40) (hn : n ≤ 4) (h12 : A 12 i = nI n) (hs : ∀ k, k < n → vp_in (A 13 (4 * i + k)) 40) : tf_C l (tf_H D q) d i_Mod_componentPoints [.ref m, .int (nI i)] L f 0 0 (tf_rd (.int (tm_cpt A i n 0 (kI 0))) L f) := by
  refine tf_C.of (tf_gok _ _) (by decide) w_1335 (Nat.le_of_ble_eq_true rfl) ?_
  refine tf_blk _ b_Mod_componentPoints_0 rfl ?_
  exact t_Mod_componentPoints l D q d L f hT hi hn h12 hs n 0 (kI 0) (by omega)
set_option maxHeartbeats 4000000 in
set_option maxRecDepth 100000 in
theorem c_Mod_rule_1 (hd : 3 ≤ d) (hT : tm_at q ad m W0 L J A R f) (lo ou : Int32) (be ip af : Int64) (hb : ¬ (tm_isG J ou = true ∧ ¬ lo < 0 ∧ ¬ kI 8 ≤ lo ∧ ¬ nI (tm_len ip 4) ≤ 0 ∧ tm_row J be 2 (tm_len be 2) 0 true = true ∧ tm_row J ip 4 (tm_len ip 4) 0 true = true ∧ tm_row J af 2 (tm_len af 2) 0 true = true)) : tf_C l (tf_H D q) d i_Mod_rule [.ref m, .int lo, .long be, .long ip, .long af, .int ou] L f 0 0 (tm_to q ad m W0 L (some (.int (kI 0))) (upd J 0 (kI 1)) (A) (R)) := by
  refine tf_C.of (tf_gok _ _) (by decide) w_1464 (Nat.le_of_ble_eq_true rfl) ?_
  refine tf_blk _ b_Mod_rule_0 rfl ?_
  refine tf_if_lt 61 4 d_Mod_rule_1 rfl rfl (fun h1 => ?_) (fun h1 => ?_)
  · refine tf_blk _ b_Mod_rule_61 rfl ?_
    refine tf_blk _ b_Mod_rule_62 rfl ?_
    refine tf_if_ne 74 70 d_Mod_rule_67 rfl rfl (fun h67 => absurd h67 (show ¬ ¬ kI 0 = 0 by decide)) (fun h67 => ?_)
    refine tf_blk _ b_Mod_rule_70 rfl ?_
    refine tf_goto 88 d_Mod_rule_71 rfl ?_
    refine tm_put 91 d_Mod_rule_88 rfl fw_Mod_123 hT (by decide) rfl rfl rfl (fun f hT => ?_)
    refine tf_blk _ b_Mod_rule_91 rfl ?_
    refine tm_get 95 d_Mod_rule_92 rfl fl_Mod_123 hT rfl ?_
    refine tf_if_le 100 98 d_Mod_rule_95 rfl rfl (fun h95 => absurd h95 (show ¬ kI 1 ≤ 0 by decide)) (fun h95 => ?_)
    refine tf_blk _ b_Mod_rule_98 rfl ?_
    refine tf_iret d_Mod_rule_99 rfl ?_
    exact ⟨rfl, rfl, hT⟩
  · refine tf_blk _ b_Mod_rule_4 rfl ?_
    refine tf_ic_ge 61 10 d_Mod_rule_7 rfl rfl (fun h7 => ?_) (fun h7 => ?_)
    · refine tf_blk _ b_Mod_rule_61 rfl ?_
      refine tf_blk _ b_Mod_rule_62 rfl ?_
      refine tf_if_ne 74 70 d_Mod_rule_67 rfl rfl (fun h67 => absurd h67 (show ¬ ¬ kI 0 = 0 by decide)) (fun h67 => ?_)
      refine tf_blk _ b_Mod_rule_70 rfl ?_
      refine tf_goto 88 d_Mod_rule_71 rfl ?_
      refine tm_put 91 d_Mod_rule_88 rfl fw_Mod_123 hT (by decide) rfl rfl rfl (fun f hT => ?_)
      refine tf_blk _ b_Mod_rule_91 rfl ?_
      refine tm_get 95 d_Mod_rule_92 rfl fl_Mod_123 hT rfl ?_
      refine tf_if_le 100 98 d_Mod_rule_95 rfl rfl (fun h95 => absurd h95 (show ¬ kI 1 ≤ 0 by decide)) (fun h95 => ?_)
      refine tf_blk _ b_Mod_rule_98 rfl ?_
      refine tf_iret d_Mod_rule_99 rfl ?_
      exact ⟨rfl, rfl, hT⟩
    · refine tf_blk _ b_Mod_rule_10 rfl ?_
      refine tf_cS (tf_gok _ _) (c_Mod_lengthOf l D q (d - 1) _ _ (by omega) ip (w := 4) (by decide)) 16 d_Mod_rule_13 rfl lk_Mod_274 cw_Mod_lengthOf (by rfl) sa_Mod_lengthOf (by omega) (by exact Nat.le_of_ble_eq_true rfl) rfl ?_
      rintro v13 L13 f13 ⟨rfl, rfl, rfl⟩
      refine tf_if_le 61 19 d_Mod_rule_16 rfl rfl (fun h16 => ?_) (fun h16 => ?_)
      · refine tf_blk _ b_Mod_rule_61 rfl ?_
        refine tf_blk _ b_Mod_rule_62 rfl ?_
        refine tf_if_ne 74 70 d_Mod_rule_67 rfl rfl (fun h67 => absurd h67 (show ¬ ¬ kI 0 = 0 by decide)) (fun h67 => ?_)
        refine tf_blk _ b_Mod_rule_70 rfl ?_
        refine tf_goto 88 d_Mod_rule_71 rfl ?_
        refine tm_put 91 d_Mod_rule_88 rfl fw_Mod_123 hT (by decide) rfl rfl rfl (fun f hT => ?_)
        refine tf_blk _ b_Mod_rule_91 rfl ?_
        refine tm_get 95 d_Mod_rule_92 rfl fl_Mod_123 hT rfl ?_
        refine tf_if_le 100 98 d_Mod_rule_95 rfl rfl (fun h95 => absurd h95 (show ¬ kI 1 ≤ 0 by decide)) (fun h95 => ?_)
        refine tf_blk _ b_Mod_rule_98 rfl ?_
        refine tf_iret d_Mod_rule_99 rfl ?_
        exact ⟨rfl, rfl, hT⟩
      · refine tf_blk _ b_Mod_rule_19 rfl ?_
        refine tf_cV (tf_gok _ _) (c_Mod_isRow l D q (d - 1) _ _ (by omega) hT be (w := 2) (by decide)) 25 d_Mod_rule_22 rfl lk_Mod_278 cw_Mod_isRow (by rfl) in_Mod_isRow se_Mod_isRow (by exact hT.1.1) (by exact hT.1.2.1) (by rfl) (by rfl) (by omega) (by exact Nat.le_of_ble_eq_true rfl) rfl ?_
        rintro v22 L22 f22 ⟨rfl, rfl, rfl⟩
        refine tf_if_eq 61 28 d_Mod_rule_25 rfl rfl (fun h25 => ?_) (fun h25 => ?_)
        · refine tf_blk _ b_Mod_rule_61 rfl ?_
          refine tf_blk _ b_Mod_rule_62 rfl ?_
          refine tf_if_ne 74 70 d_Mod_rule_67 rfl rfl (fun h67 => absurd h67 (show ¬ ¬ kI 0 = 0 by decide)) (fun h67 => ?_)
          refine tf_blk _ b_Mod_rule_70 rfl ?_
          refine tf_goto 88 d_Mod_rule_71 rfl ?_
          refine tm_put 91 d_Mod_rule_88 rfl fw_Mod_123 hT (by decide) rfl rfl rfl (fun f hT => ?_)
          refine tf_blk _ b_Mod_rule_91 rfl ?_
          refine tm_get 95 d_Mod_rule_92 rfl fl_Mod_123 hT rfl ?_
          refine tf_if_le 100 98 d_Mod_rule_95 rfl rfl (fun h95 => absurd h95 (show ¬ kI 1 ≤ 0 by decide)) (fun h95 => ?_)
          refine tf_blk _ b_Mod_rule_98 rfl ?_
          refine tf_iret d_Mod_rule_99 rfl ?_
          exact ⟨rfl, rfl, hT⟩
        · refine tf_blk _ b_Mod_rule_28 rfl ?_
          refine tf_cV (tf_gok _ _) (c_Mod_isRow l D q (d - 1) _ _ (by omega) hT ip (w := 4) (by decide)) 35 d_Mod_rule_32 rfl lk_Mod_278 cw_Mod_isRow (by rfl) in_Mod_isRow se_Mod_isRow (by exact hT.1.1) (by exact hT.1.2.1) (by rfl) (by rfl) (by omega) (by exact Nat.le_of_ble_eq_true rfl) rfl ?_
          rintro v32 L32 f32 ⟨rfl, rfl, rfl⟩
          refine tf_if_eq 61 38 d_Mod_rule_35 rfl rfl (fun h35 => ?_) (fun h35 => ?_)
          · refine tf_blk _ b_Mod_rule_61 rfl ?_
            refine tf_blk _ b_Mod_rule_62 rfl ?_
            refine tf_if_ne 74 70 d_Mod_rule_67 rfl rfl (fun h67 => absurd h67 (show ¬ ¬ kI 0 = 0 by decide)) (fun h67 => ?_)
            refine tf_blk _ b_Mod_rule_70 rfl ?_
            refine tf_goto 88 d_Mod_rule_71 rfl ?_
            refine tm_put 91 d_Mod_rule_88 rfl fw_Mod_123 hT (by decide) rfl rfl rfl (fun f hT => ?_)
            refine tf_blk _ b_Mod_rule_91 rfl ?_
            refine tm_get 95 d_Mod_rule_92 rfl fl_Mod_123 hT rfl ?_
            refine tf_if_le 100 98 d_Mod_rule_95 rfl rfl (fun h95 => absurd h95 (show ¬ kI 1 ≤ 0 by decide)) (fun h95 => ?_)
            refine tf_blk _ b_Mod_rule_98 rfl ?_
            refine tf_iret d_Mod_rule_99 rfl ?_
            exact ⟨rfl, rfl, hT⟩
          · refine tf_blk _ b_Mod_rule_38 rfl ?_
            refine tf_cV (tf_gok _ _) (c_Mod_isRow l D q (d - 1) _ _ (by omega) hT af (w := 2) (by decide)) 45 d_Mod_rule_42 rfl lk_Mod_278 cw_Mod_isRow (by rfl) in_Mod_isRow se_Mod_isRow (by exact hT.1.1) (by exact hT.1.2.1) (by rfl) (by rfl) (by omega) (by exact Nat.le_of_ble_eq_true rfl) rfl ?_
            rintro v42 L42 f42 ⟨rfl, rfl, rfl⟩
            refine tf_if_eq 61 48 d_Mod_rule_45 rfl rfl (fun h45 => ?_) (fun h45 => ?_)
            · refine tf_blk _ b_Mod_rule_61 rfl ?_
              refine tf_blk _ b_Mod_rule_62 rfl ?_
              refine tf_if_ne 74 70 d_Mod_rule_67 rfl rfl (fun h67 => absurd h67 (show ¬ ¬ kI 0 = 0 by decide)) (fun h67 => ?_)
              refine tf_blk _ b_Mod_rule_70 rfl ?_
              refine tf_goto 88 d_Mod_rule_71 rfl ?_
              refine tm_put 91 d_Mod_rule_88 rfl fw_Mod_123 hT (by decide) rfl rfl rfl (fun f hT => ?_)
              refine tf_blk _ b_Mod_rule_91 rfl ?_
              refine tm_get 95 d_Mod_rule_92 rfl fl_Mod_123 hT rfl ?_
              refine tf_if_le 100 98 d_Mod_rule_95 rfl rfl (fun h95 => absurd h95 (show ¬ kI 1 ≤ 0 by decide)) (fun h95 => ?_)
              refine tf_blk _ b_Mod_rule_98 rfl ?_
              refine tf_iret d_Mod_rule_99 rfl ?_
              exact ⟨rfl, rfl, hT⟩
            · refine tf_blk _ b_Mod_rule_48 rfl ?_
              refine tf_cV (tf_gok _ _) (c_Mod_isGlyph l D q (d - 1) _ _ hT _) 54 d_Mod_rule_51 rfl lk_Mod_148 cw_Mod_isGlyph (by rfl) in_Mod_isGlyph se_Mod_isGlyph (by exact hT.1.1) (by exact hT.1.2.1) (by rfl) (by rfl) (by omega) (by exact Nat.le_of_ble_eq_true rfl) rfl ?_
              rintro v51 L51 f51 ⟨rfl, rfl, rfl⟩
              refine tf_if_eq 61 57 d_Mod_rule_54 rfl rfl (fun h54 => ?_) (fun h54 => ?_)
              · refine tf_blk _ b_Mod_rule_61 rfl ?_
                refine tf_blk _ b_Mod_rule_62 rfl ?_
                refine tf_if_ne 74 70 d_Mod_rule_67 rfl rfl (fun h67 => absurd h67 (show ¬ ¬ kI 0 = 0 by decide)) (fun h67 => ?_)
                refine tf_blk _ b_Mod_rule_70 rfl ?_
                refine tf_goto 88 d_Mod_rule_71 rfl ?_
                refine tm_put 91 d_Mod_rule_88 rfl fw_Mod_123 hT (by decide) rfl rfl rfl (fun f hT => ?_)
                refine tf_blk _ b_Mod_rule_91 rfl ?_
                refine tm_get 95 d_Mod_rule_92 rfl fl_Mod_123 hT rfl ?_
                refine tf_if_le 100 98 d_Mod_rule_95 rfl rfl (fun h95 => absurd h95 (show ¬ kI 1 ≤ 0 by decide)) (fun h95 => ?_)
                refine tf_blk _ b_Mod_rule_98 rfl ?_
                refine tf_iret d_Mod_rule_99 rfl ?_
                exact ⟨rfl, rfl, hT⟩
              · exact absurd ⟨bI_t h54, h1, h7, h16, bI_t h25, bI_t h35, bI_t h45⟩ hb
set_option maxHeartbeats 4000000 in
set_option maxRecDepth 100000 in
theorem c_Mod_rule_2 (hd : 3 ≤ d) (hT : tm_at q ad m W0 L J A R f) (lo ou : Int32) (be ip af : Int64) (hg : tm_isG J ou = true ∧ ¬ lo < 0 ∧ ¬ kI 8 ≤ lo ∧ ¬ nI (tm_len ip 4) ≤ 0 ∧ tm_row J be 2 (tm_len be 2) 0 true = true ∧ tm_row J ip 4 (tm_len ip 4) 0 true = true ∧ tm_row J af 2 (tm_len af 2) 0 true = true) (h47 : J 47 = kI 40) : tf_C l (tf_H D q) d i_Mod_rule [.ref m, .int lo, .long be, .long ip, .long af, .int ou] L f 0 0 (tm_to q ad m W0 L (some (.int (kI 0))) (upd J 0 (kI 2)) (A) (R)) := by
  refine tf_C.of (tf_gok _ _) (by decide) w_1464 (Nat.le_of_ble_eq_true rfl) ?_
  refine tf_blk _ b_Mod_rule_0 rfl ?_
  refine tf_if_lt 61 4 d_Mod_rule_1 rfl rfl (fun h1 => absurd h1 (hg.2.1)) (fun h1 => ?_)
  refine tf_blk _ b_Mod_rule_4 rfl ?_
  refine tf_ic_ge 61 10 d_Mod_rule_7 rfl rfl (fun h7 => absurd h7 (hg.2.2.1)) (fun h7 => ?_)
  refine tf_blk _ b_Mod_rule_10 rfl ?_
  refine tf_cS (tf_gok _ _) (c_Mod_lengthOf l D q (d - 1) _ _ (by omega) ip (w := 4) (by decide)) 16 d_Mod_rule_13 rfl lk_Mod_274 cw_Mod_lengthOf (by rfl) sa_Mod_lengthOf (by omega) (by exact Nat.le_of_ble_eq_true rfl) rfl ?_
  rintro v13 L13 f13 ⟨rfl, rfl, rfl⟩
  refine tf_if_le 61 19 d_Mod_rule_16 rfl rfl (fun h16 => absurd h16 (hg.2.2.2.1)) (fun h16 => ?_)
  refine tf_blk _ b_Mod_rule_19 rfl ?_
  refine tf_cV (tf_gok _ _) (c_Mod_isRow l D q (d - 1) _ _ (by omega) hT be (w := 2) (by decide)) 25 d_Mod_rule_22 rfl lk_Mod_278 cw_Mod_isRow (by rfl) in_Mod_isRow se_Mod_isRow (by exact hT.1.1) (by exact hT.1.2.1) (by rfl) (by rfl) (by omega) (by exact Nat.le_of_ble_eq_true rfl) rfl ?_
  rintro v22 L22 f22 ⟨rfl, rfl, rfl⟩
  refine tf_if_eq 61 28 d_Mod_rule_25 rfl rfl (fun h25 => absurd h25 (by rw [hg.2.2.2.2.1]; decide)) (fun h25 => ?_)
  refine tf_blk _ b_Mod_rule_28 rfl ?_
  refine tf_cV (tf_gok _ _) (c_Mod_isRow l D q (d - 1) _ _ (by omega) hT ip (w := 4) (by decide)) 35 d_Mod_rule_32 rfl lk_Mod_278 cw_Mod_isRow (by rfl) in_Mod_isRow se_Mod_isRow (by exact hT.1.1) (by exact hT.1.2.1) (by rfl) (by rfl) (by omega) (by exact Nat.le_of_ble_eq_true rfl) rfl ?_
  rintro v32 L32 f32 ⟨rfl, rfl, rfl⟩
  refine tf_if_eq 61 38 d_Mod_rule_35 rfl rfl (fun h35 => absurd h35 (by rw [hg.2.2.2.2.2.1]; decide)) (fun h35 => ?_)
  refine tf_blk _ b_Mod_rule_38 rfl ?_
  refine tf_cV (tf_gok _ _) (c_Mod_isRow l D q (d - 1) _ _ (by omega) hT af (w := 2) (by decide)) 45 d_Mod_rule_42 rfl lk_Mod_278 cw_Mod_isRow (by rfl) in_Mod_isRow se_Mod_isRow (by exact hT.1.1) (by exact hT.1.2.1) (by rfl) (by rfl) (by omega) (by exact Nat.le_of_ble_eq_true rfl) rfl ?_
  rintro v42 L42 f42 ⟨rfl, rfl, rfl⟩
  refine tf_if_eq 61 48 d_Mod_rule_45 rfl rfl (fun h45 => absurd h45 (by rw [hg.2.2.2.2.2.2]; decide)) (fun h45 => ?_)
  refine tf_blk _ b_Mod_rule_48 rfl ?_
  refine tf_cV (tf_gok _ _) (c_Mod_isGlyph l D q (d - 1) _ _ hT _) 54 d_Mod_rule_51 rfl lk_Mod_148 cw_Mod_isGlyph (by rfl) in_Mod_isGlyph se_Mod_isGlyph (by exact hT.1.1) (by exact hT.1.2.1) (by rfl) (by rfl) (by omega) (by exact Nat.le_of_ble_eq_true rfl) rfl ?_
  rintro v51 L51 f51 ⟨rfl, rfl, rfl⟩
  refine tf_if_eq 61 57 d_Mod_rule_54 rfl rfl (fun h54 => absurd h54 (by rw [hg.1]; decide)) (fun h54 => ?_)
  refine tf_blk _ b_Mod_rule_57 rfl ?_
  refine tf_goto 62 d_Mod_rule_58 rfl ?_
  refine tf_blk _ b_Mod_rule_62 rfl ?_
  refine tf_if_ne 74 70 d_Mod_rule_67 rfl rfl (fun h67 => ?_) (fun h67 => absurd h67 (show ¬ kI 1 = 0 by decide))
  refine tf_blk _ b_Mod_rule_74 rfl ?_
  refine tm_get 78 d_Mod_rule_75 rfl fl_Mod_282 hT rfl ?_
  refine tf_blk _ b_Mod_rule_78 rfl ?_
  refine tf_ic_ne 87 83 d_Mod_rule_80 rfl rfl (fun h80 => absurd h80 (not_not_intro h47)) (fun h80 => ?_)
  refine tf_blk _ b_Mod_rule_83 rfl ?_
  refine tf_goto 88 d_Mod_rule_84 rfl ?_
  refine tm_put 91 d_Mod_rule_88 rfl fw_Mod_123 hT (by decide) rfl rfl rfl (fun f hT => ?_)
  refine tf_blk _ b_Mod_rule_91 rfl ?_
  refine tm_get 95 d_Mod_rule_92 rfl fl_Mod_123 hT rfl ?_
  refine tf_if_le 100 98 d_Mod_rule_95 rfl rfl (fun h95 => absurd h95 (show ¬ kI 2 ≤ 0 by decide)) (fun h95 => ?_)
  refine tf_blk _ b_Mod_rule_98 rfl ?_
  refine tf_iret d_Mod_rule_99 rfl ?_
  exact ⟨rfl, rfl, hT⟩
set_option maxHeartbeats 4000000 in
set_option maxRecDepth 100000 in
theorem c_Mod_rule_t (hd : 3 ≤ d) (hT : tm_at q ad m W0 L J A R f) (lo ou : Int32) (be ip af : Int64) {n : Nat} (hn : n < 40) (hg : tm_isG J ou = true ∧ ¬ lo < 0 ∧ ¬ kI 8 ≤ lo ∧ ¬ nI (tm_len ip 4) ≤ 0 ∧ tm_row J be 2 (tm_len be 2) 0 true = true ∧ tm_row J ip 4 (tm_len ip 4) 0 true = true ∧ tm_row J af 2 (tm_len af 2) 0 true = true) (h47 : J 47 = nI n) : tf_C l (tf_H D q) d i_Mod_rule [.ref m, .int lo, .long be, .long ip, .long af, .int ou] L f 0 0 (tm_to q ad m W0 L (some (.int (nI n + kI 1 - kI 1))) (upd (upd J 0 (kI 0)) 47 (nI n + kI 1)) (va_up (va_up (va_up (va_up A 42 (upd (A 42) n lo)) 43 (upd (A 43) n ou)) 44 (upd (A 44) n (be &&& 65535).toInt32)) 46 (upd (A 46) n (af &&& 65535).toInt32)) (vp_updL R n (ip &&& 4294967295))) := by
  have hz : upd J 0 (kI 0) 47 = nI n := h47
  have hv : vp_in (upd J 0 (kI 0) 47) 40 := by rw [hz]; exact vp_in_nI (by omega) (by omega)
  have hc : (upd J 0 (kI 0) 47).toNatClampNeg = n := by rw [hz]; exact nI_clamp (by omega)
  refine tf_C.of (tf_gok _ _) (by decide) w_1464 (Nat.le_of_ble_eq_true rfl) ?_
  refine tf_blk _ b_Mod_rule_0 rfl ?_
  refine tf_if_lt 61 4 d_Mod_rule_1 rfl rfl (fun h1 => absurd h1 (hg.2.1)) (fun h1 => ?_)
  refine tf_blk _ b_Mod_rule_4 rfl ?_
  refine tf_ic_ge 61 10 d_Mod_rule_7 rfl rfl (fun h7 => absurd h7 (hg.2.2.1)) (fun h7 => ?_)
  refine tf_blk _ b_Mod_rule_10 rfl ?_
  refine tf_cS (tf_gok _ _) (c_Mod_lengthOf l D q (d - 1) _ _ (by omega) ip (w := 4) (by decide)) 16 d_Mod_rule_13 rfl lk_Mod_274 cw_Mod_lengthOf (by rfl) sa_Mod_lengthOf (by omega) (by exact Nat.le_of_ble_eq_true rfl) rfl ?_
  rintro v13 L13 f13 ⟨rfl, rfl, rfl⟩
  refine tf_if_le 61 19 d_Mod_rule_16 rfl rfl (fun h16 => absurd h16 (hg.2.2.2.1)) (fun h16 => ?_)
  refine tf_blk _ b_Mod_rule_19 rfl ?_
  refine tf_cV (tf_gok _ _) (c_Mod_isRow l D q (d - 1) _ _ (by omega) hT be (w := 2) (by decide)) 25 d_Mod_rule_22 rfl lk_Mod_278 cw_Mod_isRow (by rfl) in_Mod_isRow se_Mod_isRow (by exact hT.1.1) (by exact hT.1.2.1) (by rfl) (by rfl) (by omega) (by exact Nat.le_of_ble_eq_true rfl) rfl ?_
  rintro v22 L22 f22 ⟨rfl, rfl, rfl⟩
  refine tf_if_eq 61 28 d_Mod_rule_25 rfl rfl (fun h25 => absurd h25 (by rw [hg.2.2.2.2.1]; decide)) (fun h25 => ?_)
  refine tf_blk _ b_Mod_rule_28 rfl ?_
  refine tf_cV (tf_gok _ _) (c_Mod_isRow l D q (d - 1) _ _ (by omega) hT ip (w := 4) (by decide)) 35 d_Mod_rule_32 rfl lk_Mod_278 cw_Mod_isRow (by rfl) in_Mod_isRow se_Mod_isRow (by exact hT.1.1) (by exact hT.1.2.1) (by rfl) (by rfl) (by omega) (by exact Nat.le_of_ble_eq_true rfl) rfl ?_
  rintro v32 L32 f32 ⟨rfl, rfl, rfl⟩
  refine tf_if_eq 61 38 d_Mod_rule_35 rfl rfl (fun h35 => absurd h35 (by rw [hg.2.2.2.2.2.1]; decide)) (fun h35 => ?_)
  refine tf_blk _ b_Mod_rule_38 rfl ?_
  refine tf_cV (tf_gok _ _) (c_Mod_isRow l D q (d - 1) _ _ (by omega) hT af (w := 2) (by decide)) 45 d_Mod_rule_42 rfl lk_Mod_278 cw_Mod_isRow (by rfl) in_Mod_isRow se_Mod_isRow (by exact hT.1.1) (by exact hT.1.2.1) (by rfl) (by rfl) (by omega) (by exact Nat.le_of_ble_eq_true rfl) rfl ?_
  rintro v42 L42 f42 ⟨rfl, rfl, rfl⟩
  refine tf_if_eq 61 48 d_Mod_rule_45 rfl rfl (fun h45 => absurd h45 (by rw [hg.2.2.2.2.2.2]; decide)) (fun h45 => ?_)
  refine tf_blk _ b_Mod_rule_48 rfl ?_
  refine tf_cV (tf_gok _ _) (c_Mod_isGlyph l D q (d - 1) _ _ hT _) 54 d_Mod_rule_51 rfl lk_Mod_148 cw_Mod_isGlyph (by rfl) in_Mod_isGlyph se_Mod_isGlyph (by exact hT.1.1) (by exact hT.1.2.1) (by rfl) (by rfl) (by omega) (by exact Nat.le_of_ble_eq_true rfl) rfl ?_
  rintro v51 L51 f51 ⟨rfl, rfl, rfl⟩
  refine tf_if_eq 61 57 d_Mod_rule_54 rfl rfl (fun h54 => absurd h54 (by rw [hg.1]; decide)) (fun h54 => ?_)
  refine tf_blk _ b_Mod_rule_57 rfl ?_
  refine tf_goto 62 d_Mod_rule_58 rfl ?_
  refine tf_blk _ b_Mod_rule_62 rfl ?_
  refine tf_if_ne 74 70 d_Mod_rule_67 rfl rfl (fun h67 => ?_) (fun h67 => absurd h67 (show ¬ kI 1 = 0 by decide))
  refine tf_blk _ b_Mod_rule_74 rfl ?_
  refine tm_get 78 d_Mod_rule_75 rfl fl_Mod_282 hT rfl ?_
  refine tf_blk _ b_Mod_rule_78 rfl ?_
  refine tf_ic_ne 87 83 d_Mod_rule_80 rfl rfl (fun h80 => ?_) (fun h80 => absurd h80 (by rw [h47]; exact fun z => absurd ((nI_eq (b := 40) (by omega) (by omega)).mp z) (by omega)))
  refine tf_blk _ b_Mod_rule_87 rfl ?_
  refine tm_put 91 d_Mod_rule_88 rfl fw_Mod_123 hT (by decide) rfl rfl rfl (fun f hT => ?_)
  refine tf_blk _ b_Mod_rule_91 rfl ?_
  refine tm_get 95 d_Mod_rule_92 rfl fl_Mod_123 hT rfl ?_
  refine tf_if_le 100 98 d_Mod_rule_95 rfl rfl (fun h95 => ?_) (fun h95 => absurd (show kI 0 ≤ 0 by decide) h95)
  refine tf_blk _ b_Mod_rule_100 rfl ?_
  refine tm_get 104 d_Mod_rule_101 rfl fl_Mod_97 hT rfl ?_
  refine tf_blk _ b_Mod_rule_104 rfl ?_
  refine tm_get 108 d_Mod_rule_105 rfl fl_Mod_282 hT rfl ?_
  refine tf_blk _ b_Mod_rule_108 rfl ?_
  refine tm_iast _ 110 d_Mod_rule_109 rfl hT rfl (hv) (fun f hT => ?_)
  refine tf_blk _ b_Mod_rule_110 rfl ?_
  refine tm_get 114 d_Mod_rule_111 rfl fl_Mod_100 hT rfl ?_
  refine tf_blk _ b_Mod_rule_114 rfl ?_
  refine tm_get 118 d_Mod_rule_115 rfl fl_Mod_282 hT rfl ?_
  refine tf_blk _ b_Mod_rule_118 rfl ?_
  refine tm_iast _ 121 d_Mod_rule_120 rfl hT rfl (hv) (fun f hT => ?_)
  refine tf_blk _ b_Mod_rule_121 rfl ?_
  refine tm_get 125 d_Mod_rule_122 rfl fl_Mod_103 hT rfl ?_
  refine tf_blk _ b_Mod_rule_125 rfl ?_
  refine tm_get 129 d_Mod_rule_126 rfl fl_Mod_282 hT rfl ?_
  refine tf_blk _ b_Mod_rule_129 rfl ?_
  refine tf_ldc2 133 d_Mod_rule_130 rfl w_1475 ?_
  refine tf_blk _ b_Mod_rule_133 rfl ?_
  refine tm_iast _ 136 d_Mod_rule_135 rfl hT rfl (hv) (fun f hT => ?_)
  refine tf_blk _ b_Mod_rule_136 rfl ?_
  refine tm_get 140 d_Mod_rule_137 rfl fl_Mod_106 hT rfl ?_
  refine tf_blk _ b_Mod_rule_140 rfl ?_
  refine tm_get 144 d_Mod_rule_141 rfl fl_Mod_282 hT rfl ?_
  refine tf_blk _ b_Mod_rule_144 rfl ?_
  refine tf_ldc2 149 d_Mod_rule_146 rfl w_1476 ?_
  refine tf_blk _ b_Mod_rule_149 rfl ?_
  refine tm_lastr 151 d_Mod_rule_150 rfl hT (hv) (fun f hT => ?_)
  refine tf_blk _ b_Mod_rule_151 rfl ?_
  refine tm_get 155 d_Mod_rule_152 rfl fl_Mod_110 hT rfl ?_
  refine tf_blk _ b_Mod_rule_155 rfl ?_
  refine tm_get 159 d_Mod_rule_156 rfl fl_Mod_282 hT rfl ?_
  refine tf_blk _ b_Mod_rule_159 rfl ?_
  refine tf_ldc2 164 d_Mod_rule_161 rfl w_1475 ?_
  refine tf_blk _ b_Mod_rule_164 rfl ?_
  refine tm_iast _ 167 d_Mod_rule_166 rfl hT rfl (hv) (fun f hT => ?_)
  refine tf_blk _ b_Mod_rule_167 rfl ?_
  refine tm_get 172 d_Mod_rule_169 rfl fl_Mod_282 hT rfl ?_
  refine tf_blk _ b_Mod_rule_172 rfl ?_
  refine tm_put 177 d_Mod_rule_174 rfl fw_Mod_282 hT (by decide) rfl rfl rfl (fun f hT => ?_)
  refine tf_blk _ b_Mod_rule_177 rfl ?_
  refine tm_get 181 d_Mod_rule_178 rfl fl_Mod_282 hT rfl ?_
  refine tf_blk _ b_Mod_rule_181 rfl ?_
  refine tf_iret d_Mod_rule_183 rfl ?_
  rw [hc, hz] at hT
  exact ⟨by rw [hz]; rfl, rfl, hT⟩
end
