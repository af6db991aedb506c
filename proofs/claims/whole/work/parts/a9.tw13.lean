/-! the reference: tell, outline -/
def tm_o2 (J : Nat → Int32) (A : Nat → Nat → Int32) (x : tm_OU) (J2 : Nat → Int32) (A2 : Nat → Nat → Int32) : Prop :=
  (∀ k, k ≠ 23 → k ≠ 24 → k ≠ 27 → k ≠ 28 → J2 k = J k) ∧ J2 23 = nI x.2.2.2.2.1 ∧ J2 24 = nI x.2.2.2.2.2 ∧ (∀ k, k ≠ 19 → k ≠ 20 → k ≠ 21 → k ≠ 22 → k ≠ 25 → k ≠ 26 → A2 k = A k) ∧ A2 19 = x.1 ∧ A2 20 = x.2.1 ∧ A2 21 = x.2.2.1 ∧ A2 22 = x.2.2.2.1
theorem tm_o2_25 {J : Nat → Int32} {A : Nat → Nat → Int32} {x : tm_OU} {J2 : Nat → Int32} {A2 : Nat → Nat → Int32} (h : tm_o2 J A x J2 A2) (g : Nat → Int32) : tm_o2 J A x J2 (va_up A2 25 g) := by
  obtain ⟨h1, h2, h3, h4, h5, h6, h7, h8⟩ := h
  exact ⟨h1, h2, h3, fun k k1 k2 k3 k4 k5 k6 => (va_up_ne _ _ k5).trans (h4 k k1 k2 k3 k4 k5 k6), h5, h6, h7, h8⟩
theorem tm_o2_26 {J : Nat → Int32} {A : Nat → Nat → Int32} {x : tm_OU} {J2 : Nat → Int32} {A2 : Nat → Nat → Int32} (h : tm_o2 J A x J2 A2) (g : Nat → Int32) : tm_o2 J A x J2 (va_up A2 26 g) := by
  obtain ⟨h1, h2, h3, h4, h5, h6, h7, h8⟩ := h
  exact ⟨h1, h2, h3, fun k k1 k2 k3 k4 k5 k6 => (va_up_ne _ _ k6).trans (h4 k k1 k2 k3 k4 k5 k6), h5, h6, h7, h8⟩
theorem tm_o2_o {J : Nat → Int32} {A : Nat → Nat → Int32} {x y : tm_OU} {J2 J3 : Nat → Int32} {A2 A3 : Nat → Nat → Int32} (h : tm_o2 J A x J2 A2) (k : tm_o J2 A2 y J3 A3) : tm_o2 J A y J3 A3 := by
  obtain ⟨h1, h2, h3, h4, h5, h6, h7, h8⟩ := h
  obtain ⟨k1, k2, k3, k4, k5, k6, k7, k8⟩ := k
  exact ⟨fun z z1 z2 z3 z4 => (k1 z z1 z2 z3 z4).trans (h1 z z1 z2 z3 z4), k2, k3, fun z z1 z2 z3 z4 z5 z6 => (k4 z z1 z2 z3 z4).trans (h4 z z1 z2 z3 z4 z5 z6), k5, k6, k7, k8⟩
theorem tm_o2_x {J : Nat → Int32} {A : Nat → Nat → Int32} {x : tm_OU} {J2 : Nat → Int32} {A2 : Nat → Nat → Int32} (h : tm_o2 J A x J2 A2) : (A2 19, A2 20, A2 21, A2 22, x.2.2.2.2.1, x.2.2.2.2.2) = x := by
  rw [h.2.2.2.2.1, h.2.2.2.2.2.1, h.2.2.2.2.2.2.1, h.2.2.2.2.2.2.2]
/-- the glyphs as they are composed: parts, what they are, their turns, depth, closed points, contours -/
def tm_tree (A : Nat → Nat → Int32) (Pn : Nat → Nat) (Pc tr : Nat → Nat → Nat) (ht Kc Cc : Nat → Nat) : Prop := ∀ g, g < 40 → A 12 g = nI (Pn g) ∧ Pn g ≤ 4 ∧ A 6 g = nI (Kc g) ∧ Kc g ≤ 40 ∧ A 7 g = nI (Cc g) ∧ Cc g ≤ 40 ∧ ht g ≤ 4 ∧ ∀ k, k < Pn g → A 13 (4 * g + k) = nI (Pc g k) ∧ Pc g k < 40 ∧ ht (Pc g k) < ht g ∧ A 16 (4 * g + k) = nI (tr g k) ∧ tr g k < 8
def tm_tc (J : Nat → Int32) (A : Nat → Nat → Int32) (tr : Nat → Nat → Nat) (Kc Cc : Nat → Nat) (n : Nat) (pg np : Nat → Nat) (x : tm_OU) : tm_OU :=
  tm_tcc (tm_pp J A pg np (fun e => tr (pg e) (np e)) n) (A 4) (pg n) (Kc (pg n)) (tm_bk (fun e => tr (pg e) (np e)) n 0 false) (Cc (pg n)) 0 x
def tm_fold (h : Nat → tm_OU → tm_OU) : Nat → Nat → tm_OU → tm_OU
  | 0, _, x => x
  | w + 1, k, x => tm_fold h w (k + 1) (h k x)
def tm_sub (Pn : Nat → Nat) (Pc : Nat → Nat → Nat) (TC : Nat → (Nat → Nat) → (Nat → Nat) → tm_OU → tm_OU) : Nat → Nat → (Nat → Nat) → (Nat → Nat) → tm_OU → tm_OU
  | 0, _, _, _, x => x
  | F + 1, n, pg, np, x => tm_fold (fun k y => tm_sub Pn Pc TC F (n + 1) (va_up pg (n + 1) (Pc (pg n) k)) (va_up np n k) y) (Pn (pg n)) 0 (TC n pg np x)
theorem tm_fold_le {h : Nat → tm_OU → tm_OU} (hh : ∀ k x, x.2.2.2.2.1 ≤ (h k x).2.2.2.2.1) : ∀ w k x, x.2.2.2.2.1 ≤ (tm_fold h w k x).2.2.2.2.1 := by
  intro w
  induction w with
  | zero => intro k x; exact Nat.le_refl _
  | succ w ih => intro k x; exact Nat.le_trans (hh k x) (ih _ _)
theorem tm_sub_le (Pn : Nat → Nat) (Pc : Nat → Nat → Nat) {TC : Nat → (Nat → Nat) → (Nat → Nat) → tm_OU → tm_OU} (hT : ∀ n pg np x, x.2.2.2.2.1 ≤ (TC n pg np x).2.2.2.2.1) : ∀ F n pg np x, x.2.2.2.2.1 ≤ (tm_sub Pn Pc TC F n pg np x).2.2.2.2.1 := by
  intro F
  induction F with
  | zero => intro n pg np x; exact Nat.le_refl _
  | succ F ih => intro n pg np x; exact Nat.le_trans (hT n pg np x) (tm_fold_le (fun k y => ih _ _ _ y) _ _ _)
theorem tm_tc_le (J : Nat → Int32) (A : Nat → Nat → Int32) (tr : Nat → Nat → Nat) (Kc Cc : Nat → Nat) (n : Nat) (pg np : Nat → Nat) (x : tm_OU) : x.2.2.2.2.1 ≤ (tm_tc J A tr Kc Cc n pg np x).2.2.2.2.1 := tm_tcc_le _ _ _ _ _ _ _ _
/-- the pile below row n -/
def tm_pile (A : Nat → Nat → Int32) (Pn : Nat → Nat) (pg np : Nat → Nat) (n : Nat) : Prop := ∀ e, e < n → A 25 e = nI (pg e) ∧ A 26 e = nI (np e + 1) ∧ pg e < 40 ∧ np e < Pn (pg e)
/-- all but what tell writes, and thrown -/
def tm_o3 (J : Nat → Int32) (A : Nat → Nat → Int32) (J2 : Nat → Int32) (A2 : Nat → Nat → Int32) : Prop :=
  (∀ k, k ≠ 0 → k ≠ 23 → k ≠ 24 → k ≠ 27 → k ≠ 28 → J2 k = J k) ∧ ∀ k, k ≠ 19 → k ≠ 20 → k ≠ 21 → k ≠ 22 → k ≠ 25 → k ≠ 26 → A2 k = A k
theorem tm_tc_J (J : Nat → Int32) (v : Int32) (A : Nat → Nat → Int32) (tr : Nat → Nat → Nat) (Kc Cc : Nat → Nat) : tm_tc (upd J 0 v) A tr Kc Cc = tm_tc J A tr Kc Cc := by
  funext n pg np x
  rfl
theorem tm_o2_3 {J : Nat → Int32} {A : Nat → Nat → Int32} {x : tm_OU} {J2 : Nat → Int32} {A2 : Nat → Nat → Int32} {u v : Int32} (h : tm_o2 (upd J 0 v) A x J2 A2) : tm_o3 J A (upd J2 0 u) A2 := by
  refine ⟨fun k k0 k1 k2 k3 k4 => ?_, h.2.2.2.1⟩
  rw [show upd J2 0 u k = J2 k from if_neg k0, h.1 k k1 k2 k3 k4]
  exact if_neg k0
theorem tm_wid_J {J J2 : Nat → Int32} {A A2 : Nat → Nat → Int32} (h : tm_o3 J A J2 A2) (i : Nat) : tm_wid J2 A2 i = tm_wid J A i := by
  unfold tm_wid
  rw [tm_btw_J (h.1 1 (by decide) (by decide) (by decide) (by decide) (by decide)) (h.1 17 (by decide) (by decide) (by decide) (by decide) (by decide)) (h.1 18 (by decide) (by decide) (by decide) (by decide) (by decide)), h.2 8 (by decide) (by decide) (by decide) (by decide) (by decide) (by decide)]
theorem nI_negl (n : Nat) (h : n ≤ 160) : kI (-1) < nI n := by
  rw [Int32.lt_iff_toInt_lt, nI_toInt (by omega), show (kI (-1)).toInt = -1 from by decide]
  omega
theorem nI_nem1 {j : Nat} (h : j ≤ 160) : ¬ nI j = kI (-1) := fun z => absurd (nI_negl j h) (by rw [z]; decide)
section
variable (l : Launch) (D : va_G) (q : Nat → ClassId) (d : Nat) (L : List Nat) (f : tf_F) {ad : Nat → Nat} {m : Nat} {W0 : tf_F} {J : Nat → Int32} {A : Nat → Nat → Int32} {R : Nat → Int64}
theorem c_Mod_tellContours2 (hd : 4 ≤ d) {Pn : Nat → Nat} {Pc tr : Nat → Nat → Nat} {ht Kc Cc : Nat → Nat} (hW : tm_tree A Pn Pc tr ht Kc Cc) {x : tm_OU} {J2 : Nat → Int32} {A2 : Nat → Nat → Int32} (hT : tm_at q ad m W0 L J2 A2 R f) (hO : tm_o2 J A x J2 A2) {n : Nat} {pg np : Nat → Nat} (hn : n ≤ 5) (hP : tm_pile A2 Pn pg np n) (hg : pg n < 40) (h25 : A2 25 n = nI (pg n)) (hS : (tm_tc J A tr Kc Cc n pg np x).2.2.2.2.1 ≤ 160) : tf_C l (tf_H D q) d i_Mod_tellContours [.ref m, .int (nI n)] L f 0 0 (fun v L2 f2 => v = none ∧ L2 = L ∧ ∃ (J3 : Nat → Int32) (A3 : Nat → Nat → Int32), tm_at q ad m W0 L J3 A3 R f2 ∧ tm_o2 J A (tm_tc J A tr Kc Cc n pg np x) J3 A3 ∧ A3 25 = A2 25 ∧ A3 26 = A2 26) := by
  obtain ⟨w1, w2, w3, w4, w5, w6, w7, w8⟩ := hW (pg n) hg
  have ea : ∀ k, k ≠ 19 → k ≠ 20 → k ≠ 21 → k ≠ 22 → k ≠ 25 → k ≠ 26 → A2 k = A k := hO.2.2.2.1
  have e3 := ea 3 (by decide) (by decide) (by decide) (by decide) (by decide) (by decide)
  have e4 := ea 4 (by decide) (by decide) (by decide) (by decide) (by decide) (by decide)
  have e6 := ea 6 (by decide) (by decide) (by decide) (by decide) (by decide) (by decide)
  have e7 := ea 7 (by decide) (by decide) (by decide) (by decide) (by decide) (by decide)
  have e14 := ea 14 (by decide) (by decide) (by decide) (by decide) (by decide) (by decide)
  have e15 := ea 15 (by decide) (by decide) (by decide) (by decide) (by decide) (by decide)
  have e16 := ea 16 (by decide) (by decide) (by decide) (by decide) (by decide) (by decide)
  have hP2 : tm_pl A2 pg np (fun e => tr (pg e) (np e)) n := fun e he => by
    obtain ⟨p1, p2, p3, p4⟩ := hP e he
    obtain ⟨v1, v2, v3, v4, v5, v6, v7, v8⟩ := hW (pg e) p3
    obtain ⟨u1, u2, u3, u4, u5⟩ := v8 (np e) p4
    exact ⟨p1, p2, p3, by omega, by rw [e16]; exact u4, u5⟩
  have ept : tm_pp J2 A2 pg np (fun e => tr (pg e) (np e)) n = tm_pp J A pg np (fun e => tr (pg e) (np e)) n := by
    funext p
    unfold tm_pp
    rw [e14, e15, e3, tm_pnt_J (hO.1 1 (by decide) (by decide) (by decide) (by decide)) (hO.1 17 (by decide) (by decide) (by decide) (by decide)) (hO.1 18 (by decide) (by decide) (by decide) (by decide))]
  have etc : tm_tcc (tm_pp J2 A2 pg np (fun e => tr (pg e) (np e)) n) (A2 4) (pg n) (Kc (pg n)) (tm_bk (fun e => tr (pg e) (np e)) n 0 false) (Cc (pg n)) 0 (A2 19, A2 20, A2 21, A2 22, x.2.2.2.2.1, x.2.2.2.2.2) = tm_tc J A tr Kc Cc n pg np x := by
    rw [ept, e4, tm_o2_x hO]
    rfl
  have h := c_Mod_tellContours l D q d L f hd hT (g := pg n) (K := Kc (pg n)) (C := Cc (pg n)) hn hg w4 (by rw [e6]; exact w3) (by rw [e7]; exact w5) w6 hP2 h25 hO.2.1 hO.2.2.1 (by rw [etc]; exact hS)
  rw [etc] at h
  refine tf_C.mono h ?_
  rintro v L2 f2 ⟨rfl, rfl, J3, A3, k1, k2⟩
  exact ⟨rfl, rfl, J3, A3, k1, tm_o2_o hO k2, k2.2.2.2.1 25 (by decide) (by decide) (by decide) (by decide), k2.2.2.2.1 26 (by decide) (by decide) (by decide) (by decide)⟩
set_option maxHeartbeats 4000000 in
set_option maxRecDepth 100000 in
theorem t_Mod_tell (hd : 5 ≤ d) {QB : tf_B} {kc ks : Nat} {g0 : Int32} {Pn : Nat → Nat} {Pc tr : Nat → Nat → Nat} {ht Kc Cc : Nat → Nat} (hW : tm_tree A Pn Pc tr ht Kc Cc) : ∀ F w k n (pg np : Nat → Nat) (x : tm_OU) (J2 : Nat → Int32) (A2 : Nat → Nat → Int32) (f : tf_F), k + w = Pn (pg n) → pg n < 40 → ht (pg n) ≤ F → n + ht (pg n) ≤ 4 → tm_pile A2 Pn pg np n → A2 25 n = nI (pg n) → A2 26 n = nI k → (tm_fold (fun z y => tm_sub Pn Pc (tm_tc J A tr Kc Cc) F (n + 1) (va_up pg (n + 1) (Pc (pg n) z)) (va_up np n z) y) w k x).2.2.2.2.1 ≤ 160 → tm_at q ad m W0 L J2 A2 R f → tm_o2 J A x J2 A2 → (∀ (J3 : Nat → Int32) (A3 : Nat → Nat → Int32) (f3 : tf_F), tm_at q ad m W0 L J3 A3 R f3 → tm_o2 J A (tm_fold (fun z y => tm_sub Pn Pc (tm_tc J A tr Kc Cc) F (n + 1) (va_up pg (n + 1) (Pc (pg n) z)) (va_up np n z) y) w k x) J3 A3 → (∀ e, e < n → A3 25 e = A2 25 e ∧ A3 26 e = A2 26 e) → tf_W l (tf_H D q) tf_T QB d i_Mod_tell 31 [(0, .ref m), (1, .int g0), (2, .int (nI n + kI (-1)))] [] L f3 kc ks) → tf_W l (tf_H D q) tf_T QB d i_Mod_tell 31 [(0, .ref m), (1, .int g0), (2, .int (nI n))] [] L f kc ks := by
  intro F
  induction F with
  | zero =>
    intro w k n pg np x J2 A2 f hk hg hF hn hP h25 h26 hS hT hO hK
    obtain ⟨w1, w2, w3, w4, w5, w6, w7, w8⟩ := hW (pg n) hg
    have a12 : A2 12 (pg n) = nI (Pn (pg n)) := by rw [hO.2.2.2.1 12 (by decide) (by decide) (by decide) (by decide) (by decide) (by decide)]; exact w1
    have hnv : vp_in (nI n) 6 := vp_in_nI (by omega) (by omega)
    have hnc : (nI n).toNatClampNeg = n := nI_clamp (by omega)
    have hgv : vp_in (nI (pg n)) 40 := vp_in_nI (by omega) (by omega)
    have hgc : (nI (pg n)).toNatClampNeg = pg n := nI_clamp (by omega)
    cases w with
    | zero =>
      refine tf_blk _ b_Mod_tell_31 rfl ?_
      refine tf_if_lt 114 35 d_Mod_tell_32 rfl rfl (fun h32 => absurd h32 (nI_pos (by omega))) (fun h32 => ?_)
      refine tf_blk _ b_Mod_tell_35 rfl ?_
      refine tm_get 39 d_Mod_tell_36 rfl fl_Mod_66 hT rfl ?_
      refine tf_blk _ b_Mod_tell_39 rfl ?_
      refine tm_iald _ 41 d_Mod_tell_40 rfl hT rfl (hnv) ?_
      rw [hnc, h25]
      refine tf_blk _ b_Mod_tell_41 rfl ?_
      refine tm_get 46 d_Mod_tell_43 rfl fl_Mod_69 hT rfl ?_
      refine tf_blk _ b_Mod_tell_46 rfl ?_
      refine tm_iald _ 48 d_Mod_tell_47 rfl hT rfl (hnv) ?_
      rw [hnc, h26]
      refine tf_blk _ b_Mod_tell_48 rfl ?_
      refine tm_get 52 d_Mod_tell_49 rfl fl_Mod_39 hT rfl ?_
      refine tf_blk _ b_Mod_tell_52 rfl ?_
      refine tm_iald _ 54 d_Mod_tell_53 rfl hT rfl (hgv) ?_
      rw [hgc, a12]
      refine tf_ic_ne 63 57 d_Mod_tell_54 rfl rfl (fun h54 => absurd h54 (not_not_intro (by rw [show k = Pn (pg n) by omega]))) (fun h54 => ?_)
      refine tf_blk _ b_Mod_tell_57 rfl ?_
      refine tf_goto 111 d_Mod_tell_60 rfl ?_
      refine tf_goto 31 d_Mod_tell_111 rfl ?_
      refine tf_drop [0, 1, 2] rfl ?_
      exact hK _ _ _ hT hO (fun _ _ => ⟨rfl, rfl⟩)
    | succ w =>
      have h8 := (w8 k (by omega)).2.2.1
      omega
  | succ F ihF =>
    intro w
    induction w with
    | zero =>
      intro k n pg np x J2 A2 f hk hg hF hn hP h25 h26 hS hT hO hK
      obtain ⟨w1, w2, w3, w4, w5, w6, w7, w8⟩ := hW (pg n) hg
      have a12 : A2 12 (pg n) = nI (Pn (pg n)) := by rw [hO.2.2.2.1 12 (by decide) (by decide) (by decide) (by decide) (by decide) (by decide)]; exact w1
      have hnv : vp_in (nI n) 6 := vp_in_nI (by omega) (by omega)
      have hnc : (nI n).toNatClampNeg = n := nI_clamp (by omega)
      have hgv : vp_in (nI (pg n)) 40 := vp_in_nI (by omega) (by omega)
      have hgc : (nI (pg n)).toNatClampNeg = pg n := nI_clamp (by omega)
      refine tf_blk _ b_Mod_tell_31 rfl ?_
      refine tf_if_lt 114 35 d_Mod_tell_32 rfl rfl (fun h32 => absurd h32 (nI_pos (by omega))) (fun h32 => ?_)
      refine tf_blk _ b_Mod_tell_35 rfl ?_
      refine tm_get 39 d_Mod_tell_36 rfl fl_Mod_66 hT rfl ?_
      refine tf_blk _ b_Mod_tell_39 rfl ?_
      refine tm_iald _ 41 d_Mod_tell_40 rfl hT rfl (hnv) ?_
      rw [hnc, h25]
      refine tf_blk _ b_Mod_tell_41 rfl ?_
      refine tm_get 46 d_Mod_tell_43 rfl fl_Mod_69 hT rfl ?_
      refine tf_blk _ b_Mod_tell_46 rfl ?_
      refine tm_iald _ 48 d_Mod_tell_47 rfl hT rfl (hnv) ?_
      rw [hnc, h26]
      refine tf_blk _ b_Mod_tell_48 rfl ?_
      refine tm_get 52 d_Mod_tell_49 rfl fl_Mod_39 hT rfl ?_
      refine tf_blk _ b_Mod_tell_52 rfl ?_
      refine tm_iald _ 54 d_Mod_tell_53 rfl hT rfl (hgv) ?_
      rw [hgc, a12]
      refine tf_ic_ne 63 57 d_Mod_tell_54 rfl rfl (fun h54 => absurd h54 (not_not_intro (by rw [show k = Pn (pg n) by omega]))) (fun h54 => ?_)
      refine tf_blk _ b_Mod_tell_57 rfl ?_
      refine tf_goto 111 d_Mod_tell_60 rfl ?_
      refine tf_goto 31 d_Mod_tell_111 rfl ?_
      refine tf_drop [0, 1, 2] rfl ?_
      exact hK _ _ _ hT hO (fun _ _ => ⟨rfl, rfl⟩)
    | succ w ih =>
      intro k n pg np x J2 A2 f hk hg hF hn hP h25 h26 hS hT hO hK
      obtain ⟨w1, w2, w3, w4, w5, w6, w7, w8⟩ := hW (pg n) hg
      have a12 : A2 12 (pg n) = nI (Pn (pg n)) := by rw [hO.2.2.2.1 12 (by decide) (by decide) (by decide) (by decide) (by decide) (by decide)]; exact w1
      have hnv : vp_in (nI n) 6 := vp_in_nI (by omega) (by omega)
      have hnc : (nI n).toNatClampNeg = n := nI_clamp (by omega)
      have hgv : vp_in (nI (pg n)) 40 := vp_in_nI (by omega) (by omega)
      have hgc : (nI (pg n)).toNatClampNeg = pg n := nI_clamp (by omega)
      obtain ⟨u1, u2, u3, u4, u5⟩ := w8 k (by omega)
      have a13 : A2 13 (4 * pg n + k) = nI (Pc (pg n) k) := by rw [hO.2.2.2.1 13 (by decide) (by decide) (by decide) (by decide) (by decide) (by decide)]; exact u1
      have e0 : kI 4 * nI (pg n) + nI k = nI (4 * pg n + k) := by rw [show kI 4 = nI 4 from rfl, nI_mul, nI_add]
      have hv : vp_in (kI 4 * nI (pg n) + nI k) 160 := by rw [e0]; exact vp_in_nI (by omega) (by omega)
      have hc : (kI 4 * nI (pg n) + nI k).toNatClampNeg = 4 * pg n + k := by rw [e0]; exact nI_clamp (show 4 * pg n + k < 2 ^ 31 by omega)
      have e1 : nI n + kI 1 = nI (n + 1) := by rw [show kI 1 = nI 1 from rfl, nI_add]
      have hnv1 : vp_in (nI (n + 1)) 6 := vp_in_nI (by omega) (by omega)
      have hnc1 : (nI (n + 1)).toNatClampNeg = n + 1 := nI_clamp (show n + 1 < 2 ^ 31 by omega)
      have hst : tm_fold (fun z y => tm_sub Pn Pc (tm_tc J A tr Kc Cc) (F + 1) (n + 1) (va_up pg (n + 1) (Pc (pg n) z)) (va_up np n z) y) (w + 1) k x = tm_fold (fun z y => tm_sub Pn Pc (tm_tc J A tr Kc Cc) (F + 1) (n + 1) (va_up pg (n + 1) (Pc (pg n) z)) (va_up np n z) y) w (k + 1) (tm_sub Pn Pc (tm_tc J A tr Kc Cc) (F + 1) (n + 1) (va_up pg (n + 1) (Pc (pg n) k)) (va_up np n k) x) := rfl
      rw [hst] at hS hK
      have hS1 : (tm_sub Pn Pc (tm_tc J A tr Kc Cc) (F + 1) (n + 1) (va_up pg (n + 1) (Pc (pg n) k)) (va_up np n k) x).2.2.2.2.1 ≤ 160 := Nat.le_trans (tm_fold_le (fun z y => tm_sub_le Pn Pc (tm_tc_le J A tr Kc Cc) _ _ _ _ y) _ _ _) hS
      generalize hpg : va_up pg (n + 1) (Pc (pg n) k) = pg1 at hS hK hS1
      generalize hnp : va_up np n k = np1 at hS hK hS1
      have g1 : pg1 (n + 1) = Pc (pg n) k := by rw [← hpg, va_up_self]
      have g2 : ∀ e, e < n + 1 → pg1 e = pg e := fun e he => by rw [← hpg, va_up_ne _ _ (show e ≠ n + 1 by omega)]
      have n1 : np1 n = k := by rw [← hnp, va_up_self]
      have n2 : ∀ e, e < n → np1 e = np e := fun e he => by rw [← hnp, va_up_ne _ _ (show e ≠ n by omega)]
      have hst2 : tm_sub Pn Pc (tm_tc J A tr Kc Cc) (F + 1) (n + 1) pg1 np1 x = tm_fold (fun z y => tm_sub Pn Pc (tm_tc J A tr Kc Cc) F (n + 1 + 1) (va_up pg1 (n + 1 + 1) (Pc (pg1 (n + 1)) z)) (va_up np1 (n + 1) z) y) (Pn (pg1 (n + 1))) 0 (tm_tc J A tr Kc Cc (n + 1) pg1 np1 x) := rfl
      have hS2 : (tm_tc J A tr Kc Cc (n + 1) pg1 np1 x).2.2.2.2.1 ≤ 160 := Nat.le_trans (tm_fold_le (fun z y => tm_sub_le Pn Pc (tm_tc_le J A tr Kc Cc) _ _ _ _ y) _ _ _) (by rw [← hst2]; exact hS1)
      refine tf_blk _ b_Mod_tell_31 rfl ?_
      refine tf_if_lt 114 35 d_Mod_tell_32 rfl rfl (fun h32 => absurd h32 (nI_pos (by omega))) (fun h32 => ?_)
      refine tf_blk _ b_Mod_tell_35 rfl ?_
      refine tm_get 39 d_Mod_tell_36 rfl fl_Mod_66 hT rfl ?_
      refine tf_blk _ b_Mod_tell_39 rfl ?_
      refine tm_iald _ 41 d_Mod_tell_40 rfl hT rfl (hnv) ?_
      rw [hnc, h25]
      refine tf_blk _ b_Mod_tell_41 rfl ?_
      refine tm_get 46 d_Mod_tell_43 rfl fl_Mod_69 hT rfl ?_
      refine tf_blk _ b_Mod_tell_46 rfl ?_
      refine tm_iald _ 48 d_Mod_tell_47 rfl hT rfl (hnv) ?_
      rw [hnc, h26]
      refine tf_blk _ b_Mod_tell_48 rfl ?_
      refine tm_get 52 d_Mod_tell_49 rfl fl_Mod_39 hT rfl ?_
      refine tf_blk _ b_Mod_tell_52 rfl ?_
      refine tm_iald _ 54 d_Mod_tell_53 rfl hT rfl (hgv) ?_
      rw [hgc, a12]
      refine tf_ic_ne 63 57 d_Mod_tell_54 rfl rfl (fun h54 => ?_) (fun h54 => absurd h54 (fun z => absurd ((nI_eq (by omega) (by omega)).mp z) (by omega)))
      refine tf_blk _ b_Mod_tell_63 rfl ?_
      refine tm_get 67 d_Mod_tell_64 rfl fl_Mod_66 hT rfl ?_
      refine tf_blk _ b_Mod_tell_67 rfl ?_
      refine tm_get 74 d_Mod_tell_71 rfl fl_Mod_42 hT rfl ?_
      refine tf_blk _ b_Mod_tell_74 rfl ?_
      refine tm_get 81 d_Mod_tell_78 rfl fl_Mod_69 hT rfl ?_
      refine tf_blk _ b_Mod_tell_81 rfl ?_
      refine tm_iald _ 83 d_Mod_tell_82 rfl hT rfl (hnv) ?_
      rw [hnc, h26]
      refine tf_blk _ b_Mod_tell_83 rfl ?_
      refine tm_iald _ 85 d_Mod_tell_84 rfl hT rfl (hv) ?_
      rw [hc, e1]
      refine tm_iast _ 86 d_Mod_tell_85 rfl hT rfl (hnv1) (fun f hT => ?_)
      refine tf_blk _ b_Mod_tell_86 rfl ?_
      refine tm_get 90 d_Mod_tell_87 rfl fl_Mod_69 hT rfl ?_
      refine tf_blk _ b_Mod_tell_90 rfl ?_
      refine tm_iald _ 93 d_Mod_tell_92 rfl hT rfl (hnv) ?_
      refine tf_blk _ b_Mod_tell_93 rfl ?_
      refine tm_iast _ 96 d_Mod_tell_95 rfl hT rfl (hnv) (fun f hT => ?_)
      skip
      refine tf_blk _ b_Mod_tell_96 rfl ?_
      refine tm_get 103 d_Mod_tell_100 rfl fl_Mod_69 hT rfl ?_
      rw [e1]
      refine tf_blk _ b_Mod_tell_103 rfl ?_
      refine tm_iast _ 106 d_Mod_tell_105 rfl hT rfl (hnv1) (fun f hT => ?_)
      rw [hnc1] at hT
      rw [a13] at hT
      rw [hnc] at hT
      have hO2 := tm_o2_26 (tm_o2_26 (tm_o2_25 hO (upd (A2 25) (n + 1) (nI (Pc (pg n) k)))) (upd (A2 26) n (A2 26 n + kI 1))) (upd (upd (A2 26) n (A2 26 n + kI 1)) (n + 1) (kI 0))
      generalize hA4 : va_up (va_up (va_up A2 25 (upd (A2 25) (n + 1) (nI (Pc (pg n) k)))) 26 (upd (A2 26) n (A2 26 n + kI 1))) 26 (upd (upd (A2 26) n (A2 26 n + kI 1)) (n + 1) (kI 0)) = A4 at hO2
      have hT : tm_at q ad m W0 L J2 A4 R f := by rw [← hA4]; exact hT
      have f25 : A4 25 = upd (A2 25) (n + 1) (nI (Pc (pg n) k)) := by rw [← hA4]; rfl
      have f26 : A4 26 = upd (upd (A2 26) n (nI k + kI 1)) (n + 1) (kI 0) := by rw [← hA4, ← h26]; rfl
      have hP1 : tm_pile A4 Pn pg1 np1 (n + 1) := fun e he => by
        rw [f25, f26]
        by_cases hen : e = n
        · subst hen
          refine ⟨?_, ?_, by rw [g2 e (by omega)]; exact hg, by rw [g2 e (by omega), n1]; omega⟩
          · rw [g2 e (by omega)]
            simp only [upd, if_neg (show ¬ e = e + 1 by omega)]
            exact h25
          · rw [n1]
            simp only [upd, if_neg (show ¬ e = e + 1 by omega), if_true]
            exact (nI_succ k).symm
        · obtain ⟨p1, p2, p3, p4⟩ := hP e (by omega)
          refine ⟨?_, ?_, by rw [g2 e (by omega)]; exact p3, by rw [g2 e (by omega), n2 e (by omega)]; exact p4⟩
          · rw [g2 e (by omega)]
            simp only [upd, if_neg (show ¬ e = n + 1 by omega)]
            exact p1
          · rw [n2 e (by omega)]
            simp only [upd, if_neg (show ¬ e = n + 1 by omega), if_neg hen]
            exact p2
      have q25 : A4 25 (n + 1) = nI (pg1 (n + 1)) := by
        rw [f25, g1]
        simp only [upd, if_true]
      have q26 : A4 26 (n + 1) = nI 0 := by
        rw [f26]
        simp only [upd, if_true]
        rfl
      refine tf_blk _ b_Mod_tell_106 rfl ?_
      refine tf_cV (tf_gok _ _) (c_Mod_tellContours2 l D q (d - 1) _ _ (by omega) hW hT hO2 (by omega) hP1 (by rw [g1]; exact u2) q25 hS2) 111 d_Mod_tell_108 rfl lk_Mod_193 cw_Mod_tellContours (by rfl) in_Mod_tellContours se_Mod_tellContours (by exact hT.1.1) (by exact hT.1.2.1) (by rfl) (by rfl) (by omega) (by exact Nat.le_of_ble_eq_true rfl) rfl ?_
      rintro v108 L108 f108 ⟨rfl, rfl, J9, A9, hT, hO3, t25, t26⟩
      refine tf_goto 31 d_Mod_tell_111 rfl ?_
      refine tf_drop [0, 1, 2] rfl ?_
      refine ihF (Pn (pg1 (n + 1))) 0 (n + 1) pg1 np1 _ _ _ _ (by omega) (by rw [g1]; exact u2) (by rw [g1]; omega) (by rw [g1]; omega) (fun e he => by rw [t25, t26]; exact hP1 e he) (by rw [t25]; exact q25) (by rw [t26]; exact q26) (by rw [← hst2]; exact hS1) hT hO3 (fun J5 A5 f5 hT hO5 hB => ?_)
      rw [← hst2] at hO5
      rw [show nI (n + 1) + kI (-1) = nI n from nI_subm (a := n + 1) (by omega)]
      refine ih (k + 1) n pg np _ _ _ _ (by omega) hg hF hn (fun e he => ?_) ?_ ?_ hS hT hO5 (fun J6 A6 f6 hT hO6 hB2 => hK _ _ _ hT hO6 (fun e he => ?_))
      · obtain ⟨p1, p2, p3, p4⟩ := hP1 e (by omega)
        rw [(hB e (by omega)).1, (hB e (by omega)).2, t25, t26]
        rw [g2 e (by omega)] at p1 p3 p4
        rw [n2 e he] at p2 p4
        exact ⟨p1, p2, p3, p4⟩
      · rw [(hB n (by omega)).1, t25, (hP1 n (by omega)).1, g2 n (by omega)]
      · rw [(hB n (by omega)).2, t26, (hP1 n (by omega)).2.1, n1]
      · rw [(hB2 e he).1, (hB2 e he).2, (hB e (by omega)).1, (hB e (by omega)).2, t25, t26, f25, f26]
        simp only [upd, if_neg (show ¬ e = n + 1 by omega), if_neg (show ¬ e = n by omega)]
        exact ⟨trivial, trivial⟩
set_option maxHeartbeats 4000000 in
set_option maxRecDepth 100000 in
theorem c_Mod_tell (hd : 5 ≤ d) (hT : tm_at q ad m W0 L J A R f) {Pn : Nat → Nat} {Pc tr : Nat → Nat → Nat} {ht Kc Cc : Nat → Nat} (hW : tm_tree A Pn Pc tr ht Kc Cc) {g : Nat} (hg : g < 40) {xe : tm_OU} (hxe : xe = tm_sub Pn Pc (tm_tc J A tr Kc Cc) 5 0 (fun _ => g) (fun _ => 0) (A 19, A 20, A 21, A 22, 0, 0)) (hS : xe.2.2.2.2.1 ≤ 160) : tf_C l (tf_H D q) d i_Mod_tell [.ref m, .int (nI g)] L f 0 0 (fun v L2 f2 => v = none ∧ L2 = L ∧ ∃ (J3 : Nat → Int32) (A3 : Nat → Nat → Int32), tm_at q ad m W0 L J3 A3 R f2 ∧ tm_o2 J A xe J3 A3) := by
  refine tf_C.of (tf_gok _ _) (by decide) w_1351 (Nat.le_of_ble_eq_true rfl) ?_
  refine tf_blk _ b_Mod_tell_0 rfl ?_
  refine tm_put 5 d_Mod_tell_2 rfl fw_Mod_187 hT (by decide) rfl rfl rfl (fun f hT => ?_)
  refine tf_blk _ b_Mod_tell_5 rfl ?_
  refine tm_put 10 d_Mod_tell_7 rfl fw_Mod_190 hT (by decide) rfl rfl rfl (fun f hT => ?_)
  refine tf_blk _ b_Mod_tell_10 rfl ?_
  refine tm_get 14 d_Mod_tell_11 rfl fl_Mod_66 hT rfl ?_
  refine tf_blk _ b_Mod_tell_14 rfl ?_
  refine tm_iast _ 17 d_Mod_tell_16 rfl hT rfl (vp_in_nI (show 0 < 6 by decide) (by decide)) (fun f hT => ?_)
  refine tf_blk _ b_Mod_tell_17 rfl ?_
  refine tm_get 21 d_Mod_tell_18 rfl fl_Mod_69 hT rfl ?_
  refine tf_blk _ b_Mod_tell_21 rfl ?_
  refine tm_iast _ 24 d_Mod_tell_23 rfl hT rfl (vp_in_nI (show 0 < 6 by decide) (by decide)) (fun f hT => ?_)
  rw [show (kI 0).toNatClampNeg = 0 from rfl] at hT
  have hO2 : tm_o2 J A (A 19, A 20, A 21, A 22, 0, 0) (upd (upd J 23 (kI 0)) 24 (kI 0)) (va_up (va_up A 25 (upd (A 25) 0 (nI g))) 26 (upd (A 26) 0 (kI 0))) := by
    refine tm_o2_26 (tm_o2_25 ⟨fun k k1 k2 k3 k4 => ?_, rfl, rfl, fun _ _ _ _ _ _ _ => rfl, rfl, rfl, rfl, rfl⟩ _) _
    simp only [upd, if_neg k1, if_neg k2]
  have hst : tm_sub Pn Pc (tm_tc J A tr Kc Cc) 5 0 (fun _ => g) (fun _ => 0) (A 19, A 20, A 21, A 22, 0, 0) = tm_fold (fun z y => tm_sub Pn Pc (tm_tc J A tr Kc Cc) 4 (0 + 1) (va_up (fun _ => g) (0 + 1) (Pc ((fun _ => g) 0) z)) (va_up (fun _ => 0) 0 z) y) (Pn ((fun _ => g) 0)) 0 (tm_tc J A tr Kc Cc 0 (fun _ => g) (fun _ => 0) (A 19, A 20, A 21, A 22, 0, 0)) := rfl
  rw [hst] at hxe
  have hS2 : (tm_tc J A tr Kc Cc 0 (fun _ => g) (fun _ => 0) (A 19, A 20, A 21, A 22, 0, 0)).2.2.2.2.1 ≤ 160 := Nat.le_trans (tm_fold_le (fun z y => tm_sub_le Pn Pc (tm_tc_le J A tr Kc Cc) _ _ _ _ y) _ _ _) (by rw [← hxe]; exact hS)
  have hP0 : ∀ A9 : Nat → Nat → Int32, tm_pile A9 Pn (fun _ => g) (fun _ => 0) 0 := fun A9 e he => absurd he (by omega)
  refine tf_blk _ b_Mod_tell_24 rfl ?_
  refine tf_cV (tf_gok _ _) (c_Mod_tellContours2 l D q (d - 1) _ _ (by omega) hW hT hO2 (n := 0) (by omega) (hP0 _) hg (by rfl) hS2) 31 d_Mod_tell_28 rfl lk_Mod_193 cw_Mod_tellContours (by rfl) in_Mod_tellContours se_Mod_tellContours (by exact hT.1.1) (by exact hT.1.2.1) (by rfl) (by rfl) (by omega) (by exact Nat.le_of_ble_eq_true rfl) rfl ?_
  rintro v28 L28 f28 ⟨rfl, rfl, J9, A9, hT, hO3, t25, t26⟩
  obtain ⟨w1, w2, w3, w4, w5, w6, w7, w8⟩ := hW g hg
  refine t_Mod_tell l D q d _ (by omega) hW 4 (Pn g) 0 0 (fun _ => g) (fun _ => 0) _ _ _ _ (by omega) hg (by omega) (by omega) (hP0 _) (by rw [t25]; rfl) (by rw [t26]; rfl) (by rw [← hxe]; exact hS) hT hO3 (fun J5 A5 f5 hT hO5 hB => ?_)
  rw [← hxe] at hO5
  refine tf_blk _ b_Mod_tell_31 rfl ?_
  refine tf_if_lt 114 35 d_Mod_tell_32 rfl rfl (fun h32 => ?_) (fun h32 => absurd (show nI 0 + kI (-1) < 0 by decide) h32)
  refine tf_vret d_Mod_tell_114 rfl ?_
  exact ⟨rfl, rfl, J5, A5, hT, hO5⟩
set_option maxHeartbeats 4000000 in
set_option maxRecDepth 100000 in
theorem c_Mod_outline_1 (hd : 1 ≤ d) (hT : tm_at q ad m W0 L J A R f) (g k w : Int32) (hb : ¬ (tm_isG J g = true ∧ ¬ w < 0 ∧ ¬ kI 3 < w ∧ ¬ k < kI (-1))) : tf_C l (tf_H D q) d i_Mod_outline [.ref m, .int g, .int k, .int w] L f 0 0 (tm_to q ad m W0 L (some (.int (kI 0))) (upd J 0 (kI 1)) (A) (R)) := by
  refine tf_C.of (tf_gok _ _) (by decide) w_1347 (Nat.le_of_ble_eq_true rfl) ?_
  refine tf_blk _ b_Mod_outline_0 rfl ?_
  refine tf_cV (tf_gok _ _) (c_Mod_isGlyph l D q (d - 1) _ _ hT _) 6 d_Mod_outline_3 rfl lk_Mod_148 cw_Mod_isGlyph (by rfl) in_Mod_isGlyph se_Mod_isGlyph (by exact hT.1.1) (by exact hT.1.2.1) (by rfl) (by rfl) (by omega) (by exact Nat.le_of_ble_eq_true rfl) rfl ?_
  rintro v3 L3 f3 ⟨rfl, rfl, rfl⟩
  refine tf_if_eq 23 9 d_Mod_outline_6 rfl rfl (fun h6 => ?_) (fun h6 => ?_)
  · refine tf_blk _ b_Mod_outline_23 rfl ?_
    refine tf_goto 28 d_Mod_outline_24 rfl ?_
    refine tm_put 31 d_Mod_outline_28 rfl fw_Mod_123 hT (by decide) rfl rfl rfl (fun f hT => ?_)
    refine tf_blk _ b_Mod_outline_31 rfl ?_
    refine tm_get 35 d_Mod_outline_32 rfl fl_Mod_123 hT rfl ?_
    refine tf_if_le 40 38 d_Mod_outline_35 rfl rfl (fun h35 => absurd h35 (show ¬ kI 1 ≤ 0 by decide)) (fun h35 => ?_)
    refine tf_blk _ b_Mod_outline_38 rfl ?_
    refine tf_iret d_Mod_outline_39 rfl ?_
    exact ⟨rfl, rfl, hT⟩
  · refine tf_blk _ b_Mod_outline_9 rfl ?_
    refine tf_if_lt 23 13 d_Mod_outline_10 rfl rfl (fun h10 => ?_) (fun h10 => ?_)
    · refine tf_blk _ b_Mod_outline_23 rfl ?_
      refine tf_goto 28 d_Mod_outline_24 rfl ?_
      refine tm_put 31 d_Mod_outline_28 rfl fw_Mod_123 hT (by decide) rfl rfl rfl (fun f hT => ?_)
      refine tf_blk _ b_Mod_outline_31 rfl ?_
      refine tm_get 35 d_Mod_outline_32 rfl fl_Mod_123 hT rfl ?_
      refine tf_if_le 40 38 d_Mod_outline_35 rfl rfl (fun h35 => absurd h35 (show ¬ kI 1 ≤ 0 by decide)) (fun h35 => ?_)
      refine tf_blk _ b_Mod_outline_38 rfl ?_
      refine tf_iret d_Mod_outline_39 rfl ?_
      exact ⟨rfl, rfl, hT⟩
    · refine tf_blk _ b_Mod_outline_13 rfl ?_
      refine tf_ic_gt 23 18 d_Mod_outline_15 rfl rfl (fun h15 => ?_) (fun h15 => ?_)
      · refine tf_blk _ b_Mod_outline_23 rfl ?_
        refine tf_goto 28 d_Mod_outline_24 rfl ?_
        refine tm_put 31 d_Mod_outline_28 rfl fw_Mod_123 hT (by decide) rfl rfl rfl (fun f hT => ?_)
        refine tf_blk _ b_Mod_outline_31 rfl ?_
        refine tm_get 35 d_Mod_outline_32 rfl fl_Mod_123 hT rfl ?_
        refine tf_if_le 40 38 d_Mod_outline_35 rfl rfl (fun h35 => absurd h35 (show ¬ kI 1 ≤ 0 by decide)) (fun h35 => ?_)
        refine tf_blk _ b_Mod_outline_38 rfl ?_
        refine tf_iret d_Mod_outline_39 rfl ?_
        exact ⟨rfl, rfl, hT⟩
      · refine tf_blk _ b_Mod_outline_18 rfl ?_
        refine tf_ic_ge 27 23 d_Mod_outline_20 rfl rfl (fun h20 => ?_) (fun h20 => ?_)
        · exact absurd ⟨bI_t h6, h10, h15, Int32.not_lt.mpr h20⟩ hb
        · refine tf_blk _ b_Mod_outline_23 rfl ?_
          refine tf_goto 28 d_Mod_outline_24 rfl ?_
          refine tm_put 31 d_Mod_outline_28 rfl fw_Mod_123 hT (by decide) rfl rfl rfl (fun f hT => ?_)
          refine tf_blk _ b_Mod_outline_31 rfl ?_
          refine tm_get 35 d_Mod_outline_32 rfl fl_Mod_123 hT rfl ?_
          refine tf_if_le 40 38 d_Mod_outline_35 rfl rfl (fun h35 => absurd h35 (show ¬ kI 1 ≤ 0 by decide)) (fun h35 => ?_)
          refine tf_blk _ b_Mod_outline_38 rfl ?_
          refine tf_iret d_Mod_outline_39 rfl ?_
          exact ⟨rfl, rfl, hT⟩
set_option maxHeartbeats 4000000 in
set_option maxRecDepth 100000 in
theorem c_Mod_outline_2 (hd : 6 ≤ d) (hT : tm_at q ad m W0 L J A R f) {Pn : Nat → Nat} {Pc tr : Nat → Nat → Nat} {ht Kc Cc : Nat → Nat} (hW : tm_tree A Pn Pc tr ht Kc Cc) {i : Nat} (hi : i < 40) {xe : tm_OU} (hxe : xe = tm_sub Pn Pc (tm_tc J A tr Kc Cc) 5 0 (fun _ => i) (fun _ => 0) (A 19, A 20, A 21, A 22, 0, 0)) (hS : xe.2.2.2.2.1 ≤ 160) (k w : Int32) (hb : tm_isG J (nI i) = true ∧ ¬ w < 0 ∧ ¬ kI 3 < w ∧ ¬ k < kI (-1)) (hk : ¬ k < nI xe.2.2.2.2.1) : tf_C l (tf_H D q) d i_Mod_outline [.ref m, .int (nI i), .int k, .int w] L f 0 0 (fun v L2 f2 => v = some (.int (kI 0)) ∧ L2 = L ∧ ∃ (J3 : Nat → Int32) (A3 : Nat → Nat → Int32), tm_at q ad m W0 L J3 A3 R f2 ∧ J3 0 = kI 1 ∧ tm_o3 J A J3 A3) := by
  refine tf_C.of (tf_gok _ _) (by decide) w_1347 (Nat.le_of_ble_eq_true rfl) ?_
  refine tf_blk _ b_Mod_outline_0 rfl ?_
  refine tf_cV (tf_gok _ _) (c_Mod_isGlyph l D q (d - 1) _ _ hT _) 6 d_Mod_outline_3 rfl lk_Mod_148 cw_Mod_isGlyph (by rfl) in_Mod_isGlyph se_Mod_isGlyph (by exact hT.1.1) (by exact hT.1.2.1) (by rfl) (by rfl) (by omega) (by exact Nat.le_of_ble_eq_true rfl) rfl ?_
  rintro v3 L3 f3 ⟨rfl, rfl, rfl⟩
  refine tf_if_eq 23 9 d_Mod_outline_6 rfl rfl (fun h6 => absurd h6 (by rw [hb.1]; decide)) (fun h6 => ?_)
  refine tf_blk _ b_Mod_outline_9 rfl ?_
  refine tf_if_lt 23 13 d_Mod_outline_10 rfl rfl (fun h10 => absurd h10 (hb.2.1)) (fun h10 => ?_)
  refine tf_blk _ b_Mod_outline_13 rfl ?_
  refine tf_ic_gt 23 18 d_Mod_outline_15 rfl rfl (fun h15 => absurd h15 (hb.2.2.1)) (fun h15 => ?_)
  refine tf_blk _ b_Mod_outline_18 rfl ?_
  refine tf_ic_ge 27 23 d_Mod_outline_20 rfl rfl (fun h20 => ?_) (fun h20 => absurd (Int32.not_lt.mp hb.2.2.2) h20)
  refine tf_blk _ b_Mod_outline_27 rfl ?_
  refine tm_put 31 d_Mod_outline_28 rfl fw_Mod_123 hT (by decide) rfl rfl rfl (fun f hT => ?_)
  refine tf_blk _ b_Mod_outline_31 rfl ?_
  refine tm_get 35 d_Mod_outline_32 rfl fl_Mod_123 hT rfl ?_
  refine tf_if_le 40 38 d_Mod_outline_35 rfl rfl (fun h35 => ?_) (fun h35 => absurd (show kI 0 ≤ 0 by decide) h35)
  refine tf_blk _ b_Mod_outline_40 rfl ?_
  refine tf_cV (tf_gok _ _) (c_Mod_tell l D q (d - 1) _ _ (by omega) hT hW hi (by rw [tm_tc_J]; exact hxe) hS) 45 d_Mod_outline_42 rfl lk_Mod_197 cw_Mod_tell (by rfl) in_Mod_tell se_Mod_tell (by exact hT.1.1) (by exact hT.1.2.1) (by rfl) (by rfl) (by omega) (by exact Nat.le_of_ble_eq_true rfl) rfl ?_
  rintro v42 L42 f42 ⟨rfl, rfl, J9, A9, hT, hO⟩
  refine tf_blk _ b_Mod_outline_45 rfl ?_
  refine tm_get 51 d_Mod_outline_48 rfl fl_Mod_187 hT rfl ?_
  rw [hO.2.1]
  refine tf_ic_lt 58 54 d_Mod_outline_51 rfl rfl (fun h51 => absurd h51 (hk)) (fun h51 => ?_)
  refine tf_blk _ b_Mod_outline_54 rfl ?_
  refine tf_goto 59 d_Mod_outline_55 rfl ?_
  refine tm_put 62 d_Mod_outline_59 rfl fw_Mod_123 hT (by decide) rfl rfl rfl (fun f hT => ?_)
  refine tf_blk _ b_Mod_outline_62 rfl ?_
  refine tm_get 66 d_Mod_outline_63 rfl fl_Mod_123 hT rfl ?_
  refine tf_if_le 71 69 d_Mod_outline_66 rfl rfl (fun h66 => absurd h66 (show ¬ kI 1 ≤ 0 by decide)) (fun h66 => ?_)
  refine tf_blk _ b_Mod_outline_69 rfl ?_
  refine tf_iret d_Mod_outline_70 rfl ?_
  exact ⟨rfl, rfl, _, _, hT, rfl, tm_o2_3 hO⟩
set_option maxHeartbeats 4000000 in
set_option maxRecDepth 100000 in
theorem c_Mod_outline_w (hd : 6 ≤ d) (hT : tm_at q ad m W0 L J A R f) {Pn : Nat → Nat} {Pc tr : Nat → Nat → Nat} {ht Kc Cc : Nat → Nat} (hW : tm_tree A Pn Pc tr ht Kc Cc) {i : Nat} (hi : i < 40) {xe : tm_OU} (hxe : xe = tm_sub Pn Pc (tm_tc J A tr Kc Cc) 5 0 (fun _ => i) (fun _ => 0) (A 19, A 20, A 21, A 22, 0, 0)) (hS : xe.2.2.2.2.1 ≤ 160) (w : Int32) (hb : tm_isG J (nI i) = true ∧ ¬ w < 0 ∧ ¬ kI 3 < w ∧ ¬ kI (-1) < kI (-1))  : tf_C l (tf_H D q) d i_Mod_outline [.ref m, .int (nI i), .int (kI (-1)), .int w] L f 0 0 (fun v L2 f2 => v = some (.int (if w = 0 then nI xe.2.2.2.2.1 else if w = kI 1 then nI xe.2.2.2.2.2 else if w = kI 2 then tm_wid J A i else A 10 i)) ∧ L2 = L ∧ ∃ (J3 : Nat → Int32) (A3 : Nat → Nat → Int32), tm_at q ad m W0 L J3 A3 R f2 ∧ J3 0 = kI 0 ∧ tm_o3 J A J3 A3) := by
  have z1 : (Int32.ofInt 1 = 0) = False := by decide
  have z2 : (Int32.ofInt 2 = 0) = False := by decide
  have z3 : (Int32.ofInt 2 = Int32.ofInt 1) = False := by decide
  refine tf_C.of (tf_gok _ _) (by decide) w_1347 (Nat.le_of_ble_eq_true rfl) ?_
  refine tf_blk _ b_Mod_outline_0 rfl ?_
  refine tf_cV (tf_gok _ _) (c_Mod_isGlyph l D q (d - 1) _ _ hT _) 6 d_Mod_outline_3 rfl lk_Mod_148 cw_Mod_isGlyph (by rfl) in_Mod_isGlyph se_Mod_isGlyph (by exact hT.1.1) (by exact hT.1.2.1) (by rfl) (by rfl) (by omega) (by exact Nat.le_of_ble_eq_true rfl) rfl ?_
  rintro v3 L3 f3 ⟨rfl, rfl, rfl⟩
  refine tf_if_eq 23 9 d_Mod_outline_6 rfl rfl (fun h6 => absurd h6 (by rw [hb.1]; decide)) (fun h6 => ?_)
  refine tf_blk _ b_Mod_outline_9 rfl ?_
  refine tf_if_lt 23 13 d_Mod_outline_10 rfl rfl (fun h10 => absurd h10 (hb.2.1)) (fun h10 => ?_)
  refine tf_blk _ b_Mod_outline_13 rfl ?_
  refine tf_ic_gt 23 18 d_Mod_outline_15 rfl rfl (fun h15 => absurd h15 (hb.2.2.1)) (fun h15 => ?_)
  refine tf_blk _ b_Mod_outline_18 rfl ?_
  refine tf_ic_ge 27 23 d_Mod_outline_20 rfl rfl (fun h20 => ?_) (fun h20 => absurd (Int32.not_lt.mp hb.2.2.2) h20)
  refine tf_blk _ b_Mod_outline_27 rfl ?_
  refine tm_put 31 d_Mod_outline_28 rfl fw_Mod_123 hT (by decide) rfl rfl rfl (fun f hT => ?_)
  refine tf_blk _ b_Mod_outline_31 rfl ?_
  refine tm_get 35 d_Mod_outline_32 rfl fl_Mod_123 hT rfl ?_
  refine tf_if_le 40 38 d_Mod_outline_35 rfl rfl (fun h35 => ?_) (fun h35 => absurd (show kI 0 ≤ 0 by decide) h35)
  refine tf_blk _ b_Mod_outline_40 rfl ?_
  refine tf_cV (tf_gok _ _) (c_Mod_tell l D q (d - 1) _ _ (by omega) hT hW hi (by rw [tm_tc_J]; exact hxe) hS) 45 d_Mod_outline_42 rfl lk_Mod_197 cw_Mod_tell (by rfl) in_Mod_tell se_Mod_tell (by exact hT.1.1) (by exact hT.1.2.1) (by rfl) (by rfl) (by omega) (by exact Nat.le_of_ble_eq_true rfl) rfl ?_
  rintro v42 L42 f42 ⟨rfl, rfl, J9, A9, hT, hO⟩
  refine tf_blk _ b_Mod_outline_45 rfl ?_
  refine tm_get 51 d_Mod_outline_48 rfl fl_Mod_187 hT rfl ?_
  rw [hO.2.1]
  refine tf_ic_lt 58 54 d_Mod_outline_51 rfl rfl (fun h51 => ?_) (fun h51 => absurd ((nI_negl _ hS)) h51)
  refine tf_blk _ b_Mod_outline_58 rfl ?_
  refine tm_put 62 d_Mod_outline_59 rfl fw_Mod_123 hT (by decide) rfl rfl rfl (fun f hT => ?_)
  refine tf_blk _ b_Mod_outline_62 rfl ?_
  refine tm_get 66 d_Mod_outline_63 rfl fl_Mod_123 hT rfl ?_
  refine tf_if_le 71 69 d_Mod_outline_66 rfl rfl (fun h66 => ?_) (fun h66 => absurd (show kI 0 ≤ 0 by decide) h66)
  refine tf_blk _ b_Mod_outline_71 rfl ?_
  refine tf_ic_ne 119 76 d_Mod_outline_73 rfl rfl (fun h73 => absurd h73 (not_not_intro rfl)) (fun h73 => ?_)
  refine tf_blk _ b_Mod_outline_76 rfl ?_
  refine tf_if_ne 87 80 d_Mod_outline_77 rfl rfl (fun h77 => ?_) (fun h77 => ?_)
  · refine tf_blk _ b_Mod_outline_87 rfl ?_
    refine tf_ic_ne 99 92 d_Mod_outline_89 rfl rfl (fun h89 => ?_) (fun h89 => ?_)
    · refine tf_blk _ b_Mod_outline_99 rfl ?_
      refine tf_ic_ne 112 104 d_Mod_outline_101 rfl rfl (fun h101 => ?_) (fun h101 => ?_)
      · refine tf_blk _ b_Mod_outline_112 rfl ?_
        refine tm_get 116 d_Mod_outline_113 rfl fl_Mod_33 hT rfl ?_
        refine tf_blk _ b_Mod_outline_116 rfl ?_
        refine tm_iald _ 118 d_Mod_outline_117 rfl hT rfl (vp_in_nI (by omega) (by omega)) ?_
        refine tf_iret d_Mod_outline_118 rfl ?_
        have hO3 : tm_o3 J A _ _ := tm_o2_3 (u := kI 0) hO
        refine ⟨?_, rfl, _, _, hT, rfl, hO3⟩
        simp only [h77, h89, h101, if_true, if_false, z1, z2, z3]
        first
        | (show some (Value.int (J9 23)) = _; rw [hO.2.1])
        | (show some (Value.int (J9 24)) = _; rw [hO.2.2.1])
        | (rw [tm_wid_J hO3])
        | (rw [nI_clamp (show i < 2 ^ 31 by omega), hO3.2 10 (by decide) (by decide) (by decide) (by decide) (by decide) (by decide)])
      · refine tf_blk _ b_Mod_outline_104 rfl ?_
        refine tf_cV (tf_gok _ _) (c_Mod_widthOf l D q (d - 1) _ _ (by omega) hT hi) 109 d_Mod_outline_106 rfl lk_Mod_200 cw_Mod_widthOf (by rfl) in_Mod_widthOf se_Mod_widthOf (by exact hT.1.1) (by exact hT.1.2.1) (by rfl) (by rfl) (by omega) (by exact Nat.le_of_ble_eq_true rfl) rfl ?_
        rintro v106 L106 f106 ⟨rfl, rfl, rfl⟩
        refine tf_goto 118 d_Mod_outline_109 rfl ?_
        refine tf_iret d_Mod_outline_118 rfl ?_
        have hO3 : tm_o3 J A _ _ := tm_o2_3 (u := kI 0) hO
        refine ⟨?_, rfl, _, _, hT, rfl, hO3⟩
        simp only [h77, h89, h101, if_true, if_false, z1, z2, z3]
        first
        | (show some (Value.int (J9 23)) = _; rw [hO.2.1])
        | (show some (Value.int (J9 24)) = _; rw [hO.2.2.1])
        | (rw [tm_wid_J hO3])
        | (rw [nI_clamp (show i < 2 ^ 31 by omega), hO3.2 10 (by decide) (by decide) (by decide) (by decide) (by decide) (by decide)])
    · refine tf_blk _ b_Mod_outline_92 rfl ?_
      refine tm_get 96 d_Mod_outline_93 rfl fl_Mod_190 hT rfl ?_
      refine tf_goto 118 d_Mod_outline_96 rfl ?_
      refine tf_iret d_Mod_outline_118 rfl ?_
      have hO3 : tm_o3 J A _ _ := tm_o2_3 (u := kI 0) hO
      refine ⟨?_, rfl, _, _, hT, rfl, hO3⟩
      simp only [h77, h89, if_true, if_false, z1, z2, z3]
      first
      | (show some (Value.int (J9 23)) = _; rw [hO.2.1])
      | (show some (Value.int (J9 24)) = _; rw [hO.2.2.1])
      | (rw [tm_wid_J hO3])
      | (rw [nI_clamp (show i < 2 ^ 31 by omega), hO3.2 10 (by decide) (by decide) (by decide) (by decide) (by decide) (by decide)])
  · refine tf_blk _ b_Mod_outline_80 rfl ?_
    refine tm_get 84 d_Mod_outline_81 rfl fl_Mod_187 hT rfl ?_
    refine tf_goto 118 d_Mod_outline_84 rfl ?_
    refine tf_iret d_Mod_outline_118 rfl ?_
    have hO3 : tm_o3 J A _ _ := tm_o2_3 (u := kI 0) hO
    refine ⟨?_, rfl, _, _, hT, rfl, hO3⟩
    simp only [h77, if_true, if_false, z1, z2, z3]
    first
    | (show some (Value.int (J9 23)) = _; rw [hO.2.1])
    | (show some (Value.int (J9 24)) = _; rw [hO.2.2.1])
    | (rw [tm_wid_J hO3])
    | (rw [nI_clamp (show i < 2 ^ 31 by omega), hO3.2 10 (by decide) (by decide) (by decide) (by decide) (by decide) (by decide)])
set_option maxHeartbeats 4000000 in
set_option maxRecDepth 100000 in
theorem c_Mod_outline_k (hd : 6 ≤ d) (hT : tm_at q ad m W0 L J A R f) {Pn : Nat → Nat} {Pc tr : Nat → Nat → Nat} {ht Kc Cc : Nat → Nat} (hW : tm_tree A Pn Pc tr ht Kc Cc) {i : Nat} (hi : i < 40) {xe : tm_OU} (hxe : xe = tm_sub Pn Pc (tm_tc J A tr Kc Cc) 5 0 (fun _ => i) (fun _ => 0) (A 19, A 20, A 21, A 22, 0, 0)) (hS : xe.2.2.2.2.1 ≤ 160) {j : Nat} (w : Int32) (hb : tm_isG J (nI i) = true ∧ ¬ w < 0 ∧ ¬ kI 3 < w ∧ ¬ nI j < kI (-1)) (hj : j < xe.2.2.2.2.1) : tf_C l (tf_H D q) d i_Mod_outline [.ref m, .int (nI i), .int (nI j), .int w] L f 0 0 (fun v L2 f2 => v = some (.int (if w = 0 then xe.1 j else if w = kI 1 then xe.2.1 j else if w = kI 2 then (if xe.2.2.1 j = 0 then kI 0 else kI 1) else xe.2.2.2.1 j)) ∧ L2 = L ∧ ∃ (J3 : Nat → Int32) (A3 : Nat → Nat → Int32), tm_at q ad m W0 L J3 A3 R f2 ∧ J3 0 = kI 0 ∧ tm_o3 J A J3 A3) := by
  have z1 : (Int32.ofInt 1 = 0) = False := by decide
  have z2 : (Int32.ofInt 2 = 0) = False := by decide
  have z3 : (Int32.ofInt 2 = Int32.ofInt 1) = False := by decide
  refine tf_C.of (tf_gok _ _) (by decide) w_1347 (Nat.le_of_ble_eq_true rfl) ?_
  refine tf_blk _ b_Mod_outline_0 rfl ?_
  refine tf_cV (tf_gok _ _) (c_Mod_isGlyph l D q (d - 1) _ _ hT _) 6 d_Mod_outline_3 rfl lk_Mod_148 cw_Mod_isGlyph (by rfl) in_Mod_isGlyph se_Mod_isGlyph (by exact hT.1.1) (by exact hT.1.2.1) (by rfl) (by rfl) (by omega) (by exact Nat.le_of_ble_eq_true rfl) rfl ?_
  rintro v3 L3 f3 ⟨rfl, rfl, rfl⟩
  refine tf_if_eq 23 9 d_Mod_outline_6 rfl rfl (fun h6 => absurd h6 (by rw [hb.1]; decide)) (fun h6 => ?_)
  refine tf_blk _ b_Mod_outline_9 rfl ?_
  refine tf_if_lt 23 13 d_Mod_outline_10 rfl rfl (fun h10 => absurd h10 (hb.2.1)) (fun h10 => ?_)
  refine tf_blk _ b_Mod_outline_13 rfl ?_
  refine tf_ic_gt 23 18 d_Mod_outline_15 rfl rfl (fun h15 => absurd h15 (hb.2.2.1)) (fun h15 => ?_)
  refine tf_blk _ b_Mod_outline_18 rfl ?_
  refine tf_ic_ge 27 23 d_Mod_outline_20 rfl rfl (fun h20 => ?_) (fun h20 => absurd (Int32.not_lt.mp hb.2.2.2) h20)
  refine tf_blk _ b_Mod_outline_27 rfl ?_
  refine tm_put 31 d_Mod_outline_28 rfl fw_Mod_123 hT (by decide) rfl rfl rfl (fun f hT => ?_)
  refine tf_blk _ b_Mod_outline_31 rfl ?_
  refine tm_get 35 d_Mod_outline_32 rfl fl_Mod_123 hT rfl ?_
  refine tf_if_le 40 38 d_Mod_outline_35 rfl rfl (fun h35 => ?_) (fun h35 => absurd (show kI 0 ≤ 0 by decide) h35)
  refine tf_blk _ b_Mod_outline_40 rfl ?_
  refine tf_cV (tf_gok _ _) (c_Mod_tell l D q (d - 1) _ _ (by omega) hT hW hi (by rw [tm_tc_J]; exact hxe) hS) 45 d_Mod_outline_42 rfl lk_Mod_197 cw_Mod_tell (by rfl) in_Mod_tell se_Mod_tell (by exact hT.1.1) (by exact hT.1.2.1) (by rfl) (by rfl) (by omega) (by exact Nat.le_of_ble_eq_true rfl) rfl ?_
  rintro v42 L42 f42 ⟨rfl, rfl, J9, A9, hT, hO⟩
  refine tf_blk _ b_Mod_outline_45 rfl ?_
  refine tm_get 51 d_Mod_outline_48 rfl fl_Mod_187 hT rfl ?_
  rw [hO.2.1]
  refine tf_ic_lt 58 54 d_Mod_outline_51 rfl rfl (fun h51 => ?_) (fun h51 => absurd (nI_lt hj (by omega)) h51)
  refine tf_blk _ b_Mod_outline_58 rfl ?_
  refine tm_put 62 d_Mod_outline_59 rfl fw_Mod_123 hT (by decide) rfl rfl rfl (fun f hT => ?_)
  refine tf_blk _ b_Mod_outline_62 rfl ?_
  refine tm_get 66 d_Mod_outline_63 rfl fl_Mod_123 hT rfl ?_
  refine tf_if_le 71 69 d_Mod_outline_66 rfl rfl (fun h66 => ?_) (fun h66 => absurd (show kI 0 ≤ 0 by decide) h66)
  refine tf_blk _ b_Mod_outline_71 rfl ?_
  refine tf_ic_ne 119 76 d_Mod_outline_73 rfl rfl (fun h73 => ?_) (fun h73 => absurd h73 (nI_nem1 (by omega)))
  refine tf_blk _ b_Mod_outline_119 rfl ?_
  refine tf_if_ne 132 123 d_Mod_outline_120 rfl rfl (fun h120 => ?_) (fun h120 => ?_)
  · refine tf_blk _ b_Mod_outline_132 rfl ?_
    refine tf_ic_ne 146 137 d_Mod_outline_134 rfl rfl (fun h134 => ?_) (fun h134 => ?_)
    · refine tf_blk _ b_Mod_outline_146 rfl ?_
      refine tf_ic_ne 168 151 d_Mod_outline_148 rfl rfl (fun h148 => ?_) (fun h148 => ?_)
      · refine tf_blk _ b_Mod_outline_168 rfl ?_
        refine tm_get 172 d_Mod_outline_169 rfl fl_Mod_63 hT rfl ?_
        refine tf_blk _ b_Mod_outline_172 rfl ?_
        refine tm_iald _ 174 d_Mod_outline_173 rfl hT rfl (vp_in_nI (by omega) (by omega)) ?_
        refine tf_iret d_Mod_outline_174 rfl ?_
        refine ⟨?_, rfl, _, _, hT, rfl, tm_o2_3 hO⟩
        simp only [h120, h134, h148, if_true, if_false, z1, z2, z3]
        all_goals first
        | rfl
        | (rw [nI_clamp (show j < 2 ^ 31 by omega)]
           first
           | rw [hO.2.2.2.2.1]
           | rw [hO.2.2.2.2.2.1]
           | rw [hO.2.2.2.2.2.2.2])
      · refine tf_blk _ b_Mod_outline_151 rfl ?_
        refine tm_get 155 d_Mod_outline_152 rfl fl_Mod_60 hT rfl ?_
        refine tf_blk _ b_Mod_outline_155 rfl ?_
        first | refine tm_zald _ 157 d_Mod_outline_156 rfl hT rfl (vp_in_nI (by omega) (by omega)) ?_ | refine tm_bald _ 157 d_Mod_outline_156 rfl hT rfl (vp_in_nI (by omega) (by omega)) ?_
        rw [nI_clamp (show j < 2 ^ 31 by omega), show A9 21 = xe.2.2.1 from hO.2.2.2.2.2.2.1]
        refine tf_if_eq 164 160 d_Mod_outline_157 rfl rfl (fun h157 => ?_) (fun h157 => ?_)
        · refine tf_blk _ b_Mod_outline_164 rfl ?_
          refine tf_goto 174 d_Mod_outline_165 rfl ?_
          refine tf_iret d_Mod_outline_174 rfl ?_
          refine ⟨?_, rfl, _, _, hT, rfl, tm_o2_3 hO⟩
          simp only [h120, h134, h148, h157, if_true, if_false, z1, z2, z3]
          all_goals first
          | rfl
          | (rw [nI_clamp (show j < 2 ^ 31 by omega)]
             first
             | rw [hO.2.2.2.2.1]
             | rw [hO.2.2.2.2.2.1]
             | rw [hO.2.2.2.2.2.2.2])
        · refine tf_blk _ b_Mod_outline_160 rfl ?_
          refine tf_goto 174 d_Mod_outline_161 rfl ?_
          refine tf_iret d_Mod_outline_174 rfl ?_
          refine ⟨?_, rfl, _, _, hT, rfl, tm_o2_3 hO⟩
          simp only [h120, h134, h148, h157, if_true, if_false, z1, z2, z3]
          all_goals first
          | rfl
          | (rw [nI_clamp (show j < 2 ^ 31 by omega)]
             first
             | rw [hO.2.2.2.2.1]
             | rw [hO.2.2.2.2.2.1]
             | rw [hO.2.2.2.2.2.2.2])
    · refine tf_blk _ b_Mod_outline_137 rfl ?_
      refine tm_get 141 d_Mod_outline_138 rfl fl_Mod_57 hT rfl ?_
      refine tf_blk _ b_Mod_outline_141 rfl ?_
      refine tm_iald _ 143 d_Mod_outline_142 rfl hT rfl (vp_in_nI (by omega) (by omega)) ?_
      refine tf_goto 174 d_Mod_outline_143 rfl ?_
      refine tf_iret d_Mod_outline_174 rfl ?_
      refine ⟨?_, rfl, _, _, hT, rfl, tm_o2_3 hO⟩
      simp only [h120, h134, if_true, if_false, z1, z2, z3]
      all_goals first
      | rfl
      | (rw [nI_clamp (show j < 2 ^ 31 by omega)]
         first
         | rw [hO.2.2.2.2.1]
         | rw [hO.2.2.2.2.2.1]
         | rw [hO.2.2.2.2.2.2.2])
  · refine tf_blk _ b_Mod_outline_123 rfl ?_
    refine tm_get 127 d_Mod_outline_124 rfl fl_Mod_54 hT rfl ?_
    refine tf_blk _ b_Mod_outline_127 rfl ?_
    refine tm_iald _ 129 d_Mod_outline_128 rfl hT rfl (vp_in_nI (by omega) (by omega)) ?_
    refine tf_goto 174 d_Mod_outline_129 rfl ?_
    refine tf_iret d_Mod_outline_174 rfl ?_
    refine ⟨?_, rfl, _, _, hT, rfl, tm_o2_3 hO⟩
    simp only [h120, if_true, if_false, z1, z2, z3]
    all_goals first
    | rfl
    | (rw [nI_clamp (show j < 2 ^ 31 by omega)]
       first
       | rw [hO.2.2.2.2.1]
       | rw [hO.2.2.2.2.2.1]
       | rw [hO.2.2.2.2.2.2.2])
end
