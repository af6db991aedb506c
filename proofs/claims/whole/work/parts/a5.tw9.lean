/-! the reference: change, shape -/
/-- n - 1 places to the left, from place k on, w of them -/
def tm_mv (n : Nat) : Nat → Nat → (Nat → Int32) → (Nat → Int32)
  | 0, _, g => g
  | w + 1, k, g => tm_mv n w (k + 1) (upd g (k - n + 1) (g k))
def tm_cp (t : Nat → Int32) : Nat → Nat → (Nat → Int32) → (Nat → Int32)
  | 0, _, g => g
  | w + 1, k, g => tm_cp t w (k + 1) (upd g k (t k))
def tm_put2 (A : Nat → Nat → Int32) (R : Nat → Int64) (j p : Nat) (x : tw_RW) : tw_RW :=
  (tm_mv (tm_len (R j) 4) (x.2.1 - (p + tm_len (R j) 4)) (p + tm_len (R j) 4) (upd x.1 p (A 43 j)), x.2.1 - (tm_len (R j) 4 - 1), x.2.2 + kI 1)
def tm_bs (A : Nat → Nat → Int32) (R : Nat → Int64) (rn : Nat) (lo : Int32) (p : Nat) (x : tw_RW) : Int32 := tm_bst (va_up A 51 x.1) R x.2.1 lo (nI p) rn 0 (kI (-1)) (kI 0)
def tm_step (A : Nat → Nat → Int32) (R : Nat → Int64) (rn : Nat) (lo : Int32) (p : Nat) (x : tw_RW) : tw_RW :=
  if tm_bs A R rn lo p x < 0 then x else tm_put2 A R (tm_bs A R rn lo p x).toNatClampNeg p x
def tm_run (A : Nat → Nat → Int32) (R : Nat → Int64) (rn : Nat) (lo : Int32) : Nat → Nat → tw_RW → tw_RW
  | 0, _, x => x
  | w + 1, p, x => if p < x.2.1 then tm_run A R rn lo w (p + 1) (tm_step A R rn lo p x) else x
def tm_rows (A : Nat → Nat → Int32) (R : Nat → Int64) (rn : Nat) : Nat → Nat → tw_RW → tw_RW
  | 0, _, x => x
  | w + 1, k, x => tm_rows A R rn w (k + 1) (tm_run A R rn (nI k) 60 0 x)
theorem tm_step_le (A : Nat → Nat → Int32) (R : Nat → Int64) (rn : Nat) (lo : Int32) (p : Nat) (x : tw_RW) : (tm_step A R rn lo p x).2.1 ≤ x.2.1 := by
  unfold tm_step
  split
  · exact Nat.le_refl _
  · exact Nat.sub_le _ _
theorem tm_run_le (A : Nat → Nat → Int32) (R : Nat → Int64) (rn : Nat) (lo : Int32) : ∀ w p x, (tm_run A R rn lo w p x).2.1 ≤ x.2.1 := by
  intro w
  induction w with
  | zero => intro p x; exact Nat.le_refl _
  | succ w ih =>
    intro p x
    unfold tm_run
    split
    · exact Nat.le_trans (ih _ _) (tm_step_le A R rn lo p x)
    · exact Nat.le_refl _
theorem tm_rows_le (A : Nat → Nat → Int32) (R : Nat → Int64) (rn : Nat) : ∀ w p x, (tm_rows A R rn w p x).2.1 ≤ x.2.1 := by
  intro w
  induction w with
  | zero => intro p x; exact Nat.le_refl _
  | succ w ih =>
    intro p x
    exact Nat.le_trans (ih _ _) (tm_run_le A R rn _ _ _ x)
/-- what bestRule answers: none, or a rule that fits -/
theorem tm_bst_or (A : Nat → Nat → Int32) (R : Nat → Int64) (rs : Nat) (lo x : Int32) : ∀ m r b n, n ≤ 4 → (tm_bst A R rs lo x m r b (nI n) = b ∨ ∃ j, r ≤ j ∧ j < r + m ∧ tm_bst A R rs lo x m r b (nI n) = nI j ∧ n < tm_len (R j) 4 ∧ tm_fits A R rs j x = true) := by
  intro m
  induction m with
  | zero => intro r b n _; exact Or.inl rfl
  | succ m ih =>
    intro r b n hn4
    unfold tm_bst
    split
    · next h =>
      have hl : tm_len (R r) 4 ≤ 4 := Nat.le_trans (tm_ln_le _ _ _ _) (by omega)
      have hn : n < tm_len (R r) 4 := by
        rcases Nat.lt_or_ge n (tm_len (R r) 4) with h8 | h8
        · exact h8
        · exact absurd h.2.1 (nI_nlt h8 (by omega))
      rcases ih (r + 1) (nI r) (tm_len (R r) 4) hl with h1 | ⟨j, h1, h2, h3, h4, h5⟩
      · exact Or.inr ⟨r, Nat.le_refl _, by omega, h1, hn, h.2.2⟩
      · exact Or.inr ⟨j, by omega, by omega, h3, by omega, h5⟩
    · rcases ih (r + 1) b n hn4 with h1 | ⟨j, h1, h2, h3, h4, h5⟩
      · exact Or.inl h1
      · exact Or.inr ⟨j, by omega, by omega, h3, h4, h5⟩
theorem tm_fits_le {A : Nat → Nat → Int32} {R : Nat → Int64} {rs j p : Nat} (hrs : rs ≤ 60) (hp : p ≤ 100) (h : tm_fits A R rs j (nI p) = true) : p + tm_len (R j) 4 ≤ rs := by
  have hl : tm_len (R j) 4 ≤ 4 := Nat.le_trans (tm_ln_le _ _ _ _) (by omega)
  unfold tm_fits at h
  rw [Bool.and_eq_true] at h
  have h1 := h.1
  unfold tm_stands at h1
  split at h1
  · next h2 =>
    rcases Nat.lt_or_ge rs (p + tm_len (R j) 4) with h3 | h3
    · exact absurd (by rw [nI_add]; exact nI_lt h3 (by omega)) h2.2
    · exact h3
  · exact absurd h1 (by decide)
theorem tm_bs_or (A : Nat → Nat → Int32) (R : Nat → Int64) {rn : Nat} (lo : Int32) {p : Nat} {x : tw_RW} (hx : x.2.1 ≤ 60) (hp : p ≤ 100) : tm_bs A R rn lo p x = kI (-1) ∨ ∃ j, j < rn ∧ tm_bs A R rn lo p x = nI j ∧ 1 ≤ tm_len (R j) 4 ∧ p + tm_len (R j) 4 ≤ x.2.1 := by
  rcases tm_bst_or (va_up A 51 x.1) R x.2.1 lo (nI p) rn 0 (kI (-1)) 0 (by omega) with h | ⟨j, h1, h2, h3, h4, h5⟩
  · exact Or.inl h
  · exact Or.inr ⟨j, by omega, h3, by omega, tm_fits_le hx hp h5⟩
/-- the reference's ints with a row of n glyphs, c puts -/
abbrev tm_JR (J : Nat → Int32) (n : Nat) (c : Int32) : Nat → Int32 := upd (upd J 52 (nI n)) 48 c
theorem tm_JR2 (J : Nat → Int32) (n : Nat) (c a b : Int32) : upd (upd (tm_JR J n c) 52 a) 48 b = upd (upd J 52 a) 48 b := by
  funext z
  simp only [upd]
  split
  · rfl
  · split
    · rfl
    · rfl
theorem tm_va2 (A : Nat → Nat → Int32) (k : Nat) (g h : Nat → Int32) : va_up (va_up A k g) k h = va_up A k h := by
  funext z
  by_cases e : z = k
  · rw [e, va_up_self, va_up_self]
  · rw [va_up_ne _ _ e, va_up_ne _ _ e, va_up_ne _ _ e]
theorem tm_JK (J : Nat → Int32) (a b c : Int32) : upd (upd (upd (upd J 0 c) 52 a) 50 c) 48 b = upd (upd (upd (upd J 0 c) 50 c) 52 a) 48 b := by
  funext z
  simp only [upd]
  split
  · rfl
  · split
    · next h => rw [h]; rfl
    · rfl
theorem tm_A51 {q : Nat → ClassId} {ad : Nat → Nat} {m : Nat} {W0 : tf_F} {L : List Nat} {J : Nat → Int32} {A : Nat → Nat → Int32} {R : Nat → Int64} {f : tf_F} (n : Nat) (h : tm_at q ad m W0 L J A R f) : tm_at q ad m W0 L J (va_up A n (A n)) R f := by
  have e9 : va_up A n (A n) = A := by
    funext z
    by_cases z3 : z = n
    · rw [z3, va_up_self]
    · exact va_up_ne _ _ z3
  rw [e9]
  exact h
section
variable (l : Launch) (D : va_G) (q : Nat → ClassId) (d : Nat) (L : List Nat) (f : tf_F) {ad : Nat → Nat} {m : Nat} {W0 : tf_F} {J : Nat → Int32} {A : Nat → Nat → Int32} {R : Nat → Int64}
set_option maxHeartbeats 4000000 in
set_option maxRecDepth 100000 in
theorem t_Mod_change {QB : tf_B} {kc ks j p n rs : Nat} (hrs : rs ≤ 60) (h52 : J 52 = nI rs) (hn : 1 ≤ n) : ∀ w k (g : Nat → Int32) (f : tf_F), k + w = rs → n ≤ k → tm_at q ad m W0 L J (va_up A 51 g) R f → (∀ f2 : tf_F, tm_at q ad m W0 L J (va_up A 51 (tm_mv n w k g)) R f2 → tf_W l (tf_H D q) tf_T QB d i_Mod_change 61 [(0, .ref m), (1, .int (nI j)), (2, .int (nI p)), (3, .int (nI n)), (4, .int (nI rs))] [] L f2 kc ks) → tf_W l (tf_H D q) tf_T QB d i_Mod_change 28 [(0, .ref m), (1, .int (nI j)), (2, .int (nI p)), (3, .int (nI n)), (4, .int (nI k))] [] L f kc ks := by
  intro w
  induction w with
  | zero =>
    intro k g f hk hnk hT hK
    obtain rfl : k = rs := hk
    refine tf_blk _ b_Mod_change_28 rfl ?_
    refine tm_get 34 d_Mod_change_31 rfl fl_Mod_292 hT rfl ?_
    rw [h52]
    refine tf_ic_ge 61 37 d_Mod_change_34 rfl rfl (fun h34 => ?_) (fun h34 => absurd (nI_le (by omega) (by omega)) h34)
    exact hK _ hT
  | succ w ih =>
    intro k g f hk hnk hT hK
    have e0 : nI k - nI n + kI 1 = nI (k - n + 1) := by rw [nI_subI hnk, show kI 1 = nI 1 from rfl, nI_add]
    have hv : vp_in (nI k - nI n + kI 1) 60 := by rw [e0]; exact vp_in_nI (by omega) (by omega)
    have hc : (nI k - nI n + kI 1).toNatClampNeg = k - n + 1 := by rw [e0]; exact nI_clamp (show k - n + 1 < 2 ^ 31 by omega)
    have hkv : vp_in (nI k) 60 := vp_in_nI (by omega) (by omega)
    have hkc : (nI k).toNatClampNeg = k := nI_clamp (by omega)
    refine tf_blk _ b_Mod_change_28 rfl ?_
    refine tm_get 34 d_Mod_change_31 rfl fl_Mod_292 hT rfl ?_
    rw [h52]
    refine tf_ic_ge 61 37 d_Mod_change_34 rfl rfl (fun h34 => absurd h34 (nI_ge (by omega) (by omega))) (fun h34 => ?_)
    refine tf_blk _ b_Mod_change_37 rfl ?_
    refine tm_get 41 d_Mod_change_38 rfl fl_Mod_116 hT rfl ?_
    refine tf_blk _ b_Mod_change_41 rfl ?_
    refine tm_get 51 d_Mod_change_48 rfl fl_Mod_116 hT rfl ?_
    refine tf_blk _ b_Mod_change_51 rfl ?_
    refine tm_iald _ 54 d_Mod_change_53 rfl hT rfl (hkv) ?_
    refine tm_iast _ 55 d_Mod_change_54 rfl hT rfl (hv) (fun f hT => ?_)
    refine tf_blk _ b_Mod_change_55 rfl ?_
    refine tf_goto 28 d_Mod_change_58 rfl ?_
    rw [hc, hkc] at hT
    have hT := tm_A3u hT
    rw [va_up_self] at hT
    have h9 := ih (k + 1) _ _ (by omega) (by omega) hT hK
    rw [show nI (k + 1) = nI k + 1 from nI_succ k] at h9
    exact h9
set_option maxHeartbeats 4000000 in
set_option maxRecDepth 100000 in
theorem c_Mod_change (hd : 2 ≤ d) (hT : tm_at q ad m W0 L J A R f) {j p rs : Nat} (hj : j < 40) (hrs : rs ≤ 60) (h52 : J 52 = nI rs) (hn : 1 ≤ tm_len (R j) 4) (hp : p + tm_len (R j) 4 ≤ rs) : tf_C l (tf_H D q) d i_Mod_change [.ref m, .int (nI j), .int (nI p)] L f 0 0 (tm_to q ad m W0 L (none) (upd (upd J 52 (nI (rs - (tm_len (R j) 4 - 1)))) 48 (J 48 + kI 1)) (va_up A 51 (tm_mv (tm_len (R j) 4) (rs - (p + tm_len (R j) 4)) (p + tm_len (R j) 4) (upd (A 51) p (A 43 j)))) (R)) := by
  have hjv : vp_in (nI j) 40 := vp_in_nI (by omega) (by omega)
  have hjc : (nI j).toNatClampNeg = j := nI_clamp (by omega)
  have hpv : vp_in (nI p) 60 := vp_in_nI (by omega) (by omega)
  have hpc : (nI p).toNatClampNeg = p := nI_clamp (by omega)
  have hl : tm_len (R j) 4 ≤ 4 := Nat.le_trans (tm_ln_le _ _ _ _) (by omega)
  refine tf_C.of (tf_gok _ _) (by decide) w_1500 (Nat.le_of_ble_eq_true rfl) ?_
  refine tf_blk _ b_Mod_change_0 rfl ?_
  refine tm_get 4 d_Mod_change_1 rfl fl_Mod_106 hT rfl ?_
  refine tf_blk _ b_Mod_change_4 rfl ?_
  refine tm_lald 6 d_Mod_change_5 rfl hT (hjv) ?_
  rw [hjc]
  refine tf_blk _ b_Mod_change_6 rfl ?_
  refine tf_cS (tf_gok _ _) (c_Mod_lengthOf l D q (d - 1) _ _ (by omega) (R j) (w := 4) (by decide)) 10 d_Mod_change_7 rfl lk_Mod_274 cw_Mod_lengthOf (by rfl) sa_Mod_lengthOf (by omega) (by exact Nat.le_of_ble_eq_true rfl) rfl ?_
  rintro v7 L7 f7 ⟨rfl, rfl, rfl⟩
  refine tf_blk _ b_Mod_change_10 rfl ?_
  refine tm_get 15 d_Mod_change_12 rfl fl_Mod_116 hT rfl ?_
  refine tf_blk _ b_Mod_change_15 rfl ?_
  refine tm_get 20 d_Mod_change_17 rfl fl_Mod_100 hT rfl ?_
  refine tf_blk _ b_Mod_change_20 rfl ?_
  refine tm_iald _ 22 d_Mod_change_21 rfl hT rfl (hjv) ?_
  refine tm_iast _ 23 d_Mod_change_22 rfl hT rfl (hpv) (fun f hT => ?_)
  refine tf_blk _ b_Mod_change_23 rfl ?_
  rw [hpc] at hT
  rw [hjc] at hT
  rw [nI_add]
  refine t_Mod_change l D q d _ hrs h52 hn (rs - (p + tm_len (R j) 4)) (p + tm_len (R j) 4) _ _ (by omega) (by omega) hT (fun f2 hT => ?_)
  refine tf_blk _ b_Mod_change_61 rfl ?_
  refine tm_get 66 d_Mod_change_63 rfl fl_Mod_292 hT rfl ?_
  refine tf_blk _ b_Mod_change_66 rfl ?_
  refine tm_put 73 d_Mod_change_70 rfl fw_Mod_292 hT (by decide) rfl rfl rfl (fun f hT => ?_)
  refine tf_blk _ b_Mod_change_73 rfl ?_
  refine tm_get 78 d_Mod_change_75 rfl fl_Mod_303 hT rfl ?_
  refine tf_blk _ b_Mod_change_78 rfl ?_
  refine tm_put 83 d_Mod_change_80 rfl fw_Mod_303 hT (by decide) rfl rfl rfl (fun f hT => ?_)
  refine tf_vret d_Mod_change_83 rfl ?_
  have e1 : nI rs - (nI (tm_len (R j) 4) - kI 1) = nI (rs - (tm_len (R j) 4 - 1)) := by rw [show kI 1 = nI 1 from rfl, nI_subI hn, nI_subI (by omega)]
  rw [h52, e1] at hT
  exact ⟨rfl, rfl, hT⟩
set_option maxHeartbeats 4000000 in
set_option maxRecDepth 100000 in
theorem t_Mod_shape_cp {QB : tf_B} {kc ks n : Nat} (hn : n ≤ 60) (h50 : J 50 = nI n) : ∀ w k (g : Nat → Int32) (f : tf_F), k + w = n → tm_at q ad m W0 L J (va_up A 51 g) R f → (∀ f2 : tf_F, tm_at q ad m W0 L J (va_up A 51 (tm_cp (A 49) w k g)) R f2 → tf_W l (tf_H D q) tf_T QB d i_Mod_shape 41 [(0, .ref m), (1, .int (nI n))] [] L f2 kc ks) → tf_W l (tf_H D q) tf_T QB d i_Mod_shape 15 [(0, .ref m), (1, .int (nI k))] [] L f kc ks := by
  intro w
  induction w with
  | zero =>
    intro k g f hk hT hK
    obtain rfl : k = n := hk
    refine tf_blk _ b_Mod_shape_15 rfl ?_
    refine tm_get 20 d_Mod_shape_17 rfl fl_Mod_289 hT rfl ?_
    rw [h50]
    refine tf_ic_ge 41 23 d_Mod_shape_20 rfl rfl (fun h20 => ?_) (fun h20 => absurd (nI_le (by omega) (by omega)) h20)
    exact hK _ hT
  | succ w ih =>
    intro k g f hk hT hK
    have hkv : vp_in (nI k) 60 := vp_in_nI (by omega) (by omega)
    have hkc : (nI k).toNatClampNeg = k := nI_clamp (by omega)
    refine tf_blk _ b_Mod_shape_15 rfl ?_
    refine tm_get 20 d_Mod_shape_17 rfl fl_Mod_289 hT rfl ?_
    rw [h50]
    refine tf_ic_ge 41 23 d_Mod_shape_20 rfl rfl (fun h20 => absurd h20 (nI_ge (by omega) (by omega))) (fun h20 => ?_)
    refine tf_blk _ b_Mod_shape_23 rfl ?_
    refine tm_get 27 d_Mod_shape_24 rfl fl_Mod_116 hT rfl ?_
    refine tf_blk _ b_Mod_shape_27 rfl ?_
    refine tm_get 32 d_Mod_shape_29 rfl fl_Mod_113 hT rfl ?_
    refine tf_blk _ b_Mod_shape_32 rfl ?_
    refine tm_iald _ 34 d_Mod_shape_33 rfl hT rfl (hkv) ?_
    refine tm_iast _ 35 d_Mod_shape_34 rfl hT rfl (hkv) (fun f hT => ?_)
    refine tf_blk _ b_Mod_shape_35 rfl ?_
    refine tf_goto 15 d_Mod_shape_38 rfl ?_
    rw [hkc] at hT
    have hT := tm_A3u hT
    rw [va_up_ne A g (show (49 : Nat) ≠ 51 by decide)] at hT
    have h9 := ih (k + 1) _ _ (by omega) hT hK
    rw [show nI (k + 1) = nI k + 1 from nI_succ k] at h9
    exact h9
set_option maxHeartbeats 4000000 in
set_option maxRecDepth 100000 in
theorem t_Mod_shape_run (hd : 5 ≤ d) {QB : tf_B} {kc ks lo rn : Nat} (hrn : rn ≤ 40) (h47 : J 47 = nI rn) : ∀ w p (x : tw_RW) (f : tf_F), x.2.1 ≤ p + w → p + w ≤ 60 → x.2.1 ≤ 60 → tm_at q ad m W0 L (tm_JR J x.2.1 x.2.2) (va_up A 51 x.1) R f → (∀ (f2 : tf_F) (y : tw_RW), y = tm_run A R rn (nI lo) w p x → tm_at q ad m W0 L (tm_JR J y.2.1 y.2.2) (va_up A 51 y.1) R f2 → tf_W l (tf_H D q) tf_T QB d i_Mod_shape 92 [(0, .ref m), (1, .int (nI lo))] [] L f2 kc ks) → tf_W l (tf_H D q) tf_T QB d i_Mod_shape 61 [(0, .ref m), (1, .int (nI lo)), (2, .int (nI p))] [] L f kc ks := by
  intro w
  induction w with
  | zero =>
    intro p x f hxp hpw hx hT hK
    have hr : x = tm_run A R rn (nI lo) 0 p x := rfl
    refine tf_blk _ b_Mod_shape_61 rfl ?_
    refine tm_get 66 d_Mod_shape_63 rfl fl_Mod_292 hT rfl ?_
    rw [show tm_JR J x.2.1 x.2.2 52 = nI x.2.1 from rfl]
    refine tf_ic_ge 92 69 d_Mod_shape_66 rfl rfl (fun h66 => ?_) (fun h66 => absurd (nI_le (by omega) (by omega)) h66)
    refine tf_drop [0, 1] rfl ?_
    exact hK _ x hr hT
  | succ w ih =>
    intro p x f hxp hpw hx hT hK
    by_cases hc : p < x.2.1
    · rcases tm_bs_or A R (rn := rn) (nI lo) (p := p) hx (by omega) with hb | ⟨j, hj, hb, hl, hpl⟩
      · refine tf_blk _ b_Mod_shape_61 rfl ?_
        refine tm_get 66 d_Mod_shape_63 rfl fl_Mod_292 hT rfl ?_
        rw [show tm_JR J x.2.1 x.2.2 52 = nI x.2.1 from rfl]
        refine tf_ic_ge 92 69 d_Mod_shape_66 rfl rfl (fun h66 => absurd h66 (nI_ge (by omega) (by omega))) (fun h66 => ?_)
        refine tf_blk _ b_Mod_shape_69 rfl ?_
        refine tf_cV (tf_gok _ _) (c_Mod_bestRule l D q (d - 1) _ _ (by omega) hT hx (show tm_JR J x.2.1 x.2.2 52 = nI x.2.1 from rfl) hrn (show tm_JR J x.2.1 x.2.2 47 = nI rn from h47) (by omega) (nI lo)) 75 d_Mod_shape_72 rfl lk_Mod_306 cw_Mod_bestRule (by rfl) in_Mod_bestRule se_Mod_bestRule (by exact hT.1.1) (by exact hT.1.2.1) (by rfl) (by rfl) (by omega) (by exact Nat.le_of_ble_eq_true rfl) rfl ?_
        rintro v72 L72 f72 ⟨rfl, rfl, rfl⟩
        rw [show tm_bst (va_up A 51 x.1) R x.2.1 (nI lo) (nI p) rn 0 (kI (-1)) (kI 0) = kI (-1) from hb]
        refine tf_blk _ b_Mod_shape_75 rfl ?_
        refine tf_if_lt 86 80 d_Mod_shape_77 rfl rfl (fun h77 => ?_) (fun h77 => absurd (show kI (-1) < 0 by decide) h77)
        refine tf_blk _ b_Mod_shape_86 rfl ?_
        refine tf_goto 61 d_Mod_shape_89 rfl ?_
        refine tf_drop [0, 1, 2] rfl ?_
        have hs : tm_run A R rn (nI lo) (w + 1) p x = tm_run A R rn (nI lo) w (p + 1) (tm_step A R rn (nI lo) p x) := if_pos hc
        rw [hs, show tm_step A R rn (nI lo) p x = x from by rw [tm_step, hb]; rfl] at hK
        have h9 := ih (p + 1) x _ (by omega) (by omega) (by exact hx) hT hK
        rw [show nI (p + 1) = nI p + 1 from nI_succ p] at h9
        exact h9
      have hz : ¬ (nI j < 0) := nI_pos (by omega)
      refine tf_blk _ b_Mod_shape_61 rfl ?_
      refine tm_get 66 d_Mod_shape_63 rfl fl_Mod_292 hT rfl ?_
      rw [show tm_JR J x.2.1 x.2.2 52 = nI x.2.1 from rfl]
      refine tf_ic_ge 92 69 d_Mod_shape_66 rfl rfl (fun h66 => absurd h66 (nI_ge (by omega) (by omega))) (fun h66 => ?_)
      refine tf_blk _ b_Mod_shape_69 rfl ?_
      refine tf_cV (tf_gok _ _) (c_Mod_bestRule l D q (d - 1) _ _ (by omega) hT hx (show tm_JR J x.2.1 x.2.2 52 = nI x.2.1 from rfl) hrn (show tm_JR J x.2.1 x.2.2 47 = nI rn from h47) (by omega) (nI lo)) 75 d_Mod_shape_72 rfl lk_Mod_306 cw_Mod_bestRule (by rfl) in_Mod_bestRule se_Mod_bestRule (by exact hT.1.1) (by exact hT.1.2.1) (by rfl) (by rfl) (by omega) (by exact Nat.le_of_ble_eq_true rfl) rfl ?_
      rintro v72 L72 f72 ⟨rfl, rfl, rfl⟩
      rw [show tm_bst (va_up A 51 x.1) R x.2.1 (nI lo) (nI p) rn 0 (kI (-1)) (kI 0) = nI j from hb]
      refine tf_blk _ b_Mod_shape_75 rfl ?_
      refine tf_if_lt 86 80 d_Mod_shape_77 rfl rfl (fun h77 => absurd h77 (hz)) (fun h77 => ?_)
      refine tf_blk _ b_Mod_shape_80 rfl ?_
      refine tf_cV (tf_gok _ _) (c_Mod_change l D q (d - 1) _ _ (by omega) hT (by omega) hx (show tm_JR J x.2.1 x.2.2 52 = nI x.2.1 from rfl) hl hpl) 86 d_Mod_shape_83 rfl lk_Mod_309 cw_Mod_change (by rfl) in_Mod_change se_Mod_change (by exact hT.1.1) (by exact hT.1.2.1) (by rfl) (by rfl) (by omega) (by exact Nat.le_of_ble_eq_true rfl) rfl ?_
      rintro v83 L83 f83 ⟨rfl, rfl, hT⟩
      refine tf_blk _ b_Mod_shape_86 rfl ?_
      refine tf_goto 61 d_Mod_shape_89 rfl ?_
      rw [tm_JR2, tm_va2, va_up_self, va_up_ne A x.1 (show (43 : Nat) ≠ 51 by decide)] at hT
      refine tf_drop [0, 1, 2] rfl ?_
      have hs : tm_run A R rn (nI lo) (w + 1) p x = tm_run A R rn (nI lo) w (p + 1) (tm_step A R rn (nI lo) p x) := if_pos hc
      rw [hs, show tm_step A R rn (nI lo) p x = tm_put2 A R j p x from by rw [tm_step, hb, if_neg hz, nI_clamp (by omega)]] at hK
      have h9 := ih (p + 1) (tm_put2 A R j p x) _ (by show x.2.1 - (tm_len (R j) 4 - 1) ≤ p + 1 + w; omega) (by omega) (by show x.2.1 - (tm_len (R j) 4 - 1) ≤ 60; omega) hT hK
      rw [show nI (p + 1) = nI p + 1 from nI_succ p] at h9
      exact h9
    have hr : x = tm_run A R rn (nI lo) (w + 1) p x := (if_neg hc).symm
    refine tf_blk _ b_Mod_shape_61 rfl ?_
    refine tm_get 66 d_Mod_shape_63 rfl fl_Mod_292 hT rfl ?_
    rw [show tm_JR J x.2.1 x.2.2 52 = nI x.2.1 from rfl]
    refine tf_ic_ge 92 69 d_Mod_shape_66 rfl rfl (fun h66 => ?_) (fun h66 => absurd (nI_le (by omega) (by omega)) h66)
    refine tf_drop [0, 1] rfl ?_
    exact hK _ x hr hT
set_option maxHeartbeats 4000000 in
set_option maxRecDepth 100000 in
theorem t_Mod_shape_rows (hd : 5 ≤ d) {QB : tf_B} {kc ks rn : Nat} (hrn : rn ≤ 40) (h47 : J 47 = nI rn) : ∀ w k (x : tw_RW) (f : tf_F), k + w = 8 → x.2.1 ≤ 60 → tm_at q ad m W0 L (tm_JR J x.2.1 x.2.2) (va_up A 51 x.1) R f → (∀ (f2 : tf_F) (y : tw_RW), y = tm_rows A R rn w k x → tm_at q ad m W0 L (tm_JR J y.2.1 y.2.2) (va_up A 51 y.1) R f2 → tf_W l (tf_H D q) tf_T QB d i_Mod_shape 98 [(0, .ref m), (1, .int (nI 8))] [] L f2 kc ks) → tf_W l (tf_H D q) tf_T QB d i_Mod_shape 53 [(0, .ref m), (1, .int (nI k))] [] L f kc ks := by
  intro w
  induction w with
  | zero =>
    intro k x f hk hx hT hK
    obtain rfl : k = 8 := hk
    refine tf_blk _ b_Mod_shape_53 rfl ?_
    refine tf_ic_ge 98 59 d_Mod_shape_56 rfl rfl (fun h56 => ?_) (fun h56 => absurd (nI_le (a := 8) (by omega) (by omega)) h56)
    exact hK _ x rfl hT
  | succ w ih =>
    intro k x f hk hx hT hK
    refine tf_blk _ b_Mod_shape_53 rfl ?_
    refine tf_ic_ge 98 59 d_Mod_shape_56 rfl rfl (fun h56 => absurd h56 (nI_ge (b := 8) (by omega) (by omega))) (fun h56 => ?_)
    refine tf_blk _ b_Mod_shape_59 rfl ?_
    refine t_Mod_shape_run l D q d _ hd hrn h47 60 0 x _ (by omega) (by omega) hx hT (fun f2 y hy hT => ?_)
    refine tf_blk _ b_Mod_shape_92 rfl ?_
    refine tf_goto 53 d_Mod_shape_95 rfl ?_
    have h9 := ih (k + 1) y _ (by omega) (by rw [hy]; exact Nat.le_trans (tm_run_le A R rn _ _ _ x) hx) hT (fun f3 z hz => hK f3 z (by rw [hz, hy]; rfl))
    rw [show nI (k + 1) = nI k + 1 from nI_succ k] at h9
    exact h9
set_option maxHeartbeats 4000000 in
set_option maxRecDepth 100000 in
theorem c_Mod_shape (hd : 5 ≤ d) (hT : tm_at q ad m W0 L J A R f) {n rn : Nat} (hn : n ≤ 60) (h50 : J 50 = nI n) (hrn : rn ≤ 40) (h47 : J 47 = nI rn) {rr : tw_RW} (hrr : rr = tm_rows A R rn 8 0 (tm_cp (A 49) n 0 (A 51), n, kI 0)) : tf_C l (tf_H D q) d i_Mod_shape [.ref m] L f 0 0 (tm_to q ad m W0 L (some (.int (nI rr.2.1))) (tm_JR (upd (upd J 0 (kI 0)) 50 (kI 0)) rr.2.1 rr.2.2) (va_up A 51 rr.1) (R)) := by
  refine tf_C.of (tf_gok _ _) (by decide) w_1484 (Nat.le_of_ble_eq_true rfl) ?_
  refine tf_blk _ b_Mod_shape_0 rfl ?_
  refine tm_put 5 d_Mod_shape_2 rfl fw_Mod_123 hT (by decide) rfl rfl rfl (fun f hT => ?_)
  refine tf_blk _ b_Mod_shape_5 rfl ?_
  refine tm_get 10 d_Mod_shape_7 rfl fl_Mod_289 hT rfl ?_
  refine tm_put 13 d_Mod_shape_10 rfl fw_Mod_292 hT (by decide) rfl rfl rfl (fun f hT => ?_)
  refine tf_blk _ b_Mod_shape_13 rfl ?_
  have h50b : upd J 0 (kI 0) 50 = nI n := h50
  rw [h50b] at hT
  refine t_Mod_shape_cp l D q d _ hn (show upd (upd J 0 (kI 0)) 52 (nI n) 50 = nI n from h50) n 0 (A 51) _ (by omega) (tm_A51 51 hT) (fun f2 hT => ?_)
  refine tf_blk _ b_Mod_shape_41 rfl ?_
  refine tm_put 46 d_Mod_shape_43 rfl fw_Mod_289 hT (by decide) rfl rfl rfl (fun f hT => ?_)
  refine tf_blk _ b_Mod_shape_46 rfl ?_
  refine tm_put 51 d_Mod_shape_48 rfl fw_Mod_303 hT (by decide) rfl rfl rfl (fun f hT => ?_)
  refine tf_blk _ b_Mod_shape_51 rfl ?_
  rw [tm_JK] at hT
  refine t_Mod_shape_rows l D q d _ hd (J := (upd (upd J 0 (kI 0)) 50 (kI 0))) hrn (show (upd (upd J 0 (kI 0)) 50 (kI 0)) 47 = nI rn from h47) 8 0 (tm_cp (A 49) n 0 (A 51), n, kI 0) _ (by omega) hn hT (fun f2 y hy hT => ?_)
  rw [← hrr] at hy
  subst hy
  refine tf_blk _ b_Mod_shape_98 rfl ?_
  refine tm_get 102 d_Mod_shape_99 rfl fl_Mod_292 hT rfl ?_
  refine tf_iret d_Mod_shape_102 rfl ?_
  exact ⟨rfl, rfl, hT⟩
end
