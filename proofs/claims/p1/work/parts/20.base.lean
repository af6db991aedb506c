/-! the first contracts: small methods -/
theorem tf_u {f : tf_F} {a b : Nat} {e X : va_E} (hne : b ≠ a) (h : f b = X) : va_up f a e b = X := (va_up_ne f e hne).trans h
abbrev tf_y (q : Nat → ClassId) : List (ClassId × FieldType) := [(q 0, .int), (q 1, .boolean), (q 2, .long), (q 3, .byte), (q 4, .short), (q 5, .object "TypeFoundry$Glyph"), (q 6, .object "TypeFoundry$Part"), (q 7, .object "TypeFoundry$Rule")]
abbrev tf_H (D : va_G) (q : Nat → ClassId) : tf_G := tf_g D (tf_y q)
abbrev ti (q : Nat → ClassId) (n : Nat) (g : Nat → Int32) : va_E := .inl (q 0, n, .inl g)
abbrev tz (q : Nat → ClassId) (n : Nat) (g : Nat → Int32) : va_E := .inl (q 1, n, .inl g)
abbrev tj (q : Nat → ClassId) (n : Nat) (g : Nat → Int64) : va_E := .inl (q 2, n, .inr (.inl g))
abbrev tb (q : Nat → ClassId) (n : Nat) (g : Nat → Int32) : va_E := .inl (q 3, n, .inl g)
abbrev ts (q : Nat → ClassId) (n : Nat) (g : Nat → Int32) : va_E := .inl (q 4, n, .inl g)
abbrev tr (k : Nat) (q : Nat → ClassId) (n : Nat) (g : Nat → Option Nat) : va_E := .inl (q k, n, .inr (.inr (.inr (.inr g))))
abbrev to (ci : Nat) (fs : List Value) : va_E := .inr (ci, fs)
abbrev kI (n : Int) : Int32 := Int32.ofInt n
def bI (b : Bool) : Int32 := if b then kI 1 else kI 0
theorem bI_n (b : Bool) : narrow .boolean (.int (bI b)) = .int (bI b) := by cases b <;> rfl
/-- a method that answers and changes nothing -/
abbrev tf_rd (v : Value) (L : List Nat) (f : tf_F) : tf_O := fun w L2 f2 => w = some v ∧ L2 = L ∧ f2 = f
def tw_in (x a b : Int32) : Bool := decide (a ≤ x) && decide (x ≤ b)
theorem wi_t {x a b : Int32} (h1 : ¬ x < a) (h2 : ¬ b < x) : tw_in x a b = true := by
  simp only [tw_in, Bool.and_eq_true, decide_eq_true_eq]
  exact ⟨Int32.not_lt.mp h1, Int32.not_lt.mp h2⟩
theorem wi_f1 {x a b : Int32} (h1 : x < a) : tw_in x a b = false := by
  simp only [tw_in, Bool.and_eq_false_iff, decide_eq_false_iff_not]
  exact Or.inl (Int32.not_le.mpr h1)
theorem wi_f2 {x a b : Int32} (h1 : b < x) : tw_in x a b = false := by
  simp only [tw_in, Bool.and_eq_false_iff, decide_eq_false_iff_not]
  exact Or.inr (Int32.not_le.mpr h1)
theorem tw_in_iff {x a b : Int32} : tw_in x a b = true ↔ a.toInt ≤ x.toInt ∧ x.toInt ≤ b.toInt := by
  simp only [tw_in, Bool.and_eq_true, decide_eq_true_eq, Int32.le_iff_toInt_le]
theorem tw_bt {b : Bool} (h : ¬ bI b = 0) : b = true := by
  cases b
  · exact absurd rfl h
  · rfl
theorem tw_bf {b : Bool} (h : bI b = 0) : b = false := by
  cases b
  · rfl
  · exact absurd h (by decide)
def tw_isPlace (x y : Int32) : Bool := tw_in x (kI (-2000)) (kI 4000) && tw_in y (kI (-2000)) (kI 4000)
def tw_isShift (x y : Int32) : Bool := tw_in x (kI (-4000)) (kI 4000) && tw_in y (kI (-4000)) (kI 4000)
def tw_isKern (x : Int32) : Bool := tw_in x (kI (-1000)) (kI 1000)
def tw_isSide (x : Int32) : Bool := decide (x = kI 32) || decide (x = kI 64) || decide (x = kI 128) || decide (x = kI 256)
def tw_find (n : Nat) (g : Nat → Option Nat) (k : Int32) : Option Nat := if tw_in k (kI 0) (nI n - kI 1) = true then g k.toNatClampNeg else none
theorem tw_find_in {n : Nat} {k : Int32} (hn : n ≤ 40) (h : tw_in k (kI 0) (nI n - kI 1) = true) : vp_in k 40 := by
  rw [tw_in_iff] at h
  rw [vp_in_iff]
  have h1 : (kI 0).toInt = 0 := by decide
  have h2 : (nI n - nI 1).toInt = (n : Int) - (1 : Nat) := pk_sub_toInt (by omega) (by omega)
  have h3 : kI 1 = nI 1 := by decide
  rw [h1, h3, h2] at h
  omega
section
variable (l : Launch) (D : va_G) (q : Nat → ClassId) (d : Nat) (L : List Nat) (f : tf_F)
set_option maxHeartbeats 4000000 in
set_option maxRecDepth 100000 in
theorem c_Tf_within (x a b : Int32) : tf_C l (tf_H D q) d i_Tf_within [.int x, .int a, .int b] L f 0 0 (tf_rd (.int (bI (tw_in x a b))) L f) := by
  refine tf_C.of (tf_gok _ _) (by decide) w_244 (Nat.le_of_ble_eq_true rfl) ?_
  refine tf_blk _ b_Tf_within_0 rfl ?_
  refine tf_ic_lt 14 5 d_Tf_within_2 rfl rfl (fun h2 => ?_) (fun h2 => ?_)
  · refine tf_blk _ b_Tf_within_14 rfl ?_
    refine tf_zret d_Tf_within_15 rfl (rfl) ?_
    first
      | exact ⟨by rw [wi_f1 (by assumption)]; rfl, rfl, rfl⟩
      | exact ⟨by rw [wi_f2 (by assumption)]; rfl, rfl, rfl⟩
      | exact ⟨by rw [wi_t (by assumption) (by assumption)]; rfl, rfl, rfl⟩
  · refine tf_blk _ b_Tf_within_5 rfl ?_
    refine tf_ic_gt 14 10 d_Tf_within_7 rfl rfl (fun h7 => ?_) (fun h7 => ?_)
    · refine tf_blk _ b_Tf_within_14 rfl ?_
      refine tf_zret d_Tf_within_15 rfl (rfl) ?_
      first
        | exact ⟨by rw [wi_f1 (by assumption)]; rfl, rfl, rfl⟩
        | exact ⟨by rw [wi_f2 (by assumption)]; rfl, rfl, rfl⟩
        | exact ⟨by rw [wi_t (by assumption) (by assumption)]; rfl, rfl, rfl⟩
    · refine tf_blk _ b_Tf_within_10 rfl ?_
      refine tf_goto 15 d_Tf_within_11 rfl ?_
      refine tf_zret d_Tf_within_15 rfl (rfl) ?_
      first
        | exact ⟨by rw [wi_f1 (by assumption)]; rfl, rfl, rfl⟩
        | exact ⟨by rw [wi_f2 (by assumption)]; rfl, rfl, rfl⟩
        | exact ⟨by rw [wi_t (by assumption) (by assumption)]; rfl, rfl, rfl⟩
set_option maxHeartbeats 4000000 in
set_option maxRecDepth 100000 in
theorem c_Tf_isPlace (hd : 1 ≤ d) (x y : Int32) : tf_C l (tf_H D q) d i_Tf_isPlace [.int x, .int y] L f 0 0 (tf_rd (.int (bI (tw_isPlace x y))) L f) := by
  refine tf_C.of (tf_gok _ _) (by decide) w_520 (Nat.le_of_ble_eq_true rfl) ?_
  refine tf_blk _ b_Tf_isPlace_0 rfl ?_
  refine tf_cS (tf_gok _ _) (c_Tf_within l D q (d - 1) _ _ _ _ _) 10 d_Tf_isPlace_7 rfl lk_Tf_111 cw_Tf_within (by rfl) sa_Tf_within (by omega) (by exact Nat.le_of_ble_eq_true rfl) rfl ?_
  rintro v7 L7 f7 ⟨rfl, rfl, rfl⟩
  refine tf_if_eq 30 13 d_Tf_isPlace_10 rfl rfl (fun h10 => ?_) (fun h10 => ?_)
  · refine tf_blk _ b_Tf_isPlace_30 rfl ?_
    refine tf_zret d_Tf_isPlace_31 rfl (rfl) ?_
    first
      | exact ⟨by rw [tw_isPlace, tw_bf h10, Bool.false_and]; rfl, rfl, rfl⟩
      | exact ⟨by rw [tw_isPlace, tw_bt h10, tw_bf h23]; rfl, rfl, rfl⟩
      | exact ⟨by rw [tw_isPlace, tw_bt h10, tw_bt h23]; rfl, rfl, rfl⟩
  · refine tf_blk _ b_Tf_isPlace_13 rfl ?_
    refine tf_cS (tf_gok _ _) (c_Tf_within l D q (d - 1) _ _ _ _ _) 23 d_Tf_isPlace_20 rfl lk_Tf_111 cw_Tf_within (by rfl) sa_Tf_within (by omega) (by exact Nat.le_of_ble_eq_true rfl) rfl ?_
    rintro v20 L20 f20 ⟨rfl, rfl, rfl⟩
    refine tf_if_eq 30 26 d_Tf_isPlace_23 rfl rfl (fun h23 => ?_) (fun h23 => ?_)
    · refine tf_blk _ b_Tf_isPlace_30 rfl ?_
      refine tf_zret d_Tf_isPlace_31 rfl (rfl) ?_
      first
        | exact ⟨by rw [tw_isPlace, tw_bf h10, Bool.false_and]; rfl, rfl, rfl⟩
        | exact ⟨by rw [tw_isPlace, tw_bt h10, tw_bf h23]; rfl, rfl, rfl⟩
        | exact ⟨by rw [tw_isPlace, tw_bt h10, tw_bt h23]; rfl, rfl, rfl⟩
    · refine tf_blk _ b_Tf_isPlace_26 rfl ?_
      refine tf_goto 31 d_Tf_isPlace_27 rfl ?_
      refine tf_zret d_Tf_isPlace_31 rfl (rfl) ?_
      first
        | exact ⟨by rw [tw_isPlace, tw_bf h10, Bool.false_and]; rfl, rfl, rfl⟩
        | exact ⟨by rw [tw_isPlace, tw_bt h10, tw_bf h23]; rfl, rfl, rfl⟩
        | exact ⟨by rw [tw_isPlace, tw_bt h10, tw_bt h23]; rfl, rfl, rfl⟩
set_option maxHeartbeats 4000000 in
set_option maxRecDepth 100000 in
theorem c_Tf_isShift (hd : 1 ≤ d) (x y : Int32) : tf_C l (tf_H D q) d i_Tf_isShift [.int x, .int y] L f 0 0 (tf_rd (.int (bI (tw_isShift x y))) L f) := by
  refine tf_C.of (tf_gok _ _) (by decide) w_581 (Nat.le_of_ble_eq_true rfl) ?_
  refine tf_blk _ b_Tf_isShift_0 rfl ?_
  refine tf_cS (tf_gok _ _) (c_Tf_within l D q (d - 1) _ _ _ _ _) 10 d_Tf_isShift_7 rfl lk_Tf_111 cw_Tf_within (by rfl) sa_Tf_within (by omega) (by exact Nat.le_of_ble_eq_true rfl) rfl ?_
  rintro v7 L7 f7 ⟨rfl, rfl, rfl⟩
  refine tf_if_eq 30 13 d_Tf_isShift_10 rfl rfl (fun h10 => ?_) (fun h10 => ?_)
  · refine tf_blk _ b_Tf_isShift_30 rfl ?_
    refine tf_zret d_Tf_isShift_31 rfl (rfl) ?_
    first
      | exact ⟨by rw [tw_isShift, tw_bf h10, Bool.false_and]; rfl, rfl, rfl⟩
      | exact ⟨by rw [tw_isShift, tw_bt h10, tw_bf h23]; rfl, rfl, rfl⟩
      | exact ⟨by rw [tw_isShift, tw_bt h10, tw_bt h23]; rfl, rfl, rfl⟩
  · refine tf_blk _ b_Tf_isShift_13 rfl ?_
    refine tf_cS (tf_gok _ _) (c_Tf_within l D q (d - 1) _ _ _ _ _) 23 d_Tf_isShift_20 rfl lk_Tf_111 cw_Tf_within (by rfl) sa_Tf_within (by omega) (by exact Nat.le_of_ble_eq_true rfl) rfl ?_
    rintro v20 L20 f20 ⟨rfl, rfl, rfl⟩
    refine tf_if_eq 30 26 d_Tf_isShift_23 rfl rfl (fun h23 => ?_) (fun h23 => ?_)
    · refine tf_blk _ b_Tf_isShift_30 rfl ?_
      refine tf_zret d_Tf_isShift_31 rfl (rfl) ?_
      first
        | exact ⟨by rw [tw_isShift, tw_bf h10, Bool.false_and]; rfl, rfl, rfl⟩
        | exact ⟨by rw [tw_isShift, tw_bt h10, tw_bf h23]; rfl, rfl, rfl⟩
        | exact ⟨by rw [tw_isShift, tw_bt h10, tw_bt h23]; rfl, rfl, rfl⟩
    · refine tf_blk _ b_Tf_isShift_26 rfl ?_
      refine tf_goto 31 d_Tf_isShift_27 rfl ?_
      refine tf_zret d_Tf_isShift_31 rfl (rfl) ?_
      first
        | exact ⟨by rw [tw_isShift, tw_bf h10, Bool.false_and]; rfl, rfl, rfl⟩
        | exact ⟨by rw [tw_isShift, tw_bt h10, tw_bf h23]; rfl, rfl, rfl⟩
        | exact ⟨by rw [tw_isShift, tw_bt h10, tw_bt h23]; rfl, rfl, rfl⟩
set_option maxHeartbeats 4000000 in
set_option maxRecDepth 100000 in
theorem c_Tf_isKerning (hd : 1 ≤ d) (x : Int32) : tf_C l (tf_H D q) d i_Tf_isKerning [.int x] L f 0 0 (tf_rd (.int (bI (tw_isKern x))) L f) := by
  refine tf_C.of (tf_gok _ _) (by decide) w_297 (Nat.le_of_ble_eq_true rfl) ?_
  refine tf_blk _ b_Tf_isKerning_0 rfl ?_
  refine tf_cS (tf_gok _ _) (c_Tf_within l D q (d - 1) _ _ _ _ _) 10 d_Tf_isKerning_7 rfl lk_Tf_111 cw_Tf_within (by rfl) sa_Tf_within (by omega) (by exact Nat.le_of_ble_eq_true rfl) rfl ?_
  rintro v7 L7 f7 ⟨rfl, rfl, rfl⟩
  refine tf_zret d_Tf_isKerning_10 rfl (bI_n _) ?_
  exact ⟨rfl, rfl, rfl⟩
set_option maxHeartbeats 4000000 in
set_option maxRecDepth 100000 in
theorem c_Tf_isSide (x : Int32) : tf_C l (tf_H D q) d i_Tf_isSide [.int x] L f 0 0 (tf_rd (.int (bI (tw_isSide x))) L f) := by
  refine tf_C.of (tf_gok _ _) (by decide) w_697 (Nat.le_of_ble_eq_true rfl) ?_
  refine tf_blk _ b_Tf_isSide_0 rfl ?_
  refine tf_ic_eq 26 6 d_Tf_isSide_3 rfl rfl (fun h3 => ?_) (fun h3 => ?_)
  · refine tf_blk _ b_Tf_isSide_26 rfl ?_
    refine tf_goto 31 d_Tf_isSide_27 rfl ?_
    refine tf_zret d_Tf_isSide_31 rfl (rfl) ?_
    exact ⟨by simp only [tw_isSide, *]; rfl, rfl, rfl⟩
  · refine tf_blk _ b_Tf_isSide_6 rfl ?_
    refine tf_ic_eq 26 12 d_Tf_isSide_9 rfl rfl (fun h9 => ?_) (fun h9 => ?_)
    · refine tf_blk _ b_Tf_isSide_26 rfl ?_
      refine tf_goto 31 d_Tf_isSide_27 rfl ?_
      refine tf_zret d_Tf_isSide_31 rfl (rfl) ?_
      exact ⟨by simp only [tw_isSide, *]; rfl, rfl, rfl⟩
    · refine tf_blk _ b_Tf_isSide_12 rfl ?_
      refine tf_ic_eq 26 19 d_Tf_isSide_16 rfl rfl (fun h16 => ?_) (fun h16 => ?_)
      · refine tf_blk _ b_Tf_isSide_26 rfl ?_
        refine tf_goto 31 d_Tf_isSide_27 rfl ?_
        refine tf_zret d_Tf_isSide_31 rfl (rfl) ?_
        exact ⟨by simp only [tw_isSide, *]; rfl, rfl, rfl⟩
      · refine tf_blk _ b_Tf_isSide_19 rfl ?_
        refine tf_ic_ne 30 26 d_Tf_isSide_23 rfl rfl (fun h23 => ?_) (fun h23 => ?_)
        · refine tf_blk _ b_Tf_isSide_30 rfl ?_
          refine tf_zret d_Tf_isSide_31 rfl (rfl) ?_
          exact ⟨by simp only [tw_isSide, *]; rfl, rfl, rfl⟩
        · refine tf_blk _ b_Tf_isSide_26 rfl ?_
          refine tf_goto 31 d_Tf_isSide_27 rfl ?_
          refine tf_zret d_Tf_isSide_31 rfl (rfl) ?_
          exact ⟨by simp only [tw_isSide, *]; rfl, rfl, rfl⟩
set_option maxHeartbeats 4000000 in
set_option maxRecDepth 100000 in
theorem c_Tf_find (hd : 1 ≤ d) {x gl n : Nat} {bl ou pa he ca ke se : Value} {g : Nat → Option Nat} (hx : x ∈ L) (hgl : gl ∈ L) (hn : n ≤ 40) (fx : f x = to 0 [bl, .ref gl, ou, pa, he, ca, ke, se, .int (nI n)]) (fg : f gl = tr 5 q 40 g) (k : Int32) : tf_C l (tf_H D q) d i_Tf_find [.ref x, .int k] L f 0 0 (tf_rd (va_rf (tw_find n g k)) L f) := by
  refine tf_C.of (tf_gok _ _) (by decide) w_241 (Nat.le_of_ble_eq_true rfl) ?_
  refine tf_blk _ b_Tf_find_0 rfl ?_
  refine tf_get (fs := ?fs_3_21) (v := ?v_3_21) 6 d_Tf_find_3 rfl fl_Tf_66 ?ha_3_21 ?hf_3_21 ?hv_3_21 ?kk_3_21
  case ha_3_21 => first | assumption | (simp only [List.mem_append, List.mem_singleton]; simp [*])
  case hf_3_21 => first | assumption | exact va_up_self _ _ _ | (refine tf_u (by first | assumption | (apply Ne.symm; assumption) | (intro hh; subst hh; contradiction)) ?_; first | assumption | exact va_up_self _ _ _ | (refine tf_u (by first | assumption | (apply Ne.symm; assumption) | (intro hh; subst hh; contradiction)) ?_; first | assumption | exact va_up_self _ _ _ | (refine tf_u (by first | assumption | (apply Ne.symm; assumption) | (intro hh; subst hh; contradiction)) ?_; first | assumption | exact va_up_self _ _ _ | (refine tf_u (by first | assumption | (apply Ne.symm; assumption) | (intro hh; subst hh; contradiction)) ?_; first | assumption | exact va_up_self _ _ _ | (refine tf_u (by first | assumption | (apply Ne.symm; assumption) | (intro hh; subst hh; contradiction)) ?_; first | assumption | exact va_up_self _ _ _)))))
  case hv_3_21 => rfl
  refine tf_blk _ b_Tf_find_6 rfl ?_
  refine tf_cS (tf_gok _ _) (c_Tf_within l D q (d - 1) _ _ _ _ _) 11 d_Tf_find_8 rfl lk_Tf_111 cw_Tf_within (by rfl) sa_Tf_within (by omega) (by exact Nat.le_of_ble_eq_true rfl) rfl ?_
  rintro v8 L8 f8 ⟨rfl, rfl, rfl⟩
  refine tf_if_eq 23 14 d_Tf_find_11 rfl rfl (fun h11 => ?_) (fun h11 => ?_)
  · refine tf_blk _ b_Tf_find_23 rfl ?_
    refine tf_aret d_Tf_find_24 rfl (Or.inl ⟨_, rfl⟩) (by first | exact va_rf_or _ | exact Or.inl rfl) ?_
    first
      | exact ⟨by rw [tw_find, if_pos (tw_bt h11)], rfl, rfl⟩
      | exact ⟨by rw [tw_find, if_neg (by rw [tw_bf h11]; exact Bool.false_ne_true)]; rfl, rfl, rfl⟩
  · refine tf_blk _ b_Tf_find_14 rfl ?_
    refine tf_get (fs := ?fs_15_24) (v := ?v_15_24) 18 d_Tf_find_15 rfl fl_Tf_20 ?ha_15_24 ?hf_15_24 ?hv_15_24 ?kk_15_24
    case ha_15_24 => first | assumption | (simp only [List.mem_append, List.mem_singleton]; simp [*])
    case hf_15_24 => first | assumption | exact va_up_self _ _ _ | (refine tf_u (by first | assumption | (apply Ne.symm; assumption) | (intro hh; subst hh; contradiction)) ?_; first | assumption | exact va_up_self _ _ _ | (refine tf_u (by first | assumption | (apply Ne.symm; assumption) | (intro hh; subst hh; contradiction)) ?_; first | assumption | exact va_up_self _ _ _ | (refine tf_u (by first | assumption | (apply Ne.symm; assumption) | (intro hh; subst hh; contradiction)) ?_; first | assumption | exact va_up_self _ _ _ | (refine tf_u (by first | assumption | (apply Ne.symm; assumption) | (intro hh; subst hh; contradiction)) ?_; first | assumption | exact va_up_self _ _ _ | (refine tf_u (by first | assumption | (apply Ne.symm; assumption) | (intro hh; subst hh; contradiction)) ?_; first | assumption | exact va_up_self _ _ _)))))
    case hv_15_24 => rfl
    refine tf_blk _ b_Tf_find_18 rfl ?_
    refine tf_aald (n := ?n_19_25) (g := ?g_19_25) 20 5 d_Tf_find_19 rfl rfl ?ha_19_25 ?hf_19_25 ?hi_19_25 ?kk_19_25
    case ha_19_25 => first | assumption | (simp only [List.mem_append, List.mem_singleton]; simp [*])
    case hf_19_25 => first | assumption | exact va_up_self _ _ _ | (refine tf_u (by first | assumption | (apply Ne.symm; assumption) | (intro hh; subst hh; contradiction)) ?_; first | assumption | exact va_up_self _ _ _ | (refine tf_u (by first | assumption | (apply Ne.symm; assumption) | (intro hh; subst hh; contradiction)) ?_; first | assumption | exact va_up_self _ _ _ | (refine tf_u (by first | assumption | (apply Ne.symm; assumption) | (intro hh; subst hh; contradiction)) ?_; first | assumption | exact va_up_self _ _ _ | (refine tf_u (by first | assumption | (apply Ne.symm; assumption) | (intro hh; subst hh; contradiction)) ?_; first | assumption | exact va_up_self _ _ _ | (refine tf_u (by first | assumption | (apply Ne.symm; assumption) | (intro hh; subst hh; contradiction)) ?_; first | assumption | exact va_up_self _ _ _)))))
    case hi_19_25 => exact tw_find_in hn (tw_bt h11)
    refine tf_goto 24 d_Tf_find_20 rfl ?_
    refine tf_aret d_Tf_find_24 rfl (Or.inl ⟨_, rfl⟩) (by first | exact va_rf_or _ | exact Or.inl rfl) ?_
    first
      | exact ⟨by rw [tw_find, if_pos (tw_bt h11)], rfl, rfl⟩
      | exact ⟨by rw [tw_find, if_neg (by rw [tw_bf h11]; exact Bool.false_ne_true)]; rfl, rfl, rfl⟩
end
def fdJ (x y : Int64) : Int64 := if x ^^^ y < 0 ∧ ¬ x / y * y = x then x / y - 1 else x / y
def fdI (x y : Int32) : Int32 := if x ^^^ y < 0 ∧ ¬ x / y * y = x then x / y - kI 1 else x / y
def hvU (a b : Int64) : Int32 := if b = 0 then kI 0 else (fdJ (2 * a + b) (2 * b)).toInt32
section
variable (l : Launch) (D : va_G) (q : Nat → ClassId) (d : Nat) (L : List Nat) (f : tf_F)
set_option maxHeartbeats 4000000 in
set_option maxRecDepth 100000 in
theorem c_Math_floorDiv_J {x y : Int64} (hy : ¬ y = 0) : tf_C l (tf_H D q) d i_Math_floorDiv_J [.long x, .long y] L f 0 0 (tf_rd (.long (fdJ x y)) L f) := by
  refine tf_C.ofF (tf_gok _ _) (by decide +kernel) w_653 (Nat.le_of_ble_eq_true rfl) ?_
  refine tf_blk _ b_Math_floorDiv_J_0 rfl ?_
  refine tf_ldiv 3 d_Math_floorDiv_J_2 rfl (hy) ?_
  refine tf_blk _ b_Math_floorDiv_J_3 rfl ?_
  refine tf_if_ge 27 13 d_Math_floorDiv_J_10 rfl rfl (fun h10 => ?_) (fun h10 => ?_)
  · refine tf_blk _ b_Math_floorDiv_J_27 rfl ?_
    refine tf_lret d_Math_floorDiv_J_29 rfl ?_
    first
      | exact ⟨by rw [fdJ, if_neg (fun z => Int32.not_lt.mpr h10 ((lg_cmp_lt _ _).mpr z.1))], rfl, rfl⟩
      | exact ⟨by rw [fdJ, if_neg (fun z => z.2 ((lg_cmp_eq _ _).mp h19))], rfl, rfl⟩
  · refine tf_blk _ b_Math_floorDiv_J_13 rfl ?_
    refine tf_if_eq 27 22 d_Math_floorDiv_J_19 rfl rfl (fun h19 => ?_) (fun h19 => ?_)
    · refine tf_blk _ b_Math_floorDiv_J_27 rfl ?_
      refine tf_lret d_Math_floorDiv_J_29 rfl ?_
      first
        | exact ⟨by rw [fdJ, if_neg (fun z => Int32.not_lt.mpr h10 ((lg_cmp_lt _ _).mpr z.1))], rfl, rfl⟩
        | exact ⟨by rw [fdJ, if_neg (fun z => z.2 ((lg_cmp_eq _ _).mp h19))], rfl, rfl⟩
    · refine tf_blk _ b_Math_floorDiv_J_22 rfl ?_
      refine tf_lret d_Math_floorDiv_J_26 rfl ?_
      exact ⟨by rw [fdJ, if_pos ⟨(lg_cmp_lt _ _).mp (Int32.not_le.mp h10), fun z => h19 ((lg_cmp_eq _ _).mpr z)⟩]; rfl, rfl, rfl⟩
set_option maxHeartbeats 4000000 in
set_option maxRecDepth 100000 in
theorem c_Math_floorDiv_I {x y : Int32} (hy : ¬ y = 0) : tf_C l (tf_H D q) d i_Math_floorDiv_I [.int x, .int y] L f 0 0 (tf_rd (.int (fdI x y)) L f) := by
  refine tf_C.ofF (tf_gok _ _) (by decide +kernel) w_1016 (Nat.le_of_ble_eq_true rfl) ?_
  refine tf_blk _ b_Math_floorDiv_I_0 rfl ?_
  refine tf_idiv 3 d_Math_floorDiv_I_2 rfl (hy) ?_
  refine tf_blk _ b_Math_floorDiv_I_3 rfl ?_
  refine tf_if_ge 21 10 d_Math_floorDiv_I_7 rfl rfl (fun h7 => ?_) (fun h7 => ?_)
  · refine tf_blk _ b_Math_floorDiv_I_21 rfl ?_
    refine tf_iret d_Math_floorDiv_I_22 rfl ?_
    first
      | exact ⟨by rw [fdI, if_neg (fun z => Int32.not_lt.mpr h7 z.1)], rfl, rfl⟩
      | exact ⟨by rw [fdI, if_neg (fun z => z.2 h14)], rfl, rfl⟩
  · refine tf_blk _ b_Math_floorDiv_I_10 rfl ?_
    refine tf_ic_eq 21 17 d_Math_floorDiv_I_14 rfl rfl (fun h14 => ?_) (fun h14 => ?_)
    · refine tf_blk _ b_Math_floorDiv_I_21 rfl ?_
      refine tf_iret d_Math_floorDiv_I_22 rfl ?_
      first
        | exact ⟨by rw [fdI, if_neg (fun z => Int32.not_lt.mpr h7 z.1)], rfl, rfl⟩
        | exact ⟨by rw [fdI, if_neg (fun z => z.2 h14)], rfl, rfl⟩
    · refine tf_blk _ b_Math_floorDiv_I_17 rfl ?_
      refine tf_iret d_Math_floorDiv_I_20 rfl ?_
      exact ⟨by rw [fdI, if_pos ⟨Int32.not_le.mp h7, h14⟩], rfl, rfl⟩
theorem two_ne {b : Int64} (h : ¬ b = 0) (hs : -2 ^ 62 ≤ b.toInt ∧ b.toInt < 2 ^ 62) : ¬ 2 * b = 0 := by
  intro z
  apply h
  have := congrArg Int64.toInt z
  rw [Int64.toInt_mul] at this
  apply Int64.toInt_inj.mp
  have h2 : (2 : Int64).toInt = 2 := by decide
  have h0 : (0 : Int64).toInt = 0 := by decide
  rw [h2, h0] at this
  rw [h0]
  simp only [Int.bmod] at this
  omega
set_option maxHeartbeats 4000000 in
set_option maxRecDepth 100000 in
theorem c_Tf_halvesUp (hd : 1 ≤ d) {a b : Int64} (hb : -2 ^ 62 ≤ b.toInt ∧ b.toInt < 2 ^ 62) : tf_C l (tf_H D q) d i_Tf_halvesUp [.long a, .long b] L f 0 0 (tf_rd (.int (hvU a b)) L f) := by
  refine tf_C.of (tf_gok _ _) (by decide) w_649 (Nat.le_of_ble_eq_true rfl) ?_
  refine tf_blk _ b_Tf_halvesUp_0 rfl ?_
  refine tf_if_ne 10 6 d_Tf_halvesUp_3 rfl rfl (fun h3 => ?_) (fun h3 => ?_)
  · refine tf_ldc2 13 d_Tf_halvesUp_10 rfl w_650 ?_
    refine tf_blk _ b_Tf_halvesUp_13 rfl ?_
    refine tf_ldc2 20 d_Tf_halvesUp_17 rfl w_650 ?_
    refine tf_blk _ b_Tf_halvesUp_20 rfl ?_
    refine tf_cS (tf_gok _ _) (c_Math_floorDiv_J l D q (d - 1) L f (two_ne (fun z => h3 ((lg_cmp_eq _ _).mpr z)) hb)) 25 d_Tf_halvesUp_22 rfl lk_Tf_288 cw_Math_floorDiv_J (by rfl) sa_Math_floorDiv_J (by omega) (by exact Nat.le_of_ble_eq_true rfl) rfl ?_
    rintro v22 L22 f22 ⟨rfl, rfl, rfl⟩
    refine tf_blk _ b_Tf_halvesUp_25 rfl ?_
    refine tf_iret d_Tf_halvesUp_26 rfl ?_
    first
      | exact ⟨by (rw [hvU, if_pos (show b = 0 from (lg_cmp_eq b 0).mp h3)]; try rfl), rfl, rfl⟩
      | exact ⟨by (rw [hvU, if_neg (show ¬ b = 0 from fun z => h3 ((lg_cmp_eq b 0).mpr z))]; try rfl), rfl, rfl⟩
  · refine tf_blk _ b_Tf_halvesUp_6 rfl ?_
    refine tf_goto 26 d_Tf_halvesUp_7 rfl ?_
    refine tf_iret d_Tf_halvesUp_26 rfl ?_
    first
      | exact ⟨by (rw [hvU, if_pos (show b = 0 from (lg_cmp_eq b 0).mp h3)]; try rfl), rfl, rfl⟩
      | exact ⟨by (rw [hvU, if_neg (show ¬ b = 0 from fun z => h3 ((lg_cmp_eq b 0).mpr z))]; try rfl), rfl, rfl⟩
end
