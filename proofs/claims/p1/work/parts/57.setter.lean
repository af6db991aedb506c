/-! Setter: the best rule at a place -/
section
variable (l : Launch) (D : va_G) (q : Nat → ClassId) (d : Nat) (L : List Nat) (f : tf_F)
end
/-- a rule: lookup, before, input, after, output -/
abbrev tw_RL := Int32 × Int64 × Int64 × Int64 × Int32
def tw_rc (x : tw_RL) : va_E := to 9 [.int x.1, .int (nI (tw_len x.2.2.1 4 0)), .int x.2.2.2.2, .long x.2.1, .long x.2.2.1, .long x.2.2.2.1, .int (nI (tw_len x.2.1 2 0)), .int (nI (tw_len x.2.2.2.1 2 0))]
def tw_rv (ra : Nat → Nat) : Option Nat → Value
  | none => .null
  | some j => .ref (ra j)
theorem tw_rv_or (ra : Nat → Nat) (b : Option Nat) : tw_rv ra b = .null ∨ ∃ a, tw_rv ra b = .ref a := by
  cases b with
  | none => exact Or.inl rfl
  | some j => exact Or.inr ⟨_, rfl⟩
/-- rule k is longer than the best one yet -/
def tw_lg (R : Nat → tw_RL) (k : Nat) : Option Nat → Bool
  | none => true
  | some j => decide (nI (tw_len (R j).2.2.1 4 0) < nI (tw_len (R k).2.2.1 4 0))
def tw_fitsR (x : tw_RL) (row : Nat → Int32) (s p : Nat) : Bool := tw_fits row s p x.2.1 x.2.2.1 x.2.2.2.1 (tw_len x.2.1 2 0) (tw_len x.2.2.1 4 0) (tw_len x.2.2.2.1 2 0)
def tw_take (R : Nat → tw_RL) (row : Nat → Int32) (s p : Nat) (lo : Int32) (k : Nat) (b : Option Nat) : Bool := decide ((R k).1 = lo) && (tw_lg R k b && tw_fitsR (R k) row s p)
def tw_best (R : Nat → tw_RL) (row : Nat → Int32) (s p : Nat) (lo : Int32) : Nat → Nat → Option Nat → Option Nat
  | 0, _, b => b
  | m + 1, k, b => tw_best R row s p lo m (k + 1) (if tw_take R row s p lo k b = true then some k else b)
theorem tw_best_t {R : Nat → tw_RL} {row : Nat → Int32} {s p : Nat} {lo : Int32} {m k : Nat} {b : Option Nat} (e : tw_take R row s p lo k b = true) : tw_best R row s p lo (m + 1) k b = tw_best R row s p lo m (k + 1) (some k) := by
  rw [tw_best, if_pos e]
theorem tw_best_f {R : Nat → tw_RL} {row : Nat → Int32} {s p : Nat} {lo : Int32} {m k : Nat} {b : Option Nat} (e : tw_take R row s p lo k b = false) : tw_best R row s p lo (m + 1) k b = tw_best R row s p lo m (k + 1) b := by
  rw [tw_best, if_neg (by rw [e]; decide)]
/-- the best rule is one of those that fit -/
theorem tw_best_s (R : Nat → tw_RL) (row : Nat → Int32) (s p : Nat) (lo : Int32) : ∀ m k b j, tw_best R row s p lo m k b = some j → b = some j ∨ (k ≤ j ∧ j < k + m ∧ tw_fitsR (R j) row s p = true) := by
  intro m
  induction m with
  | zero => intro k b j h; exact Or.inl h
  | succ m ih =>
    intro k b j h
    cases e : tw_take R row s p lo k b with
    | true =>
      rw [tw_best_t e] at h
      rcases ih _ _ _ h with h | ⟨h1, h2, h3⟩
      · cases h
        refine Or.inr ⟨Nat.le_refl _, by omega, ?_⟩
        simp only [tw_take, Bool.and_eq_true] at e
        exact e.2.2
      · exact Or.inr ⟨by omega, by omega, h3⟩
    | false =>
      rw [tw_best_f e] at h
      rcases ih _ _ _ h with h | ⟨h1, h2, h3⟩
      · exact Or.inl h
      · exact Or.inr ⟨by omega, by omega, h3⟩
section
variable (l : Launch) (D : va_G) (q : Nat → ClassId) (d : Nat) (L : List Nat) (f : tf_F)
set_option maxHeartbeats 4000000 in
set_option maxRecDepth 100000 in
theorem t_Setter_bestAt (hd : 3 ≤ d) {a ro ru s p n : Nat} {v2 v4 v5 : Value} {row : Nat → Int32} {g : Nat → Option Nat} {ra : Nat → Nat} {R : Nat → tw_RL} (lo : Int32) (hs : s ≤ 60) (hp : p ≤ 60) (hn : n ≤ 40) (ha : a ∈ L) (fa : f a = to 10 [.ref ro, .int (nI s), v2, .int (nI n), v4, v5, .ref ru]) (hro : ro ∈ L) (fro : f ro = ti q 60 row) (hru : ru ∈ L) (fru : f ru = tr 7 q 40 g) (hR : ∀ i, i < n → g i = some (ra i) ∧ ra i ∈ L ∧ f (ra i) = tw_rc (R i)) : ∀ m k b, k + m = n → (∀ j, b = some j → j < n) → tf_W l (tf_H D q) tf_T (tf_QM (tf_H D q) (tf_rd (tw_rv ra (tw_best R row s p lo m k b)) L f)) d i_Setter_bestAt 5 [(0, .ref a), (1, .int lo), (2, .int (nI p)), (3, tw_rv ra b), (4, .int (nI k))] [] L f 0 0 := by
  intro m
  induction m with
  | zero =>
    intro k b hk hb
    rcases b with _ | j
    · refine tf_blk _ b_Setter_bestAt_5 rfl ?_
      refine tf_get (fs := ?fs_8_1) (v := ?v_8_1) 11 d_Setter_bestAt_8 rfl fl_Setter_24 ?ha_8_1 ?hf_8_1 ?hv_8_1 ?kk_8_1
      case ha_8_1 => first | assumption | (simp only [List.mem_append, List.mem_singleton]; simp [*])
      case hf_8_1 => first | assumption | exact va_up_self _ _ _ | (refine tf_u (by first | assumption | (apply Ne.symm; assumption) | (intro hh; subst hh; contradiction) | exact tf_n1 (by assumption) (by assumption) | exact tf_n2 (by assumption) (by assumption)) ?_; first | assumption | exact va_up_self _ _ _ | (refine tf_u (by first | assumption | (apply Ne.symm; assumption) | (intro hh; subst hh; contradiction) | exact tf_n1 (by assumption) (by assumption) | exact tf_n2 (by assumption) (by assumption)) ?_; first | assumption | exact va_up_self _ _ _ | (refine tf_u (by first | assumption | (apply Ne.symm; assumption) | (intro hh; subst hh; contradiction) | exact tf_n1 (by assumption) (by assumption) | exact tf_n2 (by assumption) (by assumption)) ?_; first | assumption | exact va_up_self _ _ _ | (refine tf_u (by first | assumption | (apply Ne.symm; assumption) | (intro hh; subst hh; contradiction) | exact tf_n1 (by assumption) (by assumption) | exact tf_n2 (by assumption) (by assumption)) ?_; first | assumption | exact va_up_self _ _ _ | (refine tf_u (by first | assumption | (apply Ne.symm; assumption) | (intro hh; subst hh; contradiction) | exact tf_n1 (by assumption) (by assumption) | exact tf_n2 (by assumption) (by assumption)) ?_; first | assumption | exact va_up_self _ _ _)))))
      case hv_8_1 => rfl
      refine tf_ic_ge 72 14 d_Setter_bestAt_11 rfl rfl (fun h11 => ?_) (fun h11 => absurd (nI_le (by omega) (by omega)) h11)
      refine tf_blk _ b_Setter_bestAt_72 rfl ?_
      refine tf_aret d_Setter_bestAt_73 rfl (Or.inl ⟨_, rfl⟩) (by simp) ?_
      exact ⟨rfl, rfl, rfl⟩
    · refine tf_blk _ b_Setter_bestAt_5 rfl ?_
      refine tf_get (fs := ?fs_8_3) (v := ?v_8_3) 11 d_Setter_bestAt_8 rfl fl_Setter_24 ?ha_8_3 ?hf_8_3 ?hv_8_3 ?kk_8_3
      case ha_8_3 => first | assumption | (simp only [List.mem_append, List.mem_singleton]; simp [*])
      case hf_8_3 => first | assumption | exact va_up_self _ _ _ | (refine tf_u (by first | assumption | (apply Ne.symm; assumption) | (intro hh; subst hh; contradiction) | exact tf_n1 (by assumption) (by assumption) | exact tf_n2 (by assumption) (by assumption)) ?_; first | assumption | exact va_up_self _ _ _ | (refine tf_u (by first | assumption | (apply Ne.symm; assumption) | (intro hh; subst hh; contradiction) | exact tf_n1 (by assumption) (by assumption) | exact tf_n2 (by assumption) (by assumption)) ?_; first | assumption | exact va_up_self _ _ _ | (refine tf_u (by first | assumption | (apply Ne.symm; assumption) | (intro hh; subst hh; contradiction) | exact tf_n1 (by assumption) (by assumption) | exact tf_n2 (by assumption) (by assumption)) ?_; first | assumption | exact va_up_self _ _ _ | (refine tf_u (by first | assumption | (apply Ne.symm; assumption) | (intro hh; subst hh; contradiction) | exact tf_n1 (by assumption) (by assumption) | exact tf_n2 (by assumption) (by assumption)) ?_; first | assumption | exact va_up_self _ _ _ | (refine tf_u (by first | assumption | (apply Ne.symm; assumption) | (intro hh; subst hh; contradiction) | exact tf_n1 (by assumption) (by assumption) | exact tf_n2 (by assumption) (by assumption)) ?_; first | assumption | exact va_up_self _ _ _)))))
      case hv_8_3 => rfl
      refine tf_ic_ge 72 14 d_Setter_bestAt_11 rfl rfl (fun h11 => ?_) (fun h11 => absurd (nI_le (by omega) (by omega)) h11)
      refine tf_blk _ b_Setter_bestAt_72 rfl ?_
      refine tf_aret d_Setter_bestAt_73 rfl (Or.inl ⟨_, rfl⟩) (by simp) ?_
      exact ⟨rfl, rfl, rfl⟩
  | succ m ih =>
    intro k b hk hb
    have hv : vp_in (nI k) 40 := vp_in_nI (by omega) (by omega)
    have hc : (nI k).toNatClampNeg = k := nI_clamp (by omega)
    obtain ⟨hg, hrk, fk⟩ := hR k (by omega)
    replace hg : va_rf (g (nI k).toNatClampNeg) = .ref (ra k) := by rw [hc, hg]; rfl
    replace fk : f (ra k) = to 9 [.int (R k).1, .int (nI (tw_len (R k).2.2.1 4 0)), .int (R k).2.2.2.2, .long (R k).2.1, .long (R k).2.2.1, .long (R k).2.2.2.1, .int (nI (tw_len (R k).2.1 2 0)), .int (nI (tw_len (R k).2.2.2.1 2 0))] := fk
    have hl2 := fun x => (tw_len_le x 2 0).2
    have hl4 := fun x => (tw_len_le x 4 0).2
    rcases b with _ | j
    · refine tf_blk _ b_Setter_bestAt_5 rfl ?_
      refine tf_get (fs := ?fs_8_5) (v := ?v_8_5) 11 d_Setter_bestAt_8 rfl fl_Setter_24 ?ha_8_5 ?hf_8_5 ?hv_8_5 ?kk_8_5
      case ha_8_5 => first | assumption | (simp only [List.mem_append, List.mem_singleton]; simp [*])
      case hf_8_5 => first | assumption | exact va_up_self _ _ _ | (refine tf_u (by first | assumption | (apply Ne.symm; assumption) | (intro hh; subst hh; contradiction) | exact tf_n1 (by assumption) (by assumption) | exact tf_n2 (by assumption) (by assumption)) ?_; first | assumption | exact va_up_self _ _ _ | (refine tf_u (by first | assumption | (apply Ne.symm; assumption) | (intro hh; subst hh; contradiction) | exact tf_n1 (by assumption) (by assumption) | exact tf_n2 (by assumption) (by assumption)) ?_; first | assumption | exact va_up_self _ _ _ | (refine tf_u (by first | assumption | (apply Ne.symm; assumption) | (intro hh; subst hh; contradiction) | exact tf_n1 (by assumption) (by assumption) | exact tf_n2 (by assumption) (by assumption)) ?_; first | assumption | exact va_up_self _ _ _ | (refine tf_u (by first | assumption | (apply Ne.symm; assumption) | (intro hh; subst hh; contradiction) | exact tf_n1 (by assumption) (by assumption) | exact tf_n2 (by assumption) (by assumption)) ?_; first | assumption | exact va_up_self _ _ _ | (refine tf_u (by first | assumption | (apply Ne.symm; assumption) | (intro hh; subst hh; contradiction) | exact tf_n1 (by assumption) (by assumption) | exact tf_n2 (by assumption) (by assumption)) ?_; first | assumption | exact va_up_self _ _ _)))))
      case hv_8_5 => rfl
      refine tf_ic_ge 72 14 d_Setter_bestAt_11 rfl rfl (fun h11 => absurd h11 (nI_ge (by omega) (by omega))) (fun h11 => ?_)
      refine tf_blk _ b_Setter_bestAt_14 rfl ?_
      refine tf_get (fs := ?fs_15_6) (v := ?v_15_6) 18 d_Setter_bestAt_15 rfl fl_Setter_20 ?ha_15_6 ?hf_15_6 ?hv_15_6 ?kk_15_6
      case ha_15_6 => first | assumption | (simp only [List.mem_append, List.mem_singleton]; simp [*])
      case hf_15_6 => first | assumption | exact va_up_self _ _ _ | (refine tf_u (by first | assumption | (apply Ne.symm; assumption) | (intro hh; subst hh; contradiction) | exact tf_n1 (by assumption) (by assumption) | exact tf_n2 (by assumption) (by assumption)) ?_; first | assumption | exact va_up_self _ _ _ | (refine tf_u (by first | assumption | (apply Ne.symm; assumption) | (intro hh; subst hh; contradiction) | exact tf_n1 (by assumption) (by assumption) | exact tf_n2 (by assumption) (by assumption)) ?_; first | assumption | exact va_up_self _ _ _ | (refine tf_u (by first | assumption | (apply Ne.symm; assumption) | (intro hh; subst hh; contradiction) | exact tf_n1 (by assumption) (by assumption) | exact tf_n2 (by assumption) (by assumption)) ?_; first | assumption | exact va_up_self _ _ _ | (refine tf_u (by first | assumption | (apply Ne.symm; assumption) | (intro hh; subst hh; contradiction) | exact tf_n1 (by assumption) (by assumption) | exact tf_n2 (by assumption) (by assumption)) ?_; first | assumption | exact va_up_self _ _ _ | (refine tf_u (by first | assumption | (apply Ne.symm; assumption) | (intro hh; subst hh; contradiction) | exact tf_n1 (by assumption) (by assumption) | exact tf_n2 (by assumption) (by assumption)) ?_; first | assumption | exact va_up_self _ _ _)))))
      case hv_15_6 => rfl
      refine tf_blk _ b_Setter_bestAt_18 rfl ?_
      refine tf_aald (n := ?n_20_7) (g := ?g_20_7) 21 7 d_Setter_bestAt_20 rfl rfl ?ha_20_7 ?hf_20_7 ?hi_20_7 ?kk_20_7
      case ha_20_7 => first | assumption | (simp only [List.mem_append, List.mem_singleton]; simp [*])
      case hf_20_7 => first | assumption | exact va_up_self _ _ _ | (refine tf_u (by first | assumption | (apply Ne.symm; assumption) | (intro hh; subst hh; contradiction) | exact tf_n1 (by assumption) (by assumption) | exact tf_n2 (by assumption) (by assumption)) ?_; first | assumption | exact va_up_self _ _ _ | (refine tf_u (by first | assumption | (apply Ne.symm; assumption) | (intro hh; subst hh; contradiction) | exact tf_n1 (by assumption) (by assumption) | exact tf_n2 (by assumption) (by assumption)) ?_; first | assumption | exact va_up_self _ _ _ | (refine tf_u (by first | assumption | (apply Ne.symm; assumption) | (intro hh; subst hh; contradiction) | exact tf_n1 (by assumption) (by assumption) | exact tf_n2 (by assumption) (by assumption)) ?_; first | assumption | exact va_up_self _ _ _ | (refine tf_u (by first | assumption | (apply Ne.symm; assumption) | (intro hh; subst hh; contradiction) | exact tf_n1 (by assumption) (by assumption) | exact tf_n2 (by assumption) (by assumption)) ?_; first | assumption | exact va_up_self _ _ _ | (refine tf_u (by first | assumption | (apply Ne.symm; assumption) | (intro hh; subst hh; contradiction) | exact tf_n1 (by assumption) (by assumption) | exact tf_n2 (by assumption) (by assumption)) ?_; first | assumption | exact va_up_self _ _ _)))))
      case hi_20_7 => exact hv
      rw [hg]
      refine tf_blk _ b_Setter_bestAt_21 rfl ?_
      refine tf_ifnull_r 28 d_Setter_bestAt_25 rfl ?_
      refine tf_blk _ b_Setter_bestAt_28 rfl ?_
      refine tf_get (fs := ?fs_30_8) (v := ?v_30_8) 33 d_Setter_bestAt_30 rfl fl_Setter_55 ?ha_30_8 ?hf_30_8 ?hv_30_8 ?kk_30_8
      case ha_30_8 => first | assumption | (simp only [List.mem_append, List.mem_singleton]; simp [*])
      case hf_30_8 => first | assumption | exact va_up_self _ _ _ | (refine tf_u (by first | assumption | (apply Ne.symm; assumption) | (intro hh; subst hh; contradiction) | exact tf_n1 (by assumption) (by assumption) | exact tf_n2 (by assumption) (by assumption)) ?_; first | assumption | exact va_up_self _ _ _ | (refine tf_u (by first | assumption | (apply Ne.symm; assumption) | (intro hh; subst hh; contradiction) | exact tf_n1 (by assumption) (by assumption) | exact tf_n2 (by assumption) (by assumption)) ?_; first | assumption | exact va_up_self _ _ _ | (refine tf_u (by first | assumption | (apply Ne.symm; assumption) | (intro hh; subst hh; contradiction) | exact tf_n1 (by assumption) (by assumption) | exact tf_n2 (by assumption) (by assumption)) ?_; first | assumption | exact va_up_self _ _ _ | (refine tf_u (by first | assumption | (apply Ne.symm; assumption) | (intro hh; subst hh; contradiction) | exact tf_n1 (by assumption) (by assumption) | exact tf_n2 (by assumption) (by assumption)) ?_; first | assumption | exact va_up_self _ _ _ | (refine tf_u (by first | assumption | (apply Ne.symm; assumption) | (intro hh; subst hh; contradiction) | exact tf_n1 (by assumption) (by assumption) | exact tf_n2 (by assumption) (by assumption)) ?_; first | assumption | exact va_up_self _ _ _)))))
      case hv_30_8 => rfl
      refine tf_blk _ b_Setter_bestAt_33 rfl ?_
      refine tf_ic_ne 66 37 d_Setter_bestAt_34 rfl rfl (fun h34 => ?_) (fun h34 => ?_)
      · refine tf_blk _ b_Setter_bestAt_66 rfl ?_
        refine tf_goto 5 d_Setter_bestAt_69 rfl ?_
        refine tf_drop [0, 1, 2, 3, 4] rfl ?_
        try simp only [bI_eq0, Bool.not_eq_false] at h43
        try simp only [bI_eq0, Bool.not_eq_false] at h60
        first
        | (have e : tw_take R row s p lo k (none) = true := by (simp only [tw_take, tw_lg, tw_fitsR, h34, not_true_eq_false, not_false_eq_true, decide_true, decide_false, Bool.false_and, Bool.and_false, Bool.true_and, Bool.and_true, Bool.or_false, Bool.false_or, Bool.or_true, Bool.true_or]; done)
           rw [tw_best_t e]
           have h9 := ih (k + 1) (some k) (by omega) (fun j h => by cases h; omega)
           rw [nI_succ] at h9
           exact h9)
        | (have e : tw_take R row s p lo k (none) = false := by (simp only [tw_take, tw_lg, tw_fitsR, h34, not_true_eq_false, not_false_eq_true, decide_true, decide_false, Bool.false_and, Bool.and_false, Bool.true_and, Bool.and_true, Bool.or_false, Bool.false_or, Bool.or_true, Bool.true_or]; done)
           rw [tw_best_f e]
           have h9 := ih (k + 1) (none) (by omega) hb
           rw [nI_succ] at h9
           exact h9)
      · refine tf_blk _ b_Setter_bestAt_37 rfl ?_
        refine tf_cV (tf_gok _ _) (c_Rule_isLongerThan_n l D q (d - 1) _ _ hrk fk) 43 d_Setter_bestAt_40 rfl lk_Setter_58 cw_Rule_isLongerThan (by rfl) in_Rule_isLongerThan se_Rule_isLongerThan (by first | assumption | (simp only [List.mem_append, List.mem_singleton]; simp [*])) (by first | assumption | exact va_up_self _ _ _ | (refine tf_u (by first | assumption | (apply Ne.symm; assumption) | (intro hh; subst hh; contradiction) | exact tf_n1 (by assumption) (by assumption) | exact tf_n2 (by assumption) (by assumption)) ?_; first | assumption | exact va_up_self _ _ _ | (refine tf_u (by first | assumption | (apply Ne.symm; assumption) | (intro hh; subst hh; contradiction) | exact tf_n1 (by assumption) (by assumption) | exact tf_n2 (by assumption) (by assumption)) ?_; first | assumption | exact va_up_self _ _ _ | (refine tf_u (by first | assumption | (apply Ne.symm; assumption) | (intro hh; subst hh; contradiction) | exact tf_n1 (by assumption) (by assumption) | exact tf_n2 (by assumption) (by assumption)) ?_; first | assumption | exact va_up_self _ _ _ | (refine tf_u (by first | assumption | (apply Ne.symm; assumption) | (intro hh; subst hh; contradiction) | exact tf_n1 (by assumption) (by assumption) | exact tf_n2 (by assumption) (by assumption)) ?_; first | assumption | exact va_up_self _ _ _ | (refine tf_u (by first | assumption | (apply Ne.symm; assumption) | (intro hh; subst hh; contradiction) | exact tf_n1 (by assumption) (by assumption) | exact tf_n2 (by assumption) (by assumption)) ?_; first | assumption | exact va_up_self _ _ _)))))) (by rfl) (by rfl) (by omega) (by exact Nat.le_of_ble_eq_true rfl) rfl ?_
        rintro v40 L40 f40 ⟨rfl, rfl, rfl⟩
        refine tf_if_eq 66 46 d_Setter_bestAt_43 rfl rfl (fun h43 => absurd h43 (show ¬ kI 1 = 0 by decide)) (fun h43 => ?_)
        refine tf_blk _ b_Setter_bestAt_46 rfl ?_
        refine tf_get (fs := ?fs_49_10) (v := ?v_49_10) 52 d_Setter_bestAt_49 rfl fl_Setter_9 ?ha_49_10 ?hf_49_10 ?hv_49_10 ?kk_49_10
        case ha_49_10 => first | assumption | (simp only [List.mem_append, List.mem_singleton]; simp [*])
        case hf_49_10 => first | assumption | exact va_up_self _ _ _ | (refine tf_u (by first | assumption | (apply Ne.symm; assumption) | (intro hh; subst hh; contradiction) | exact tf_n1 (by assumption) (by assumption) | exact tf_n2 (by assumption) (by assumption)) ?_; first | assumption | exact va_up_self _ _ _ | (refine tf_u (by first | assumption | (apply Ne.symm; assumption) | (intro hh; subst hh; contradiction) | exact tf_n1 (by assumption) (by assumption) | exact tf_n2 (by assumption) (by assumption)) ?_; first | assumption | exact va_up_self _ _ _ | (refine tf_u (by first | assumption | (apply Ne.symm; assumption) | (intro hh; subst hh; contradiction) | exact tf_n1 (by assumption) (by assumption) | exact tf_n2 (by assumption) (by assumption)) ?_; first | assumption | exact va_up_self _ _ _ | (refine tf_u (by first | assumption | (apply Ne.symm; assumption) | (intro hh; subst hh; contradiction) | exact tf_n1 (by assumption) (by assumption) | exact tf_n2 (by assumption) (by assumption)) ?_; first | assumption | exact va_up_self _ _ _ | (refine tf_u (by first | assumption | (apply Ne.symm; assumption) | (intro hh; subst hh; contradiction) | exact tf_n1 (by assumption) (by assumption) | exact tf_n2 (by assumption) (by assumption)) ?_; first | assumption | exact va_up_self _ _ _)))))
        case hv_49_10 => rfl
        refine tf_blk _ b_Setter_bestAt_52 rfl ?_
        refine tf_get (fs := ?fs_53_11) (v := ?v_53_11) 56 d_Setter_bestAt_53 rfl fl_Setter_37 ?ha_53_11 ?hf_53_11 ?hv_53_11 ?kk_53_11
        case ha_53_11 => first | assumption | (simp only [List.mem_append, List.mem_singleton]; simp [*])
        case hf_53_11 => first | assumption | exact va_up_self _ _ _ | (refine tf_u (by first | assumption | (apply Ne.symm; assumption) | (intro hh; subst hh; contradiction) | exact tf_n1 (by assumption) (by assumption) | exact tf_n2 (by assumption) (by assumption)) ?_; first | assumption | exact va_up_self _ _ _ | (refine tf_u (by first | assumption | (apply Ne.symm; assumption) | (intro hh; subst hh; contradiction) | exact tf_n1 (by assumption) (by assumption) | exact tf_n2 (by assumption) (by assumption)) ?_; first | assumption | exact va_up_self _ _ _ | (refine tf_u (by first | assumption | (apply Ne.symm; assumption) | (intro hh; subst hh; contradiction) | exact tf_n1 (by assumption) (by assumption) | exact tf_n2 (by assumption) (by assumption)) ?_; first | assumption | exact va_up_self _ _ _ | (refine tf_u (by first | assumption | (apply Ne.symm; assumption) | (intro hh; subst hh; contradiction) | exact tf_n1 (by assumption) (by assumption) | exact tf_n2 (by assumption) (by assumption)) ?_; first | assumption | exact va_up_self _ _ _ | (refine tf_u (by first | assumption | (apply Ne.symm; assumption) | (intro hh; subst hh; contradiction) | exact tf_n1 (by assumption) (by assumption) | exact tf_n2 (by assumption) (by assumption)) ?_; first | assumption | exact va_up_self _ _ _)))))
        case hv_53_11 => rfl
        refine tf_blk _ b_Setter_bestAt_56 rfl ?_
        refine tf_cV (tf_gok _ _) (c_Rule_fits l D q (d - 1) _ _ (by omega) hrk fk hro fro hs hp (by have := hl2 (R k).2.1; omega) (by have := hl4 (R k).2.2.1; omega) (by have := hl2 (R k).2.2.2.1; omega)) 60 d_Setter_bestAt_57 rfl lk_Setter_62 cw_Rule_fits (by rfl) in_Rule_fits se_Rule_fits (by first | assumption | (simp only [List.mem_append, List.mem_singleton]; simp [*])) (by first | assumption | exact va_up_self _ _ _ | (refine tf_u (by first | assumption | (apply Ne.symm; assumption) | (intro hh; subst hh; contradiction) | exact tf_n1 (by assumption) (by assumption) | exact tf_n2 (by assumption) (by assumption)) ?_; first | assumption | exact va_up_self _ _ _ | (refine tf_u (by first | assumption | (apply Ne.symm; assumption) | (intro hh; subst hh; contradiction) | exact tf_n1 (by assumption) (by assumption) | exact tf_n2 (by assumption) (by assumption)) ?_; first | assumption | exact va_up_self _ _ _ | (refine tf_u (by first | assumption | (apply Ne.symm; assumption) | (intro hh; subst hh; contradiction) | exact tf_n1 (by assumption) (by assumption) | exact tf_n2 (by assumption) (by assumption)) ?_; first | assumption | exact va_up_self _ _ _ | (refine tf_u (by first | assumption | (apply Ne.symm; assumption) | (intro hh; subst hh; contradiction) | exact tf_n1 (by assumption) (by assumption) | exact tf_n2 (by assumption) (by assumption)) ?_; first | assumption | exact va_up_self _ _ _ | (refine tf_u (by first | assumption | (apply Ne.symm; assumption) | (intro hh; subst hh; contradiction) | exact tf_n1 (by assumption) (by assumption) | exact tf_n2 (by assumption) (by assumption)) ?_; first | assumption | exact va_up_self _ _ _)))))) (by rfl) (by rfl) (by omega) (by exact Nat.le_of_ble_eq_true rfl) rfl ?_
        rintro v57 L57 f57 ⟨rfl, rfl, rfl⟩
        refine tf_if_eq 66 63 d_Setter_bestAt_60 rfl rfl (fun h60 => ?_) (fun h60 => ?_)
        · refine tf_blk _ b_Setter_bestAt_66 rfl ?_
          refine tf_goto 5 d_Setter_bestAt_69 rfl ?_
          refine tf_drop [0, 1, 2, 3, 4] rfl ?_
          try simp only [bI_eq0, Bool.not_eq_false] at h43
          try simp only [bI_eq0, Bool.not_eq_false] at h60
          first
          | (have e : tw_take R row s p lo k (none) = true := by (simp only [tw_take, tw_lg, tw_fitsR, h34, h60, not_true_eq_false, not_false_eq_true, decide_true, decide_false, Bool.false_and, Bool.and_false, Bool.true_and, Bool.and_true, Bool.or_false, Bool.false_or, Bool.or_true, Bool.true_or]; done)
             rw [tw_best_t e]
             have h9 := ih (k + 1) (some k) (by omega) (fun j h => by cases h; omega)
             rw [nI_succ] at h9
             exact h9)
          | (have e : tw_take R row s p lo k (none) = false := by (simp only [tw_take, tw_lg, tw_fitsR, h34, h60, not_true_eq_false, not_false_eq_true, decide_true, decide_false, Bool.false_and, Bool.and_false, Bool.true_and, Bool.and_true, Bool.or_false, Bool.false_or, Bool.or_true, Bool.true_or]; done)
             rw [tw_best_f e]
             have h9 := ih (k + 1) (none) (by omega) hb
             rw [nI_succ] at h9
             exact h9)
        · refine tf_blk _ b_Setter_bestAt_63 rfl ?_
          refine tf_blk _ b_Setter_bestAt_66 rfl ?_
          refine tf_goto 5 d_Setter_bestAt_69 rfl ?_
          refine tf_drop [0, 1, 2, 3, 4] rfl ?_
          try simp only [bI_eq0, Bool.not_eq_false] at h43
          try simp only [bI_eq0, Bool.not_eq_false] at h60
          first
          | (have e : tw_take R row s p lo k (none) = true := by (simp only [tw_take, tw_lg, tw_fitsR, h34, h60, not_true_eq_false, not_false_eq_true, decide_true, decide_false, Bool.false_and, Bool.and_false, Bool.true_and, Bool.and_true, Bool.or_false, Bool.false_or, Bool.or_true, Bool.true_or]; done)
             rw [tw_best_t e]
             have h9 := ih (k + 1) (some k) (by omega) (fun j h => by cases h; omega)
             rw [nI_succ] at h9
             exact h9)
          | (have e : tw_take R row s p lo k (none) = false := by (simp only [tw_take, tw_lg, tw_fitsR, h34, h60, not_true_eq_false, not_false_eq_true, decide_true, decide_false, Bool.false_and, Bool.and_false, Bool.true_and, Bool.and_true, Bool.or_false, Bool.false_or, Bool.or_true, Bool.true_or]; done)
             rw [tw_best_f e]
             have h9 := ih (k + 1) (none) (by omega) hb
             rw [nI_succ] at h9
             exact h9)
    · obtain ⟨-, hrj, fj⟩ := hR j (hb j rfl)
      replace fj : f (ra j) = to 9 [.int (R j).1, .int (nI (tw_len (R j).2.2.1 4 0)), .int (R j).2.2.2.2, .long (R j).2.1, .long (R j).2.2.1, .long (R j).2.2.2.1, .int (nI (tw_len (R j).2.1 2 0)), .int (nI (tw_len (R j).2.2.2.1 2 0))] := fj
      refine tf_blk _ b_Setter_bestAt_5 rfl ?_
      refine tf_get (fs := ?fs_8_13) (v := ?v_8_13) 11 d_Setter_bestAt_8 rfl fl_Setter_24 ?ha_8_13 ?hf_8_13 ?hv_8_13 ?kk_8_13
      case ha_8_13 => first | assumption | (simp only [List.mem_append, List.mem_singleton]; simp [*])
      case hf_8_13 => first | assumption | exact va_up_self _ _ _ | (refine tf_u (by first | assumption | (apply Ne.symm; assumption) | (intro hh; subst hh; contradiction) | exact tf_n1 (by assumption) (by assumption) | exact tf_n2 (by assumption) (by assumption)) ?_; first | assumption | exact va_up_self _ _ _ | (refine tf_u (by first | assumption | (apply Ne.symm; assumption) | (intro hh; subst hh; contradiction) | exact tf_n1 (by assumption) (by assumption) | exact tf_n2 (by assumption) (by assumption)) ?_; first | assumption | exact va_up_self _ _ _ | (refine tf_u (by first | assumption | (apply Ne.symm; assumption) | (intro hh; subst hh; contradiction) | exact tf_n1 (by assumption) (by assumption) | exact tf_n2 (by assumption) (by assumption)) ?_; first | assumption | exact va_up_self _ _ _ | (refine tf_u (by first | assumption | (apply Ne.symm; assumption) | (intro hh; subst hh; contradiction) | exact tf_n1 (by assumption) (by assumption) | exact tf_n2 (by assumption) (by assumption)) ?_; first | assumption | exact va_up_self _ _ _ | (refine tf_u (by first | assumption | (apply Ne.symm; assumption) | (intro hh; subst hh; contradiction) | exact tf_n1 (by assumption) (by assumption) | exact tf_n2 (by assumption) (by assumption)) ?_; first | assumption | exact va_up_self _ _ _)))))
      case hv_8_13 => rfl
      refine tf_ic_ge 72 14 d_Setter_bestAt_11 rfl rfl (fun h11 => absurd h11 (nI_ge (by omega) (by omega))) (fun h11 => ?_)
      refine tf_blk _ b_Setter_bestAt_14 rfl ?_
      refine tf_get (fs := ?fs_15_14) (v := ?v_15_14) 18 d_Setter_bestAt_15 rfl fl_Setter_20 ?ha_15_14 ?hf_15_14 ?hv_15_14 ?kk_15_14
      case ha_15_14 => first | assumption | (simp only [List.mem_append, List.mem_singleton]; simp [*])
      case hf_15_14 => first | assumption | exact va_up_self _ _ _ | (refine tf_u (by first | assumption | (apply Ne.symm; assumption) | (intro hh; subst hh; contradiction) | exact tf_n1 (by assumption) (by assumption) | exact tf_n2 (by assumption) (by assumption)) ?_; first | assumption | exact va_up_self _ _ _ | (refine tf_u (by first | assumption | (apply Ne.symm; assumption) | (intro hh; subst hh; contradiction) | exact tf_n1 (by assumption) (by assumption) | exact tf_n2 (by assumption) (by assumption)) ?_; first | assumption | exact va_up_self _ _ _ | (refine tf_u (by first | assumption | (apply Ne.symm; assumption) | (intro hh; subst hh; contradiction) | exact tf_n1 (by assumption) (by assumption) | exact tf_n2 (by assumption) (by assumption)) ?_; first | assumption | exact va_up_self _ _ _ | (refine tf_u (by first | assumption | (apply Ne.symm; assumption) | (intro hh; subst hh; contradiction) | exact tf_n1 (by assumption) (by assumption) | exact tf_n2 (by assumption) (by assumption)) ?_; first | assumption | exact va_up_self _ _ _ | (refine tf_u (by first | assumption | (apply Ne.symm; assumption) | (intro hh; subst hh; contradiction) | exact tf_n1 (by assumption) (by assumption) | exact tf_n2 (by assumption) (by assumption)) ?_; first | assumption | exact va_up_self _ _ _)))))
      case hv_15_14 => rfl
      refine tf_blk _ b_Setter_bestAt_18 rfl ?_
      refine tf_aald (n := ?n_20_15) (g := ?g_20_15) 21 7 d_Setter_bestAt_20 rfl rfl ?ha_20_15 ?hf_20_15 ?hi_20_15 ?kk_20_15
      case ha_20_15 => first | assumption | (simp only [List.mem_append, List.mem_singleton]; simp [*])
      case hf_20_15 => first | assumption | exact va_up_self _ _ _ | (refine tf_u (by first | assumption | (apply Ne.symm; assumption) | (intro hh; subst hh; contradiction) | exact tf_n1 (by assumption) (by assumption) | exact tf_n2 (by assumption) (by assumption)) ?_; first | assumption | exact va_up_self _ _ _ | (refine tf_u (by first | assumption | (apply Ne.symm; assumption) | (intro hh; subst hh; contradiction) | exact tf_n1 (by assumption) (by assumption) | exact tf_n2 (by assumption) (by assumption)) ?_; first | assumption | exact va_up_self _ _ _ | (refine tf_u (by first | assumption | (apply Ne.symm; assumption) | (intro hh; subst hh; contradiction) | exact tf_n1 (by assumption) (by assumption) | exact tf_n2 (by assumption) (by assumption)) ?_; first | assumption | exact va_up_self _ _ _ | (refine tf_u (by first | assumption | (apply Ne.symm; assumption) | (intro hh; subst hh; contradiction) | exact tf_n1 (by assumption) (by assumption) | exact tf_n2 (by assumption) (by assumption)) ?_; first | assumption | exact va_up_self _ _ _ | (refine tf_u (by first | assumption | (apply Ne.symm; assumption) | (intro hh; subst hh; contradiction) | exact tf_n1 (by assumption) (by assumption) | exact tf_n2 (by assumption) (by assumption)) ?_; first | assumption | exact va_up_self _ _ _)))))
      case hi_20_15 => exact hv
      rw [hg]
      refine tf_blk _ b_Setter_bestAt_21 rfl ?_
      refine tf_ifnull_r 28 d_Setter_bestAt_25 rfl ?_
      refine tf_blk _ b_Setter_bestAt_28 rfl ?_
      refine tf_get (fs := ?fs_30_16) (v := ?v_30_16) 33 d_Setter_bestAt_30 rfl fl_Setter_55 ?ha_30_16 ?hf_30_16 ?hv_30_16 ?kk_30_16
      case ha_30_16 => first | assumption | (simp only [List.mem_append, List.mem_singleton]; simp [*])
      case hf_30_16 => first | assumption | exact va_up_self _ _ _ | (refine tf_u (by first | assumption | (apply Ne.symm; assumption) | (intro hh; subst hh; contradiction) | exact tf_n1 (by assumption) (by assumption) | exact tf_n2 (by assumption) (by assumption)) ?_; first | assumption | exact va_up_self _ _ _ | (refine tf_u (by first | assumption | (apply Ne.symm; assumption) | (intro hh; subst hh; contradiction) | exact tf_n1 (by assumption) (by assumption) | exact tf_n2 (by assumption) (by assumption)) ?_; first | assumption | exact va_up_self _ _ _ | (refine tf_u (by first | assumption | (apply Ne.symm; assumption) | (intro hh; subst hh; contradiction) | exact tf_n1 (by assumption) (by assumption) | exact tf_n2 (by assumption) (by assumption)) ?_; first | assumption | exact va_up_self _ _ _ | (refine tf_u (by first | assumption | (apply Ne.symm; assumption) | (intro hh; subst hh; contradiction) | exact tf_n1 (by assumption) (by assumption) | exact tf_n2 (by assumption) (by assumption)) ?_; first | assumption | exact va_up_self _ _ _ | (refine tf_u (by first | assumption | (apply Ne.symm; assumption) | (intro hh; subst hh; contradiction) | exact tf_n1 (by assumption) (by assumption) | exact tf_n2 (by assumption) (by assumption)) ?_; first | assumption | exact va_up_self _ _ _)))))
      case hv_30_16 => rfl
      refine tf_blk _ b_Setter_bestAt_33 rfl ?_
      refine tf_ic_ne 66 37 d_Setter_bestAt_34 rfl rfl (fun h34 => ?_) (fun h34 => ?_)
      · refine tf_blk _ b_Setter_bestAt_66 rfl ?_
        refine tf_goto 5 d_Setter_bestAt_69 rfl ?_
        refine tf_drop [0, 1, 2, 3, 4] rfl ?_
        try simp only [bI_eq0, Bool.not_eq_false] at h43
        try simp only [bI_eq0, Bool.not_eq_false] at h60
        first
        | (have e : tw_take R row s p lo k (some j) = true := by (simp only [tw_take, tw_lg, tw_fitsR, h34, not_true_eq_false, not_false_eq_true, decide_true, decide_false, Bool.false_and, Bool.and_false, Bool.true_and, Bool.and_true, Bool.or_false, Bool.false_or, Bool.or_true, Bool.true_or]; done)
           rw [tw_best_t e]
           have h9 := ih (k + 1) (some k) (by omega) (fun j h => by cases h; omega)
           rw [nI_succ] at h9
           exact h9)
        | (have e : tw_take R row s p lo k (some j) = false := by (simp only [tw_take, tw_lg, tw_fitsR, h34, not_true_eq_false, not_false_eq_true, decide_true, decide_false, Bool.false_and, Bool.and_false, Bool.true_and, Bool.and_true, Bool.or_false, Bool.false_or, Bool.or_true, Bool.true_or]; done)
           rw [tw_best_f e]
           have h9 := ih (k + 1) (some j) (by omega) hb
           rw [nI_succ] at h9
           exact h9)
      · refine tf_blk _ b_Setter_bestAt_37 rfl ?_
        refine tf_cV (tf_gok _ _) (c_Rule_isLongerThan l D q (d - 1) _ _ hrk fk hrj fj) 43 d_Setter_bestAt_40 rfl lk_Setter_58 cw_Rule_isLongerThan (by rfl) in_Rule_isLongerThan se_Rule_isLongerThan (by first | assumption | (simp only [List.mem_append, List.mem_singleton]; simp [*])) (by first | assumption | exact va_up_self _ _ _ | (refine tf_u (by first | assumption | (apply Ne.symm; assumption) | (intro hh; subst hh; contradiction) | exact tf_n1 (by assumption) (by assumption) | exact tf_n2 (by assumption) (by assumption)) ?_; first | assumption | exact va_up_self _ _ _ | (refine tf_u (by first | assumption | (apply Ne.symm; assumption) | (intro hh; subst hh; contradiction) | exact tf_n1 (by assumption) (by assumption) | exact tf_n2 (by assumption) (by assumption)) ?_; first | assumption | exact va_up_self _ _ _ | (refine tf_u (by first | assumption | (apply Ne.symm; assumption) | (intro hh; subst hh; contradiction) | exact tf_n1 (by assumption) (by assumption) | exact tf_n2 (by assumption) (by assumption)) ?_; first | assumption | exact va_up_self _ _ _ | (refine tf_u (by first | assumption | (apply Ne.symm; assumption) | (intro hh; subst hh; contradiction) | exact tf_n1 (by assumption) (by assumption) | exact tf_n2 (by assumption) (by assumption)) ?_; first | assumption | exact va_up_self _ _ _ | (refine tf_u (by first | assumption | (apply Ne.symm; assumption) | (intro hh; subst hh; contradiction) | exact tf_n1 (by assumption) (by assumption) | exact tf_n2 (by assumption) (by assumption)) ?_; first | assumption | exact va_up_self _ _ _)))))) (by rfl) (by rfl) (by omega) (by exact Nat.le_of_ble_eq_true rfl) rfl ?_
        rintro v40 L40 f40 ⟨rfl, rfl, rfl⟩
        refine tf_if_eq 66 46 d_Setter_bestAt_43 rfl rfl (fun h43 => ?_) (fun h43 => ?_)
        · refine tf_blk _ b_Setter_bestAt_66 rfl ?_
          refine tf_goto 5 d_Setter_bestAt_69 rfl ?_
          refine tf_drop [0, 1, 2, 3, 4] rfl ?_
          try simp only [bI_eq0, Bool.not_eq_false] at h43
          try simp only [bI_eq0, Bool.not_eq_false] at h60
          first
          | (have e : tw_take R row s p lo k (some j) = true := by (simp only [tw_take, tw_lg, tw_fitsR, h34, h43, not_true_eq_false, not_false_eq_true, decide_true, decide_false, Bool.false_and, Bool.and_false, Bool.true_and, Bool.and_true, Bool.or_false, Bool.false_or, Bool.or_true, Bool.true_or]; done)
             rw [tw_best_t e]
             have h9 := ih (k + 1) (some k) (by omega) (fun j h => by cases h; omega)
             rw [nI_succ] at h9
             exact h9)
          | (have e : tw_take R row s p lo k (some j) = false := by (simp only [tw_take, tw_lg, tw_fitsR, h34, h43, not_true_eq_false, not_false_eq_true, decide_true, decide_false, Bool.false_and, Bool.and_false, Bool.true_and, Bool.and_true, Bool.or_false, Bool.false_or, Bool.or_true, Bool.true_or]; done)
             rw [tw_best_f e]
             have h9 := ih (k + 1) (some j) (by omega) hb
             rw [nI_succ] at h9
             exact h9)
        · refine tf_blk _ b_Setter_bestAt_46 rfl ?_
          refine tf_get (fs := ?fs_49_18) (v := ?v_49_18) 52 d_Setter_bestAt_49 rfl fl_Setter_9 ?ha_49_18 ?hf_49_18 ?hv_49_18 ?kk_49_18
          case ha_49_18 => first | assumption | (simp only [List.mem_append, List.mem_singleton]; simp [*])
          case hf_49_18 => first | assumption | exact va_up_self _ _ _ | (refine tf_u (by first | assumption | (apply Ne.symm; assumption) | (intro hh; subst hh; contradiction) | exact tf_n1 (by assumption) (by assumption) | exact tf_n2 (by assumption) (by assumption)) ?_; first | assumption | exact va_up_self _ _ _ | (refine tf_u (by first | assumption | (apply Ne.symm; assumption) | (intro hh; subst hh; contradiction) | exact tf_n1 (by assumption) (by assumption) | exact tf_n2 (by assumption) (by assumption)) ?_; first | assumption | exact va_up_self _ _ _ | (refine tf_u (by first | assumption | (apply Ne.symm; assumption) | (intro hh; subst hh; contradiction) | exact tf_n1 (by assumption) (by assumption) | exact tf_n2 (by assumption) (by assumption)) ?_; first | assumption | exact va_up_self _ _ _ | (refine tf_u (by first | assumption | (apply Ne.symm; assumption) | (intro hh; subst hh; contradiction) | exact tf_n1 (by assumption) (by assumption) | exact tf_n2 (by assumption) (by assumption)) ?_; first | assumption | exact va_up_self _ _ _ | (refine tf_u (by first | assumption | (apply Ne.symm; assumption) | (intro hh; subst hh; contradiction) | exact tf_n1 (by assumption) (by assumption) | exact tf_n2 (by assumption) (by assumption)) ?_; first | assumption | exact va_up_self _ _ _)))))
          case hv_49_18 => rfl
          refine tf_blk _ b_Setter_bestAt_52 rfl ?_
          refine tf_get (fs := ?fs_53_19) (v := ?v_53_19) 56 d_Setter_bestAt_53 rfl fl_Setter_37 ?ha_53_19 ?hf_53_19 ?hv_53_19 ?kk_53_19
          case ha_53_19 => first | assumption | (simp only [List.mem_append, List.mem_singleton]; simp [*])
          case hf_53_19 => first | assumption | exact va_up_self _ _ _ | (refine tf_u (by first | assumption | (apply Ne.symm; assumption) | (intro hh; subst hh; contradiction) | exact tf_n1 (by assumption) (by assumption) | exact tf_n2 (by assumption) (by assumption)) ?_; first | assumption | exact va_up_self _ _ _ | (refine tf_u (by first | assumption | (apply Ne.symm; assumption) | (intro hh; subst hh; contradiction) | exact tf_n1 (by assumption) (by assumption) | exact tf_n2 (by assumption) (by assumption)) ?_; first | assumption | exact va_up_self _ _ _ | (refine tf_u (by first | assumption | (apply Ne.symm; assumption) | (intro hh; subst hh; contradiction) | exact tf_n1 (by assumption) (by assumption) | exact tf_n2 (by assumption) (by assumption)) ?_; first | assumption | exact va_up_self _ _ _ | (refine tf_u (by first | assumption | (apply Ne.symm; assumption) | (intro hh; subst hh; contradiction) | exact tf_n1 (by assumption) (by assumption) | exact tf_n2 (by assumption) (by assumption)) ?_; first | assumption | exact va_up_self _ _ _ | (refine tf_u (by first | assumption | (apply Ne.symm; assumption) | (intro hh; subst hh; contradiction) | exact tf_n1 (by assumption) (by assumption) | exact tf_n2 (by assumption) (by assumption)) ?_; first | assumption | exact va_up_self _ _ _)))))
          case hv_53_19 => rfl
          refine tf_blk _ b_Setter_bestAt_56 rfl ?_
          refine tf_cV (tf_gok _ _) (c_Rule_fits l D q (d - 1) _ _ (by omega) hrk fk hro fro hs hp (by have := hl2 (R k).2.1; omega) (by have := hl4 (R k).2.2.1; omega) (by have := hl2 (R k).2.2.2.1; omega)) 60 d_Setter_bestAt_57 rfl lk_Setter_62 cw_Rule_fits (by rfl) in_Rule_fits se_Rule_fits (by first | assumption | (simp only [List.mem_append, List.mem_singleton]; simp [*])) (by first | assumption | exact va_up_self _ _ _ | (refine tf_u (by first | assumption | (apply Ne.symm; assumption) | (intro hh; subst hh; contradiction) | exact tf_n1 (by assumption) (by assumption) | exact tf_n2 (by assumption) (by assumption)) ?_; first | assumption | exact va_up_self _ _ _ | (refine tf_u (by first | assumption | (apply Ne.symm; assumption) | (intro hh; subst hh; contradiction) | exact tf_n1 (by assumption) (by assumption) | exact tf_n2 (by assumption) (by assumption)) ?_; first | assumption | exact va_up_self _ _ _ | (refine tf_u (by first | assumption | (apply Ne.symm; assumption) | (intro hh; subst hh; contradiction) | exact tf_n1 (by assumption) (by assumption) | exact tf_n2 (by assumption) (by assumption)) ?_; first | assumption | exact va_up_self _ _ _ | (refine tf_u (by first | assumption | (apply Ne.symm; assumption) | (intro hh; subst hh; contradiction) | exact tf_n1 (by assumption) (by assumption) | exact tf_n2 (by assumption) (by assumption)) ?_; first | assumption | exact va_up_self _ _ _ | (refine tf_u (by first | assumption | (apply Ne.symm; assumption) | (intro hh; subst hh; contradiction) | exact tf_n1 (by assumption) (by assumption) | exact tf_n2 (by assumption) (by assumption)) ?_; first | assumption | exact va_up_self _ _ _)))))) (by rfl) (by rfl) (by omega) (by exact Nat.le_of_ble_eq_true rfl) rfl ?_
          rintro v57 L57 f57 ⟨rfl, rfl, rfl⟩
          refine tf_if_eq 66 63 d_Setter_bestAt_60 rfl rfl (fun h60 => ?_) (fun h60 => ?_)
          · refine tf_blk _ b_Setter_bestAt_66 rfl ?_
            refine tf_goto 5 d_Setter_bestAt_69 rfl ?_
            refine tf_drop [0, 1, 2, 3, 4] rfl ?_
            try simp only [bI_eq0, Bool.not_eq_false] at h43
            try simp only [bI_eq0, Bool.not_eq_false] at h60
            first
            | (have e : tw_take R row s p lo k (some j) = true := by (simp only [tw_take, tw_lg, tw_fitsR, h34, h43, h60, not_true_eq_false, not_false_eq_true, decide_true, decide_false, Bool.false_and, Bool.and_false, Bool.true_and, Bool.and_true, Bool.or_false, Bool.false_or, Bool.or_true, Bool.true_or]; done)
               rw [tw_best_t e]
               have h9 := ih (k + 1) (some k) (by omega) (fun j h => by cases h; omega)
               rw [nI_succ] at h9
               exact h9)
            | (have e : tw_take R row s p lo k (some j) = false := by (simp only [tw_take, tw_lg, tw_fitsR, h34, h43, h60, not_true_eq_false, not_false_eq_true, decide_true, decide_false, Bool.false_and, Bool.and_false, Bool.true_and, Bool.and_true, Bool.or_false, Bool.false_or, Bool.or_true, Bool.true_or]; done)
               rw [tw_best_f e]
               have h9 := ih (k + 1) (some j) (by omega) hb
               rw [nI_succ] at h9
               exact h9)
          · refine tf_blk _ b_Setter_bestAt_63 rfl ?_
            refine tf_blk _ b_Setter_bestAt_66 rfl ?_
            refine tf_goto 5 d_Setter_bestAt_69 rfl ?_
            refine tf_drop [0, 1, 2, 3, 4] rfl ?_
            try simp only [bI_eq0, Bool.not_eq_false] at h43
            try simp only [bI_eq0, Bool.not_eq_false] at h60
            first
            | (have e : tw_take R row s p lo k (some j) = true := by (simp only [tw_take, tw_lg, tw_fitsR, h34, h43, h60, not_true_eq_false, not_false_eq_true, decide_true, decide_false, Bool.false_and, Bool.and_false, Bool.true_and, Bool.and_true, Bool.or_false, Bool.false_or, Bool.or_true, Bool.true_or]; done)
               rw [tw_best_t e]
               have h9 := ih (k + 1) (some k) (by omega) (fun j h => by cases h; omega)
               rw [nI_succ] at h9
               exact h9)
            | (have e : tw_take R row s p lo k (some j) = false := by (simp only [tw_take, tw_lg, tw_fitsR, h34, h43, h60, not_true_eq_false, not_false_eq_true, decide_true, decide_false, Bool.false_and, Bool.and_false, Bool.true_and, Bool.and_true, Bool.or_false, Bool.false_or, Bool.or_true, Bool.true_or]; done)
               rw [tw_best_f e]
               have h9 := ih (k + 1) (some j) (by omega) hb
               rw [nI_succ] at h9
               exact h9)
set_option maxHeartbeats 4000000 in
set_option maxRecDepth 100000 in
theorem c_Setter_bestAt (hd : 3 ≤ d) {a ro ru s p n : Nat} {v2 v4 v5 : Value} {row : Nat → Int32} {g : Nat → Option Nat} {ra : Nat → Nat} {R : Nat → tw_RL} (lo : Int32) (hs : s ≤ 60) (hp : p ≤ 60) (hn : n ≤ 40) (ha : a ∈ L) (fa : f a = to 10 [.ref ro, .int (nI s), v2, .int (nI n), v4, v5, .ref ru]) (hro : ro ∈ L) (fro : f ro = ti q 60 row) (hru : ru ∈ L) (fru : f ru = tr 7 q 40 g) (hR : ∀ i, i < n → g i = some (ra i) ∧ ra i ∈ L ∧ f (ra i) = tw_rc (R i)) : tf_C l (tf_H D q) d i_Setter_bestAt [.ref a, .int lo, .int (nI p)] L f 0 0 (tf_rd (tw_rv ra (tw_best R row s p lo n 0 none)) L f) := by
  refine tf_C.of (tf_gok _ _) (by decide) w_343 (Nat.le_of_ble_eq_true rfl) ?_
  refine tf_blk _ b_Setter_bestAt_0 rfl ?_
  exact t_Setter_bestAt l D q d L f hd lo hs hp hn ha fa hro fro hru fru hR n 0 none (by omega) (fun j h => by cases h)
end
