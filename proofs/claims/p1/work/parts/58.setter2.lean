/-! Setter.run -/
section
variable (l : Launch) (D : va_G) (q : Nat → ClassId) (d : Nat) (L : List Nat) (f : tf_F)
end
theorem tf_n3 {f : tf_F} {a b i j : Nat} {x y : List Value} (h1 : f a = .inr (i, x)) (h2 : f b = .inr (j, y)) (hij : i ≠ j) : a ≠ b := fun e => by
  rw [e, h2] at h1
  exact hij (congrArg (fun z : va_E => match z with | .inr y => y.1 | .inl _ => 0) h1).symm
theorem tf_n4 {f : tf_F} {a b m n : Nat} {c1 c2 : ClassId} {x y} (h1 : f a = .inl (c1, m, x)) (h2 : f b = .inl (c2, n, y)) (hmn : m ≠ n) : a ≠ b := fun e => by
  rw [e, h2] at h1
  exact hmn (congrArg (fun z : va_E => match z with | .inl y => y.2.1 | .inr _ => 0) h1).symm
/-- a row of glyphs: the glyphs, how many, how often a rule was put -/
abbrev tw_RW := (Nat → Int32) × Nat × Int32
def tw_put (r : tw_RL) (p : Nat) (x : tw_RW) : tw_RW :=
  (va_cpy (upd x.1 p r.2.2.2.2) (upd x.1 p r.2.2.2.2) (p + tw_len r.2.2.1 4 0) (p + 1) (x.2.1 - (p + tw_len r.2.2.1 4 0)), x.2.1 - (tw_len r.2.2.1 4 0 - 1), x.2.2 + kI 1)
def tw_step (R : Nat → tw_RL) (n : Nat) (lo : Int32) (p : Nat) (x : tw_RW) : tw_RW :=
  match tw_best R x.1 x.2.1 p lo n 0 none with
  | none => x
  | some j => tw_put (R j) p x
def tw_run (R : Nat → tw_RL) (n : Nat) (lo : Int32) : Nat → Nat → tw_RW → tw_RW
  | 0, _, x => x
  | m + 1, p, x => if p < x.2.1 then tw_run R n lo m (p + 1) (tw_step R n lo p x) else x
theorem tw_step_le (R : Nat → tw_RL) (n : Nat) (lo : Int32) (p : Nat) (x : tw_RW) : (tw_step R n lo p x).2.1 ≤ x.2.1 := by
  unfold tw_step
  split
  · exact Nat.le_refl _
  · exact Nat.sub_le _ _
theorem tw_run_le (R : Nat → tw_RL) (n : Nat) (lo : Int32) : ∀ m p x, (tw_run R n lo m p x).2.1 ≤ x.2.1 := by
  intro m
  induction m with
  | zero => intro p x; exact Nat.le_refl _
  | succ m ih =>
    intro p x
    unfold tw_run
    split
    · exact Nat.le_trans (ih _ _) (tw_step_le R n lo p x)
    · exact Nat.le_refl _
def tw_rows (R : Nat → tw_RL) (n : Nat) : Nat → Nat → tw_RW → tw_RW
  | 0, _, x => x
  | m + 1, k, x => tw_rows R n m (k + 1) (tw_run R n (nI k) 60 0 x)
/-- the setter's cells: the object, the row, the rules -/
def tf_SR (q : Nat → ClassId) (a ro ru n : Nat) (v2 v5 : Value) (g : Nat → Option Nat) (ra : Nat → Nat) (R : Nat → tw_RL) (L : List Nat) (f : tf_F) (x : tw_RW) : Prop :=
  n ≤ 40 ∧ x.2.1 ≤ 60 ∧ a ∈ L ∧ f a = to 10 [.ref ro, .int (nI x.2.1), v2, .int (nI n), .int x.2.2, v5, .ref ru] ∧ ro ∈ L ∧ f ro = ti q 60 x.1 ∧ ru ∈ L ∧ f ru = tr 7 q 40 g ∧ ∀ i, i < n → g i = some (ra i) ∧ ra i ∈ L ∧ f (ra i) = tw_rc (R i) ∧ 1 ≤ tw_len (R i).2.2.1 4 0
theorem tf_SR.up {q : Nat → ClassId} {a ro ru n : Nat} {v2 v5 w2 w5 : Value} {g : Nat → Option Nat} {ra : Nat → Nat} {R : Nat → tw_RL} {L : List Nat} {f f2 : tf_F} {x x2 : tw_RW} (h : tf_SR q a ro ru n v2 v5 g ra R L f x) (h0 : x2.2.1 ≤ 60) (h1 : f2 a = to 10 [.ref ro, .int (nI x2.2.1), w2, .int (nI n), .int x2.2.2, w5, .ref ru]) (h2 : f2 ro = ti q 60 x2.1) (h3 : ∀ z, z ≠ a → z ≠ ro → f2 z = f z) : tf_SR q a ro ru n w2 w5 g ra R L f2 x2 := by
  obtain ⟨k1, k2, k3, k4, k5, k6, k7, k8, k9⟩ := h
  refine ⟨k1, h0, k3, h1, k5, h2, k7, (h3 ru (tf_n2 k8 k4) (tf_n4 k8 k6 (by decide))).trans k8, fun i hi => ?_⟩
  obtain ⟨j1, j2, j3, j4⟩ := k9 i hi
  exact ⟨j1, j2, (h3 _ (tf_n3 j3 k4 (by decide)) (tf_n1 j3 k6)).trans j3, j4⟩
section
variable (l : Launch) (D : va_G) (q : Nat → ClassId) (d : Nat) (L : List Nat) (f : tf_F)
set_option maxHeartbeats 4000000 in
set_option maxRecDepth 100000 in
theorem t_Setter_run (hd : 4 ≤ d) {a ro ru n : Nat} {v2 v5 : Value} {g : Nat → Option Nat} {ra : Nat → Nat} {R : Nat → tw_RL} (lo : Int32) : ∀ m p (x : tw_RW) (fc : tf_F), x.2.1 ≤ p + m → p + m < 2 ^ 31 → tf_SR q a ro ru n v2 v5 g ra R L fc x → (∀ z, z ≠ a → z ≠ ro → fc z = f z) → tf_W l (tf_H D q) tf_T (tf_QM (tf_H D q) (fun v L2 f2 => v = none ∧ L2 = L ∧ tf_SR q a ro ru n v2 v5 g ra R L f2 (tw_run R n lo m p x) ∧ ∀ z, z ≠ a → z ≠ ro → f2 z = f z)) d i_Setter_run 2 [(0, .ref a), (1, .int lo), (2, .int (nI p))] [] L fc 0 0 := by
  intro m
  induction m with
  | zero =>
    intro p x fc hx hpm hS hf
    obtain ⟨hn, hs, ha, fa, hro, fro, hru, fru, hR⟩ := id hS
    have hp : p < 2 ^ 31 := by omega
    refine tf_blk _ b_Setter_run_2 rfl ?_
    refine tf_get (fs := ?fs_4_1) (v := ?v_4_1) 7 d_Setter_run_4 rfl fl_Setter_37 ?ha_4_1 ?hf_4_1 ?hv_4_1 ?kk_4_1
    case ha_4_1 => first | assumption | (simp only [List.mem_append, List.mem_singleton]; simp [*])
    case hf_4_1 => first | assumption | exact va_up_self _ _ _ | (refine tf_u (by first | assumption | (apply Ne.symm; assumption) | (intro hh; subst hh; contradiction) | exact tf_n1 (by assumption) (by assumption) | exact tf_n2 (by assumption) (by assumption)) ?_; first | assumption | exact va_up_self _ _ _ | (refine tf_u (by first | assumption | (apply Ne.symm; assumption) | (intro hh; subst hh; contradiction) | exact tf_n1 (by assumption) (by assumption) | exact tf_n2 (by assumption) (by assumption)) ?_; first | assumption | exact va_up_self _ _ _ | (refine tf_u (by first | assumption | (apply Ne.symm; assumption) | (intro hh; subst hh; contradiction) | exact tf_n1 (by assumption) (by assumption) | exact tf_n2 (by assumption) (by assumption)) ?_; first | assumption | exact va_up_self _ _ _ | (refine tf_u (by first | assumption | (apply Ne.symm; assumption) | (intro hh; subst hh; contradiction) | exact tf_n1 (by assumption) (by assumption) | exact tf_n2 (by assumption) (by assumption)) ?_; first | assumption | exact va_up_self _ _ _ | (refine tf_u (by first | assumption | (apply Ne.symm; assumption) | (intro hh; subst hh; contradiction) | exact tf_n1 (by assumption) (by assumption) | exact tf_n2 (by assumption) (by assumption)) ?_; first | assumption | exact va_up_self _ _ _)))))
    case hv_4_1 => rfl
    refine tf_ic_ge 33 10 d_Setter_run_7 rfl rfl (fun h7 => ?_) (fun h7 => absurd (nI_le (by omega) (by omega)) h7)
    refine tf_vret d_Setter_run_33 rfl ?_
    exact ⟨rfl, rfl, hS, hf⟩
  | succ m ih =>
    intro p x fc hx hpm hS hf
    obtain ⟨hn, hs, ha, fa, hro, fro, hru, fru, hR⟩ := id hS
    by_cases h : p < x.2.1
    · rcases hB : tw_best R x.1 x.2.1 p lo n 0 none with _ | j
      · refine tf_blk _ b_Setter_run_2 rfl ?_
        refine tf_get (fs := ?fs_4_3) (v := ?v_4_3) 7 d_Setter_run_4 rfl fl_Setter_37 ?ha_4_3 ?hf_4_3 ?hv_4_3 ?kk_4_3
        case ha_4_3 => first | assumption | (simp only [List.mem_append, List.mem_singleton]; simp [*])
        case hf_4_3 => first | assumption | exact va_up_self _ _ _ | (refine tf_u (by first | assumption | (apply Ne.symm; assumption) | (intro hh; subst hh; contradiction) | exact tf_n1 (by assumption) (by assumption) | exact tf_n2 (by assumption) (by assumption)) ?_; first | assumption | exact va_up_self _ _ _ | (refine tf_u (by first | assumption | (apply Ne.symm; assumption) | (intro hh; subst hh; contradiction) | exact tf_n1 (by assumption) (by assumption) | exact tf_n2 (by assumption) (by assumption)) ?_; first | assumption | exact va_up_self _ _ _ | (refine tf_u (by first | assumption | (apply Ne.symm; assumption) | (intro hh; subst hh; contradiction) | exact tf_n1 (by assumption) (by assumption) | exact tf_n2 (by assumption) (by assumption)) ?_; first | assumption | exact va_up_self _ _ _ | (refine tf_u (by first | assumption | (apply Ne.symm; assumption) | (intro hh; subst hh; contradiction) | exact tf_n1 (by assumption) (by assumption) | exact tf_n2 (by assumption) (by assumption)) ?_; first | assumption | exact va_up_self _ _ _ | (refine tf_u (by first | assumption | (apply Ne.symm; assumption) | (intro hh; subst hh; contradiction) | exact tf_n1 (by assumption) (by assumption) | exact tf_n2 (by assumption) (by assumption)) ?_; first | assumption | exact va_up_self _ _ _)))))
        case hv_4_3 => rfl
        refine tf_ic_ge 33 10 d_Setter_run_7 rfl rfl (fun h7 => absurd h7 (nI_ge (by omega) (by omega))) (fun h7 => ?_)
        refine tf_blk _ b_Setter_run_10 rfl ?_
        refine tf_cV (tf_gok _ _) (c_Setter_bestAt l D q (d - 1) _ _ (by omega) lo hs (by omega) hn ha fa hro fro hru fru (fun i hi => ⟨(hR i hi).1, (hR i hi).2.1, (hR i hi).2.2.1⟩)) 16 d_Setter_run_13 rfl lk_Setter_47 cw_Setter_bestAt (by rfl) in_Setter_bestAt se_Setter_bestAt (by first | assumption | (simp only [List.mem_append, List.mem_singleton]; simp [*])) (by first | assumption | exact va_up_self _ _ _ | (refine tf_u (by first | assumption | (apply Ne.symm; assumption) | (intro hh; subst hh; contradiction) | exact tf_n1 (by assumption) (by assumption) | exact tf_n2 (by assumption) (by assumption)) ?_; first | assumption | exact va_up_self _ _ _ | (refine tf_u (by first | assumption | (apply Ne.symm; assumption) | (intro hh; subst hh; contradiction) | exact tf_n1 (by assumption) (by assumption) | exact tf_n2 (by assumption) (by assumption)) ?_; first | assumption | exact va_up_self _ _ _ | (refine tf_u (by first | assumption | (apply Ne.symm; assumption) | (intro hh; subst hh; contradiction) | exact tf_n1 (by assumption) (by assumption) | exact tf_n2 (by assumption) (by assumption)) ?_; first | assumption | exact va_up_self _ _ _ | (refine tf_u (by first | assumption | (apply Ne.symm; assumption) | (intro hh; subst hh; contradiction) | exact tf_n1 (by assumption) (by assumption) | exact tf_n2 (by assumption) (by assumption)) ?_; first | assumption | exact va_up_self _ _ _ | (refine tf_u (by first | assumption | (apply Ne.symm; assumption) | (intro hh; subst hh; contradiction) | exact tf_n1 (by assumption) (by assumption) | exact tf_n2 (by assumption) (by assumption)) ?_; first | assumption | exact va_up_self _ _ _)))))) (by rfl) (by rfl) (by omega) (by exact Nat.le_of_ble_eq_true rfl) rfl ?_
        rintro v13 L13 f13 ⟨rfl, rfl, rfl⟩
        rw [hB]
        refine tf_blk _ b_Setter_run_16 rfl ?_
        refine tf_ifnull_n 27 d_Setter_run_18 rfl ?_
        refine tf_blk _ b_Setter_run_27 rfl ?_
        refine tf_goto 2 d_Setter_run_30 rfl ?_
        refine tf_drop [0, 1, 2] rfl ?_
        rw [show tw_run R n lo (m + 1) p x = tw_run R n lo m (p + 1) (x) from (if_pos h).trans (by rw [tw_step, hB])]
        have h9 := ih (p + 1) x _ (by omega) (by omega) hS hf
        rw [nI_succ] at h9
        exact h9
      · obtain ⟨-, hrj, fj, hl1⟩ := hR j (by rcases tw_best_s R x.1 x.2.1 p lo n 0 none j hB with z | z; cases z; omega)
        replace fj : fc (ra j) = to 9 [.int (R j).1, .int (nI (tw_len (R j).2.2.1 4 0)), .int (R j).2.2.2.2, .long (R j).2.1, .long (R j).2.2.1, .long (R j).2.2.2.1, .int (nI (tw_len (R j).2.1 2 0)), .int (nI (tw_len (R j).2.2.2.1 2 0))] := fj
        have hfit : p + tw_len (R j).2.2.1 4 0 ≤ x.2.1 := by
          rcases tw_best_s R x.1 x.2.1 p lo n 0 none j hB with z | ⟨-, -, z⟩
          · cases z
          · simp only [tw_fitsR, tw_fits, Bool.and_eq_true, decide_eq_true_eq] at z
            omega
        refine tf_blk _ b_Setter_run_2 rfl ?_
        refine tf_get (fs := ?fs_4_5) (v := ?v_4_5) 7 d_Setter_run_4 rfl fl_Setter_37 ?ha_4_5 ?hf_4_5 ?hv_4_5 ?kk_4_5
        case ha_4_5 => first | assumption | (simp only [List.mem_append, List.mem_singleton]; simp [*])
        case hf_4_5 => first | assumption | exact va_up_self _ _ _ | (refine tf_u (by first | assumption | (apply Ne.symm; assumption) | (intro hh; subst hh; contradiction) | exact tf_n1 (by assumption) (by assumption) | exact tf_n2 (by assumption) (by assumption)) ?_; first | assumption | exact va_up_self _ _ _ | (refine tf_u (by first | assumption | (apply Ne.symm; assumption) | (intro hh; subst hh; contradiction) | exact tf_n1 (by assumption) (by assumption) | exact tf_n2 (by assumption) (by assumption)) ?_; first | assumption | exact va_up_self _ _ _ | (refine tf_u (by first | assumption | (apply Ne.symm; assumption) | (intro hh; subst hh; contradiction) | exact tf_n1 (by assumption) (by assumption) | exact tf_n2 (by assumption) (by assumption)) ?_; first | assumption | exact va_up_self _ _ _ | (refine tf_u (by first | assumption | (apply Ne.symm; assumption) | (intro hh; subst hh; contradiction) | exact tf_n1 (by assumption) (by assumption) | exact tf_n2 (by assumption) (by assumption)) ?_; first | assumption | exact va_up_self _ _ _ | (refine tf_u (by first | assumption | (apply Ne.symm; assumption) | (intro hh; subst hh; contradiction) | exact tf_n1 (by assumption) (by assumption) | exact tf_n2 (by assumption) (by assumption)) ?_; first | assumption | exact va_up_self _ _ _)))))
        case hv_4_5 => rfl
        refine tf_ic_ge 33 10 d_Setter_run_7 rfl rfl (fun h7 => absurd h7 (nI_ge (by omega) (by omega))) (fun h7 => ?_)
        refine tf_blk _ b_Setter_run_10 rfl ?_
        refine tf_cV (tf_gok _ _) (c_Setter_bestAt l D q (d - 1) _ _ (by omega) lo hs (by omega) hn ha fa hro fro hru fru (fun i hi => ⟨(hR i hi).1, (hR i hi).2.1, (hR i hi).2.2.1⟩)) 16 d_Setter_run_13 rfl lk_Setter_47 cw_Setter_bestAt (by rfl) in_Setter_bestAt se_Setter_bestAt (by first | assumption | (simp only [List.mem_append, List.mem_singleton]; simp [*])) (by first | assumption | exact va_up_self _ _ _ | (refine tf_u (by first | assumption | (apply Ne.symm; assumption) | (intro hh; subst hh; contradiction) | exact tf_n1 (by assumption) (by assumption) | exact tf_n2 (by assumption) (by assumption)) ?_; first | assumption | exact va_up_self _ _ _ | (refine tf_u (by first | assumption | (apply Ne.symm; assumption) | (intro hh; subst hh; contradiction) | exact tf_n1 (by assumption) (by assumption) | exact tf_n2 (by assumption) (by assumption)) ?_; first | assumption | exact va_up_self _ _ _ | (refine tf_u (by first | assumption | (apply Ne.symm; assumption) | (intro hh; subst hh; contradiction) | exact tf_n1 (by assumption) (by assumption) | exact tf_n2 (by assumption) (by assumption)) ?_; first | assumption | exact va_up_self _ _ _ | (refine tf_u (by first | assumption | (apply Ne.symm; assumption) | (intro hh; subst hh; contradiction) | exact tf_n1 (by assumption) (by assumption) | exact tf_n2 (by assumption) (by assumption)) ?_; first | assumption | exact va_up_self _ _ _ | (refine tf_u (by first | assumption | (apply Ne.symm; assumption) | (intro hh; subst hh; contradiction) | exact tf_n1 (by assumption) (by assumption) | exact tf_n2 (by assumption) (by assumption)) ?_; first | assumption | exact va_up_self _ _ _)))))) (by rfl) (by rfl) (by omega) (by exact Nat.le_of_ble_eq_true rfl) rfl ?_
        rintro v13 L13 f13 ⟨rfl, rfl, rfl⟩
        rw [hB]
        refine tf_blk _ b_Setter_run_16 rfl ?_
        refine tf_ifnull_r 21 d_Setter_run_18 rfl ?_
        refine tf_blk _ b_Setter_run_21 rfl ?_
        refine tf_cV (tf_gok _ _) (c_Setter_put l D q (d - 1) _ _ (by omega) hs hfit hl1 ha fa hro fro hrj fj (tf_n3 fj fa (by decide))) 27 d_Setter_run_24 rfl lk_Setter_51 cw_Setter_put (by rfl) in_Setter_put se_Setter_put (by first | assumption | (simp only [List.mem_append, List.mem_singleton]; simp [*])) (by first | assumption | exact va_up_self _ _ _ | (refine tf_u (by first | assumption | (apply Ne.symm; assumption) | (intro hh; subst hh; contradiction) | exact tf_n1 (by assumption) (by assumption) | exact tf_n2 (by assumption) (by assumption)) ?_; first | assumption | exact va_up_self _ _ _ | (refine tf_u (by first | assumption | (apply Ne.symm; assumption) | (intro hh; subst hh; contradiction) | exact tf_n1 (by assumption) (by assumption) | exact tf_n2 (by assumption) (by assumption)) ?_; first | assumption | exact va_up_self _ _ _ | (refine tf_u (by first | assumption | (apply Ne.symm; assumption) | (intro hh; subst hh; contradiction) | exact tf_n1 (by assumption) (by assumption) | exact tf_n2 (by assumption) (by assumption)) ?_; first | assumption | exact va_up_self _ _ _ | (refine tf_u (by first | assumption | (apply Ne.symm; assumption) | (intro hh; subst hh; contradiction) | exact tf_n1 (by assumption) (by assumption) | exact tf_n2 (by assumption) (by assumption)) ?_; first | assumption | exact va_up_self _ _ _ | (refine tf_u (by first | assumption | (apply Ne.symm; assumption) | (intro hh; subst hh; contradiction) | exact tf_n1 (by assumption) (by assumption) | exact tf_n2 (by assumption) (by assumption)) ?_; first | assumption | exact va_up_self _ _ _)))))) (by rfl) (by rfl) (by omega) (by exact Nat.le_of_ble_eq_true rfl) rfl ?_
        rintro v24 L24 f24 ⟨rfl, rfl, rfl⟩
        refine tf_blk _ b_Setter_run_27 rfl ?_
        refine tf_goto 2 d_Setter_run_30 rfl ?_
        refine tf_drop [0, 1, 2] rfl ?_
        rw [show tw_run R n lo (m + 1) p x = tw_run R n lo m (p + 1) (tw_put (R j) p x) from (if_pos h).trans (by rw [tw_step, hB])]
        have hu : tf_SR q a ro ru n v2 v5 g ra R _ _ (tw_put (R j) p x) := hS.up (Nat.le_trans (Nat.sub_le _ _) hs) (va_up_self _ _ _) (tf_u (tf_n2 fro fa) (va_up_self _ _ _)) (fun z h1 h2 => tf_u h1 (va_up_ne _ _ h2))
        have h9 := ih (p + 1) (tw_put (R j) p x) _ (by have : (tw_put (R j) p x).2.1 ≤ x.2.1 := Nat.sub_le _ _; omega) (by omega) hu (fun z h1 h2 => (tf_u h1 (va_up_ne _ _ h2)).trans (hf z h1 h2))
        rw [nI_succ] at h9
        exact h9
    · rw [show tw_run R n lo (m + 1) p x = x from if_neg h]
      have hp : p < 2 ^ 31 := by omega
      refine tf_blk _ b_Setter_run_2 rfl ?_
      refine tf_get (fs := ?fs_4_8) (v := ?v_4_8) 7 d_Setter_run_4 rfl fl_Setter_37 ?ha_4_8 ?hf_4_8 ?hv_4_8 ?kk_4_8
      case ha_4_8 => first | assumption | (simp only [List.mem_append, List.mem_singleton]; simp [*])
      case hf_4_8 => first | assumption | exact va_up_self _ _ _ | (refine tf_u (by first | assumption | (apply Ne.symm; assumption) | (intro hh; subst hh; contradiction) | exact tf_n1 (by assumption) (by assumption) | exact tf_n2 (by assumption) (by assumption)) ?_; first | assumption | exact va_up_self _ _ _ | (refine tf_u (by first | assumption | (apply Ne.symm; assumption) | (intro hh; subst hh; contradiction) | exact tf_n1 (by assumption) (by assumption) | exact tf_n2 (by assumption) (by assumption)) ?_; first | assumption | exact va_up_self _ _ _ | (refine tf_u (by first | assumption | (apply Ne.symm; assumption) | (intro hh; subst hh; contradiction) | exact tf_n1 (by assumption) (by assumption) | exact tf_n2 (by assumption) (by assumption)) ?_; first | assumption | exact va_up_self _ _ _ | (refine tf_u (by first | assumption | (apply Ne.symm; assumption) | (intro hh; subst hh; contradiction) | exact tf_n1 (by assumption) (by assumption) | exact tf_n2 (by assumption) (by assumption)) ?_; first | assumption | exact va_up_self _ _ _ | (refine tf_u (by first | assumption | (apply Ne.symm; assumption) | (intro hh; subst hh; contradiction) | exact tf_n1 (by assumption) (by assumption) | exact tf_n2 (by assumption) (by assumption)) ?_; first | assumption | exact va_up_self _ _ _)))))
      case hv_4_8 => rfl
      refine tf_ic_ge 33 10 d_Setter_run_7 rfl rfl (fun h7 => ?_) (fun h7 => absurd (nI_le (by omega) (by omega)) h7)
      refine tf_vret d_Setter_run_33 rfl ?_
      exact ⟨rfl, rfl, hS, hf⟩
set_option maxHeartbeats 4000000 in
set_option maxRecDepth 100000 in
theorem c_Setter_run (hd : 4 ≤ d) {a ro ru n : Nat} {v2 v5 : Value} {g : Nat → Option Nat} {ra : Nat → Nat} {R : Nat → tw_RL} {x : tw_RW} (lo : Int32) (hS : tf_SR q a ro ru n v2 v5 g ra R L f x) : tf_C l (tf_H D q) d i_Setter_run [.ref a, .int lo] L f 0 0 (fun v L2 f2 => v = none ∧ L2 = L ∧ tf_SR q a ro ru n v2 v5 g ra R L f2 (tw_run R n lo 60 0 x) ∧ ∀ z, z ≠ a → z ≠ ro → f2 z = f z) := by
  refine tf_C.of (tf_gok _ _) (by decide) w_339 (Nat.le_of_ble_eq_true rfl) ?_
  refine tf_blk _ b_Setter_run_0 rfl ?_
  exact t_Setter_run l D q d L f hd lo 60 0 x f (by have := hS.2.1; omega) (by omega) hS (fun _ _ _ => rfl)
end
