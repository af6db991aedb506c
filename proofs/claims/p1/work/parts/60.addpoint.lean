/-! Glyph.addPoint -/
section
variable (l : Launch) (D : va_G) (q : Nat → ClassId) (d : Nat) (L : List Nat) (f : tf_F)
end
theorem nI_mul (a b : Nat) : nI a * nI b = nI (a * b) := (Int32.ofNat_mul a b).symm
/-- m places from b0 + k on hold x -/
def tw_fill (b0 : Nat) (x : Int32) : Nat → Nat → (Nat → Int32) → Nat → Int32
  | 0, _, g => g
  | m + 1, k, g => tw_fill b0 x m (k + 1) (upd g (b0 + k) x)
section
variable (l : Launch) (D : va_G) (q : Nat → ClassId) (d : Nat) (L : List Nat) (f : tf_F)
set_option maxHeartbeats 4000000 in
set_option maxRecDepth 100000 in
theorem t_Glyph_addPoint (hd : 1 ≤ d) {QB : tf_B} {kc ks : Nat} {a xs ys on en p ms N : Nat} {v2 v5 : Value} {ct dp lk cp pc pp ps : Int32} (x y o : Int32) (hN : (p + 1) * ms ≤ N) (hN2 : N < 2 ^ 31) (hp : p < 40) (ha : a ∈ L) (hxs : xs ∈ L) (hys : ys ∈ L) (n1 : ys ≠ xs) : ∀ m k (fc : tf_F) (gx gy : Nat → Int32), k + m = ms → fc a = to 3 [.ref xs, .ref ys, v2, .ref on, .ref en, v5, .int (nI p), .int ct, .int dp, .int lk, .int (nI ms), .int cp, .int pc, .int pp, .int ps] → fc xs = ti q N gx → fc ys = ti q N gy → (∀ z, z ≠ xs → z ≠ ys → fc z = f z) → (∀ f2 : tf_F, f2 xs = ti q N (tw_fill (p * ms) x m k gx) → f2 ys = ti q N (tw_fill (p * ms) y m k gy) → (∀ z, z ≠ xs → z ≠ ys → f2 z = f z) → tf_W l (tf_H D q) tf_T QB d i_Glyph_addPoint 30 [(0, .ref a), (1, .int x), (2, .int y), (3, .int o), (4, .int (nI ms))] [] L f2 kc ks) → tf_W l (tf_H D q) tf_T QB d i_Glyph_addPoint 3 [(0, .ref a), (1, .int x), (2, .int y), (3, .int o), (4, .int (nI k))] [] L fc kc ks := by
  have hN1 : (p + 1) * ms = p * ms + ms := Nat.succ_mul p ms
  intro m
  induction m with
  | zero =>
    intro k fc gx gy hk fa fx fy hf hK
    obtain rfl : k = ms := hk
    refine tf_blk _ b_Glyph_addPoint_3 rfl ?_
    refine tf_get (fs := ?fs_6_1) (v := ?v_6_1) 9 d_Glyph_addPoint_6 rfl fl_Glyph_25 ?ha_6_1 ?hf_6_1 ?hv_6_1 ?kk_6_1
    case ha_6_1 => first | assumption | (simp only [List.mem_append, List.mem_singleton]; simp [*])
    case hf_6_1 => first | assumption | exact va_up_self _ _ _ | (refine tf_u (by first | assumption | (apply Ne.symm; assumption) | (intro hh; subst hh; contradiction) | exact tf_n1 (by assumption) (by assumption) | exact tf_n2 (by assumption) (by assumption)) ?_; first | assumption | exact va_up_self _ _ _ | (refine tf_u (by first | assumption | (apply Ne.symm; assumption) | (intro hh; subst hh; contradiction) | exact tf_n1 (by assumption) (by assumption) | exact tf_n2 (by assumption) (by assumption)) ?_; first | assumption | exact va_up_self _ _ _ | (refine tf_u (by first | assumption | (apply Ne.symm; assumption) | (intro hh; subst hh; contradiction) | exact tf_n1 (by assumption) (by assumption) | exact tf_n2 (by assumption) (by assumption)) ?_; first | assumption | exact va_up_self _ _ _ | (refine tf_u (by first | assumption | (apply Ne.symm; assumption) | (intro hh; subst hh; contradiction) | exact tf_n1 (by assumption) (by assumption) | exact tf_n2 (by assumption) (by assumption)) ?_; first | assumption | exact va_up_self _ _ _ | (refine tf_u (by first | assumption | (apply Ne.symm; assumption) | (intro hh; subst hh; contradiction) | exact tf_n1 (by assumption) (by assumption) | exact tf_n2 (by assumption) (by assumption)) ?_; first | assumption | exact va_up_self _ _ _)))))
    case hv_6_1 => rfl
    refine tf_ic_ge 30 12 d_Glyph_addPoint_9 rfl rfl (fun h9 => ?_) (fun h9 => absurd (nI_le (by omega) (by omega)) h9)
    exact hK _ fx fy hf
  | succ m ih =>
    intro k fc gx gy hk fa fx fy hf hK
    have e0 : nI p * nI ms + nI k = nI (p * ms + k) := by rw [nI_mul, nI_add]
    have hi : vp_in (nI p * nI ms + nI k) N := by rw [e0]; exact vp_in_nI (by omega) (by omega)
    have hc : (nI p * nI ms + nI k).toNatClampNeg = p * ms + k := by rw [e0]; exact nI_clamp (by omega)
    refine tf_blk _ b_Glyph_addPoint_3 rfl ?_
    refine tf_get (fs := ?fs_6_2) (v := ?v_6_2) 9 d_Glyph_addPoint_6 rfl fl_Glyph_25 ?ha_6_2 ?hf_6_2 ?hv_6_2 ?kk_6_2
    case ha_6_2 => first | assumption | (simp only [List.mem_append, List.mem_singleton]; simp [*])
    case hf_6_2 => first | assumption | exact va_up_self _ _ _ | (refine tf_u (by first | assumption | (apply Ne.symm; assumption) | (intro hh; subst hh; contradiction) | exact tf_n1 (by assumption) (by assumption) | exact tf_n2 (by assumption) (by assumption)) ?_; first | assumption | exact va_up_self _ _ _ | (refine tf_u (by first | assumption | (apply Ne.symm; assumption) | (intro hh; subst hh; contradiction) | exact tf_n1 (by assumption) (by assumption) | exact tf_n2 (by assumption) (by assumption)) ?_; first | assumption | exact va_up_self _ _ _ | (refine tf_u (by first | assumption | (apply Ne.symm; assumption) | (intro hh; subst hh; contradiction) | exact tf_n1 (by assumption) (by assumption) | exact tf_n2 (by assumption) (by assumption)) ?_; first | assumption | exact va_up_self _ _ _ | (refine tf_u (by first | assumption | (apply Ne.symm; assumption) | (intro hh; subst hh; contradiction) | exact tf_n1 (by assumption) (by assumption) | exact tf_n2 (by assumption) (by assumption)) ?_; first | assumption | exact va_up_self _ _ _ | (refine tf_u (by first | assumption | (apply Ne.symm; assumption) | (intro hh; subst hh; contradiction) | exact tf_n1 (by assumption) (by assumption) | exact tf_n2 (by assumption) (by assumption)) ?_; first | assumption | exact va_up_self _ _ _)))))
    case hv_6_2 => rfl
    refine tf_ic_ge 30 12 d_Glyph_addPoint_9 rfl rfl (fun h9 => absurd h9 (nI_ge (by omega) (by omega))) (fun h9 => ?_)
    refine tf_blk _ b_Glyph_addPoint_12 rfl ?_
    refine tf_get (fs := ?fs_14_3) (v := ?v_14_3) 17 d_Glyph_addPoint_14 rfl fl_Glyph_38 ?ha_14_3 ?hf_14_3 ?hv_14_3 ?kk_14_3
    case ha_14_3 => first | assumption | (simp only [List.mem_append, List.mem_singleton]; simp [*])
    case hf_14_3 => first | assumption | exact va_up_self _ _ _ | (refine tf_u (by first | assumption | (apply Ne.symm; assumption) | (intro hh; subst hh; contradiction) | exact tf_n1 (by assumption) (by assumption) | exact tf_n2 (by assumption) (by assumption)) ?_; first | assumption | exact va_up_self _ _ _ | (refine tf_u (by first | assumption | (apply Ne.symm; assumption) | (intro hh; subst hh; contradiction) | exact tf_n1 (by assumption) (by assumption) | exact tf_n2 (by assumption) (by assumption)) ?_; first | assumption | exact va_up_self _ _ _ | (refine tf_u (by first | assumption | (apply Ne.symm; assumption) | (intro hh; subst hh; contradiction) | exact tf_n1 (by assumption) (by assumption) | exact tf_n2 (by assumption) (by assumption)) ?_; first | assumption | exact va_up_self _ _ _ | (refine tf_u (by first | assumption | (apply Ne.symm; assumption) | (intro hh; subst hh; contradiction) | exact tf_n1 (by assumption) (by assumption) | exact tf_n2 (by assumption) (by assumption)) ?_; first | assumption | exact va_up_self _ _ _ | (refine tf_u (by first | assumption | (apply Ne.symm; assumption) | (intro hh; subst hh; contradiction) | exact tf_n1 (by assumption) (by assumption) | exact tf_n2 (by assumption) (by assumption)) ?_; first | assumption | exact va_up_self _ _ _)))))
    case hv_14_3 => rfl
    refine tf_blk _ b_Glyph_addPoint_17 rfl ?_
    refine tf_cV (tf_gok _ _) (c_Glyph_movePoint l D q (d - 1) _ _ ha fa (nI p) (nI k) x y hxs fx hys fy n1 hi) 24 d_Glyph_addPoint_21 rfl lk_Glyph_41 cw_Glyph_movePoint (by rfl) in_Glyph_movePoint se_Glyph_movePoint (by first | assumption | (simp only [List.mem_append, List.mem_singleton]; simp [*])) (by first | assumption | exact va_up_self _ _ _ | (refine tf_u (by first | assumption | (apply Ne.symm; assumption) | (intro hh; subst hh; contradiction) | exact tf_n1 (by assumption) (by assumption) | exact tf_n2 (by assumption) (by assumption)) ?_; first | assumption | exact va_up_self _ _ _ | (refine tf_u (by first | assumption | (apply Ne.symm; assumption) | (intro hh; subst hh; contradiction) | exact tf_n1 (by assumption) (by assumption) | exact tf_n2 (by assumption) (by assumption)) ?_; first | assumption | exact va_up_self _ _ _ | (refine tf_u (by first | assumption | (apply Ne.symm; assumption) | (intro hh; subst hh; contradiction) | exact tf_n1 (by assumption) (by assumption) | exact tf_n2 (by assumption) (by assumption)) ?_; first | assumption | exact va_up_self _ _ _ | (refine tf_u (by first | assumption | (apply Ne.symm; assumption) | (intro hh; subst hh; contradiction) | exact tf_n1 (by assumption) (by assumption) | exact tf_n2 (by assumption) (by assumption)) ?_; first | assumption | exact va_up_self _ _ _ | (refine tf_u (by first | assumption | (apply Ne.symm; assumption) | (intro hh; subst hh; contradiction) | exact tf_n1 (by assumption) (by assumption) | exact tf_n2 (by assumption) (by assumption)) ?_; first | assumption | exact va_up_self _ _ _)))))) (by rfl) (by rfl) (by omega) (by exact Nat.le_of_ble_eq_true rfl) rfl ?_
    rintro v21 L21 f21 ⟨rfl, rfl, rfl⟩
    refine tf_blk _ b_Glyph_addPoint_24 rfl ?_
    refine tf_goto 3 d_Glyph_addPoint_27 rfl ?_
    rw [hc]
    have h9 := ih (k + 1) _ (upd gx (p * ms + k) x) (upd gy (p * ms + k) y) (by omega) (tf_u (tf_n1 fa fy) (tf_u (tf_n1 fa fx) fa)) (tf_u n1.symm (va_up_self _ _ _)) (va_up_self _ _ _) (fun z h1 h2 => tf_u h2 (tf_u h1 (hf z h1 h2))) hK
    rw [nI_succ] at h9
    exact h9
set_option maxHeartbeats 4000000 in
set_option maxRecDepth 100000 in
theorem c_Glyph_addPoint (hd : 1 ≤ d) {a xs ys on en p ms N : Nat} {v2 v5 : Value} {ct dp lk cp pc pp ps : Int32} (x y o : Int32) (hN : (p + 1) * ms ≤ N) (hN2 : N < 2 ^ 31) (hp : p < 40) (ha : a ∈ L) (hxs : xs ∈ L) (hys : ys ∈ L) (n1 : ys ≠ xs) {gx gy go : Nat → Int32} (fa : f a = to 3 [.ref xs, .ref ys, v2, .ref on, .ref en, v5, .int (nI p), .int ct, .int dp, .int lk, .int (nI ms), .int cp, .int pc, .int pp, .int ps]) (fx : f xs = ti q N gx) (fy : f ys = ti q N gy) (hon : on ∈ L) (fo : f on = tz q 40 go) (n2 : on ≠ xs) (n3 : on ≠ ys) : tf_C l (tf_H D q) d i_Glyph_addPoint [.ref a, .int x, .int y, .int o] L f 0 0 (fun v L2 f2 => v = some (.int (nI p)) ∧ L2 = L ∧ f2 a = to 3 [.ref xs, .ref ys, v2, .ref on, .ref en, v5, .int (nI (p + 1)), .int ct, .int dp, .int lk, .int (nI ms), .int cp, .int pc, .int pp, .int ps] ∧ f2 xs = ti q N (tw_fill (p * ms) x ms 0 gx) ∧ f2 ys = ti q N (tw_fill (p * ms) y ms 0 gy) ∧ f2 on = tz q 40 (upd go p (vp_nar .boolean o)) ∧ ∀ z, z ≠ a → z ≠ xs → z ≠ ys → z ≠ on → f2 z = f z) := by
  refine tf_C.of (tf_gok _ _) (by decide) w_541 (Nat.le_of_ble_eq_true rfl) ?_
  refine tf_blk _ b_Glyph_addPoint_0 rfl ?_
  refine t_Glyph_addPoint l D q d L f hd x y o hN hN2 hp ha hxs hys n1 ms 0 f gx gy (by omega) fa fx fy (fun _ _ _ => rfl) (fun f2 k1 k2 k3 => ?_)
  have fa2 : f2 a = to 3 [.ref xs, .ref ys, v2, .ref on, .ref en, v5, .int (nI p), .int ct, .int dp, .int lk, .int (nI ms), .int cp, .int pc, .int pp, .int ps] := (k3 a (tf_n1 fa fx) (tf_n1 fa fy)).trans fa
  have fo2 : f2 on = tz q 40 go := (k3 on n2 n3).trans fo
  refine tf_blk _ b_Glyph_addPoint_30 rfl ?_
  refine tf_get (fs := ?fs_31_5) (v := ?v_31_5) 34 d_Glyph_addPoint_31 rfl fl_Glyph_9 ?ha_31_5 ?hf_31_5 ?hv_31_5 ?kk_31_5
  case ha_31_5 => first | assumption | (simp only [List.mem_append, List.mem_singleton]; simp [*])
  case hf_31_5 => first | assumption | exact va_up_self _ _ _ | (refine tf_u (by first | assumption | (apply Ne.symm; assumption) | (intro hh; subst hh; contradiction) | exact tf_n1 (by assumption) (by assumption) | exact tf_n2 (by assumption) (by assumption)) ?_; first | assumption | exact va_up_self _ _ _ | (refine tf_u (by first | assumption | (apply Ne.symm; assumption) | (intro hh; subst hh; contradiction) | exact tf_n1 (by assumption) (by assumption) | exact tf_n2 (by assumption) (by assumption)) ?_; first | assumption | exact va_up_self _ _ _ | (refine tf_u (by first | assumption | (apply Ne.symm; assumption) | (intro hh; subst hh; contradiction) | exact tf_n1 (by assumption) (by assumption) | exact tf_n2 (by assumption) (by assumption)) ?_; first | assumption | exact va_up_self _ _ _ | (refine tf_u (by first | assumption | (apply Ne.symm; assumption) | (intro hh; subst hh; contradiction) | exact tf_n1 (by assumption) (by assumption) | exact tf_n2 (by assumption) (by assumption)) ?_; first | assumption | exact va_up_self _ _ _ | (refine tf_u (by first | assumption | (apply Ne.symm; assumption) | (intro hh; subst hh; contradiction) | exact tf_n1 (by assumption) (by assumption) | exact tf_n2 (by assumption) (by assumption)) ?_; first | assumption | exact va_up_self _ _ _)))))
  case hv_31_5 => rfl
  refine tf_blk _ b_Glyph_addPoint_34 rfl ?_
  refine tf_get (fs := ?fs_35_6) (v := ?v_35_6) 38 d_Glyph_addPoint_35 rfl fl_Glyph_38 ?ha_35_6 ?hf_35_6 ?hv_35_6 ?kk_35_6
  case ha_35_6 => first | assumption | (simp only [List.mem_append, List.mem_singleton]; simp [*])
  case hf_35_6 => first | assumption | exact va_up_self _ _ _ | (refine tf_u (by first | assumption | (apply Ne.symm; assumption) | (intro hh; subst hh; contradiction) | exact tf_n1 (by assumption) (by assumption) | exact tf_n2 (by assumption) (by assumption)) ?_; first | assumption | exact va_up_self _ _ _ | (refine tf_u (by first | assumption | (apply Ne.symm; assumption) | (intro hh; subst hh; contradiction) | exact tf_n1 (by assumption) (by assumption) | exact tf_n2 (by assumption) (by assumption)) ?_; first | assumption | exact va_up_self _ _ _ | (refine tf_u (by first | assumption | (apply Ne.symm; assumption) | (intro hh; subst hh; contradiction) | exact tf_n1 (by assumption) (by assumption) | exact tf_n2 (by assumption) (by assumption)) ?_; first | assumption | exact va_up_self _ _ _ | (refine tf_u (by first | assumption | (apply Ne.symm; assumption) | (intro hh; subst hh; contradiction) | exact tf_n1 (by assumption) (by assumption) | exact tf_n2 (by assumption) (by assumption)) ?_; first | assumption | exact va_up_self _ _ _ | (refine tf_u (by first | assumption | (apply Ne.symm; assumption) | (intro hh; subst hh; contradiction) | exact tf_n1 (by assumption) (by assumption) | exact tf_n2 (by assumption) (by assumption)) ?_; first | assumption | exact va_up_self _ _ _)))))
  case hv_35_6 => rfl
  refine tf_blk _ b_Glyph_addPoint_38 rfl ?_
  refine tf_zast (n := ?n_39_7) (g := ?g_39_7) 40 1 d_Glyph_addPoint_39 rfl rfl ?ha_39_7 ?hf_39_7 ?hi_39_7 ?kk_39_7
  case ha_39_7 => first | assumption | (simp only [List.mem_append, List.mem_singleton]; simp [*])
  case hf_39_7 => first | assumption | exact va_up_self _ _ _ | (refine tf_u (by first | assumption | (apply Ne.symm; assumption) | (intro hh; subst hh; contradiction) | exact tf_n1 (by assumption) (by assumption) | exact tf_n2 (by assumption) (by assumption)) ?_; first | assumption | exact va_up_self _ _ _ | (refine tf_u (by first | assumption | (apply Ne.symm; assumption) | (intro hh; subst hh; contradiction) | exact tf_n1 (by assumption) (by assumption) | exact tf_n2 (by assumption) (by assumption)) ?_; first | assumption | exact va_up_self _ _ _ | (refine tf_u (by first | assumption | (apply Ne.symm; assumption) | (intro hh; subst hh; contradiction) | exact tf_n1 (by assumption) (by assumption) | exact tf_n2 (by assumption) (by assumption)) ?_; first | assumption | exact va_up_self _ _ _ | (refine tf_u (by first | assumption | (apply Ne.symm; assumption) | (intro hh; subst hh; contradiction) | exact tf_n1 (by assumption) (by assumption) | exact tf_n2 (by assumption) (by assumption)) ?_; first | assumption | exact va_up_self _ _ _ | (refine tf_u (by first | assumption | (apply Ne.symm; assumption) | (intro hh; subst hh; contradiction) | exact tf_n1 (by assumption) (by assumption) | exact tf_n2 (by assumption) (by assumption)) ?_; first | assumption | exact va_up_self _ _ _)))))
  case hi_39_7 => exact vp_in_nI (by omega) (by omega)
  refine tf_blk _ b_Glyph_addPoint_40 rfl ?_
  refine tf_get (fs := ?fs_42_8) (v := ?v_42_8) 45 d_Glyph_addPoint_42 rfl fl_Glyph_38 ?ha_42_8 ?hf_42_8 ?hv_42_8 ?kk_42_8
  case ha_42_8 => first | assumption | (simp only [List.mem_append, List.mem_singleton]; simp [*])
  case hf_42_8 => first | assumption | exact va_up_self _ _ _ | (refine tf_u (by first | assumption | (apply Ne.symm; assumption) | (intro hh; subst hh; contradiction) | exact tf_n1 (by assumption) (by assumption) | exact tf_n2 (by assumption) (by assumption)) ?_; first | assumption | exact va_up_self _ _ _ | (refine tf_u (by first | assumption | (apply Ne.symm; assumption) | (intro hh; subst hh; contradiction) | exact tf_n1 (by assumption) (by assumption) | exact tf_n2 (by assumption) (by assumption)) ?_; first | assumption | exact va_up_self _ _ _ | (refine tf_u (by first | assumption | (apply Ne.symm; assumption) | (intro hh; subst hh; contradiction) | exact tf_n1 (by assumption) (by assumption) | exact tf_n2 (by assumption) (by assumption)) ?_; first | assumption | exact va_up_self _ _ _ | (refine tf_u (by first | assumption | (apply Ne.symm; assumption) | (intro hh; subst hh; contradiction) | exact tf_n1 (by assumption) (by assumption) | exact tf_n2 (by assumption) (by assumption)) ?_; first | assumption | exact va_up_self _ _ _ | (refine tf_u (by first | assumption | (apply Ne.symm; assumption) | (intro hh; subst hh; contradiction) | exact tf_n1 (by assumption) (by assumption) | exact tf_n2 (by assumption) (by assumption)) ?_; first | assumption | exact va_up_self _ _ _)))))
  case hv_42_8 => rfl
  refine tf_blk _ b_Glyph_addPoint_45 rfl ?_
  refine tf_put (fs := ?fs_48_9) 51 d_Glyph_addPoint_48 rfl fw_Glyph_38 ?ha_48_9 ?hf_48_9 ?hl_48_9 ?hn_48_9 ?ht_48_9 ?kk_48_9
  case ha_48_9 => first | assumption | (simp only [List.mem_append, List.mem_singleton]; simp [*])
  case hf_48_9 => first | assumption | exact va_up_self _ _ _ | (refine tf_u (by first | assumption | (apply Ne.symm; assumption) | (intro hh; subst hh; contradiction) | exact tf_n1 (by assumption) (by assumption) | exact tf_n2 (by assumption) (by assumption)) ?_; first | assumption | exact va_up_self _ _ _ | (refine tf_u (by first | assumption | (apply Ne.symm; assumption) | (intro hh; subst hh; contradiction) | exact tf_n1 (by assumption) (by assumption) | exact tf_n2 (by assumption) (by assumption)) ?_; first | assumption | exact va_up_self _ _ _ | (refine tf_u (by first | assumption | (apply Ne.symm; assumption) | (intro hh; subst hh; contradiction) | exact tf_n1 (by assumption) (by assumption) | exact tf_n2 (by assumption) (by assumption)) ?_; first | assumption | exact va_up_self _ _ _ | (refine tf_u (by first | assumption | (apply Ne.symm; assumption) | (intro hh; subst hh; contradiction) | exact tf_n1 (by assumption) (by assumption) | exact tf_n2 (by assumption) (by assumption)) ?_; first | assumption | exact va_up_self _ _ _ | (refine tf_u (by first | assumption | (apply Ne.symm; assumption) | (intro hh; subst hh; contradiction) | exact tf_n1 (by assumption) (by assumption) | exact tf_n2 (by assumption) (by assumption)) ?_; first | assumption | exact va_up_self _ _ _)))))
  case hl_48_9 => exact Nat.le_of_ble_eq_true rfl
  case hn_48_9 => rfl
  case ht_48_9 => rfl
  refine tf_iret d_Glyph_addPoint_51 rfl ?_
  refine ⟨rfl, rfl, ?_, ?_, ?_, ?_, ?_⟩
  · rw [nI_succ]
    exact va_up_self _ _ _
  · exact tf_u (tf_n2 k1 fa2) (tf_u n2.symm k1)
  · exact tf_u (tf_n2 k2 fa2) (tf_u n3.symm k2)
  · rw [nI_clamp (show p < 2 ^ 31 by omega)]
    exact tf_u (tf_n2 fo2 fa2) (va_up_self _ _ _)
  · intro z h1 h2 h3 h4
    exact tf_u h1 (tf_u h4 (k3 z h2 h3))
end
