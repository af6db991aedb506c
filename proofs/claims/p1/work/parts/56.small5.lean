/-! System.arraycopy; Setter.put, Heights.add -/
theorem w_333 : Cond.methodLink "TypeFoundry$Setter" 31 (⟨"java/lang/System", "arraycopy", "(Ljava/lang/Object;ILjava/lang/Object;II)V"⟩ : MethodName) ∈ tf_Ts := tf_mem 333 (by decide +kernel) rfl
theorem w_25 : Cond.initialized "java/lang/System" ∈ tf_Ts := tf_mem 25 (by decide +kernel) rfl
theorem w_334 : Cond.static (⟨"java/lang/System", "arraycopy", "(Ljava/lang/Object;ILjava/lang/Object;II)V"⟩ : MethodName) ∈ tf_Ts := tf_mem 334 (by decide +kernel) rfl
theorem w_335 : Cond.native (⟨"java/lang/System", "arraycopy", "(Ljava/lang/Object;ILjava/lang/Object;II)V"⟩ : MethodName) ∈ tf_Ts := tf_mem 335 (by decide +kernel) rfl
theorem nI_subm {a : Nat} (h : 1 ≤ a) : nI a + kI (-1) = nI (a - 1) := by
  rw [← nI_sub1 h, Int32.sub_eq_add_neg]
  rfl
section
variable {l : Launch} {G : tf_G} {EX : State → (Nat → Prop) → Prop} {QB : tf_B} {d : Nat} {i : tf_I} {pc : Nat} {lv : tf_V} {st : List Value} {L : List Nat} {f : tf_F} {kc ks : Nat}
/-- System.arraycopy of ints -/
theorem tf_copy {ix a b n0 n1 S T N : Nat} {sp dp n : Int32} {g g2 : Nat → Int32} {cA : ClassId} (nxt t0 : Nat) (hd : decode i.2.1 pc = .ok (.invokestatic ix, 3)) (hn : pc + 3 = nxt) (w1 : Cond.methodLink i.1.cls ix arraycopyName ∈ G.2.2.2.1) (w2 : Cond.native arraycopyName ∈ G.2.2.2.1) (w3 : Cond.static arraycopyName ∈ G.2.2.2.1) (w4 : Cond.initialized "java/lang/System" ∈ G.2.2.2.1) (hs : sp = nI S) (ht : dp = nI T) (hN : n = nI N) (hb1 : S + N ≤ n0) (hb2 : T + N ≤ n1) (h0 : n0 < 2 ^ 31) (h1 : n1 < 2 ^ 31) (hty : G.2.2.1[t0]? = some (cA, .int)) (ha : a ∈ L) (fa : f a = .inl (cA, n0, .inl g)) (hb : b ∈ L) (fb : f b = .inl (cA, n1, .inl g2)) (hd0 : 1 ≤ d) (hst : (st.map fun v => v.category).sum ≤ 8)
    (kk : tf_W l G EX QB d i nxt lv st L (va_up f b (.inl (cA, n1, .inl (va_cpy g g2 S T N)))) kc ks) : tf_W l G EX QB d i pc lv (.int n :: .int dp :: .ref b :: .int sp :: .ref a :: st) L f kc ks := by
  subst hn hs ht hN
  intro p e R s m args below meth c H locs cells slots ls A mc ms hM hE hR hl hP
  obtain ⟨hx, hb0, hml, hown, hts, hret, hlk, hnw, hnm, hK, hnd⟩ := id hM
  obtain ⟨r1, r2, r3, r4, r5, r6⟩ := id hR
  obtain ⟨hPP, hD, hS, hA⟩ := id hP
  obtain ⟨q0, hq0⟩ := tf_pl (f := f) ha
  obtain ⟨q1, hq1⟩ := tf_pl (f := f) hb
  have cS : (nI S).toNatClampNeg = S := nI_clamp (by omega)
  have cT : (nI T).toNatClampNeg = T := nI_clamp (by omega)
  have cN : (nI N).toNatClampNeg = N := nI_clamp (by omega)
  have hset := tf_set (e := .inl (cA, n1, .inl (va_cpy g g2 S T N))) hD hb hq1
  have hq2 := hq1
  rw [fa] at hq0
  rw [fb] at hq1
  have hw : nativeFrameWords "java/lang/System" "arraycopy" 5 = 7 := by decide
  refine va_copyi hx hb0 (hml.trans hl.1.symm) hown (hts _ w1) (hts _ w2) (hts _ w3) (hts _ w4) hK hPP hD hS q0 q1 t0 t0 hq0 hq1 hty hty rfl (nI_pos (by omega)) (nI_pos (by omega)) (nI_pos (by omega)) (by rw [cS, cN]; exact hb1) (by rw [cT, cN]; exact hb2) (fun _ _ => rfl) (by omega) (by rw [hw]; omega) hd (fun H1 locs1 p1 d1 s1 => ?_)
  rw [cS, cT, cN, hset] at p1 d1
  exact kk p e R s m args below meth c H1 locs1 cells slots ls A mc ms hM hE hR hl ⟨p1, d1, s1, hA⟩
end
section
variable (l : Launch) (D : va_G) (q : Nat → ClassId) (d : Nat) (L : List Nat) (f : tf_F)
set_option maxHeartbeats 4000000 in
set_option maxRecDepth 100000 in
theorem c_Setter_put (hd : 1 ≤ d) {a ro r s p ni : Nat} {v2 v3 v5 v6 w0 w3 w4 w5 w6 w7 : Value} {ou pu : Int32} {g : Nat → Int32} (hs : s ≤ 60) (hp : p + ni ≤ s) (hni : 1 ≤ ni) (ha : a ∈ L) (fa : f a = to 10 [.ref ro, .int (nI s), v2, v3, .int pu, v5, v6]) (hro : ro ∈ L) (fro : f ro = ti q 60 g) (hr : r ∈ L) (fr : f r = to 9 [w0, .int (nI ni), .int ou, w3, w4, w5, w6, w7]) (hne : r ≠ a) : tf_C l (tf_H D q) d i_Setter_put [.ref a, .ref r, .int (nI p)] L f 0 0 (fun v L2 f2 => v = none ∧ L2 = L ∧ f2 = va_up (va_up f ro (ti q 60 (va_cpy (upd g p ou) (upd g p ou) (p + ni) (p + 1) (s - (p + ni))))) a (to 10 [.ref ro, .int (nI (s - (ni - 1))), v2, v3, .int (pu + kI 1), v5, v6])) := by
  refine tf_C.of (tf_gok _ _) (by decide) w_362 (Nat.le_of_ble_eq_true rfl) ?_
  refine tf_blk _ b_Setter_put_0 rfl ?_
  refine tf_get (fs := ?fs_2_1) (v := ?v_2_1) 5 d_Setter_put_2 rfl fl_Setter_66 ?ha_2_1 ?hf_2_1 ?hv_2_1 ?kk_2_1
  case ha_2_1 => first | assumption | (simp only [List.mem_append, List.mem_singleton]; simp [*])
  case hf_2_1 => first | assumption | exact va_up_self _ _ _ | (refine tf_u (by first | assumption | (apply Ne.symm; assumption) | (intro hh; subst hh; contradiction) | exact tf_n1 (by assumption) (by assumption) | exact tf_n2 (by assumption) (by assumption)) ?_; first | assumption | exact va_up_self _ _ _ | (refine tf_u (by first | assumption | (apply Ne.symm; assumption) | (intro hh; subst hh; contradiction) | exact tf_n1 (by assumption) (by assumption) | exact tf_n2 (by assumption) (by assumption)) ?_; first | assumption | exact va_up_self _ _ _ | (refine tf_u (by first | assumption | (apply Ne.symm; assumption) | (intro hh; subst hh; contradiction) | exact tf_n1 (by assumption) (by assumption) | exact tf_n2 (by assumption) (by assumption)) ?_; first | assumption | exact va_up_self _ _ _ | (refine tf_u (by first | assumption | (apply Ne.symm; assumption) | (intro hh; subst hh; contradiction) | exact tf_n1 (by assumption) (by assumption) | exact tf_n2 (by assumption) (by assumption)) ?_; first | assumption | exact va_up_self _ _ _ | (refine tf_u (by first | assumption | (apply Ne.symm; assumption) | (intro hh; subst hh; contradiction) | exact tf_n1 (by assumption) (by assumption) | exact tf_n2 (by assumption) (by assumption)) ?_; first | assumption | exact va_up_self _ _ _)))))
  case hv_2_1 => rfl
  refine tf_blk _ b_Setter_put_5 rfl ?_
  refine tf_get (fs := ?fs_8_2) (v := ?v_8_2) 11 d_Setter_put_8 rfl fl_Setter_9 ?ha_8_2 ?hf_8_2 ?hv_8_2 ?kk_8_2
  case ha_8_2 => first | assumption | (simp only [List.mem_append, List.mem_singleton]; simp [*])
  case hf_8_2 => first | assumption | exact va_up_self _ _ _ | (refine tf_u (by first | assumption | (apply Ne.symm; assumption) | (intro hh; subst hh; contradiction) | exact tf_n1 (by assumption) (by assumption) | exact tf_n2 (by assumption) (by assumption)) ?_; first | assumption | exact va_up_self _ _ _ | (refine tf_u (by first | assumption | (apply Ne.symm; assumption) | (intro hh; subst hh; contradiction) | exact tf_n1 (by assumption) (by assumption) | exact tf_n2 (by assumption) (by assumption)) ?_; first | assumption | exact va_up_self _ _ _ | (refine tf_u (by first | assumption | (apply Ne.symm; assumption) | (intro hh; subst hh; contradiction) | exact tf_n1 (by assumption) (by assumption) | exact tf_n2 (by assumption) (by assumption)) ?_; first | assumption | exact va_up_self _ _ _ | (refine tf_u (by first | assumption | (apply Ne.symm; assumption) | (intro hh; subst hh; contradiction) | exact tf_n1 (by assumption) (by assumption) | exact tf_n2 (by assumption) (by assumption)) ?_; first | assumption | exact va_up_self _ _ _ | (refine tf_u (by first | assumption | (apply Ne.symm; assumption) | (intro hh; subst hh; contradiction) | exact tf_n1 (by assumption) (by assumption) | exact tf_n2 (by assumption) (by assumption)) ?_; first | assumption | exact va_up_self _ _ _)))))
  case hv_8_2 => rfl
  refine tf_blk _ b_Setter_put_11 rfl ?_
  refine tf_get (fs := ?fs_13_3) (v := ?v_13_3) 16 d_Setter_put_13 rfl fl_Setter_69 ?ha_13_3 ?hf_13_3 ?hv_13_3 ?kk_13_3
  case ha_13_3 => first | assumption | (simp only [List.mem_append, List.mem_singleton]; simp [*])
  case hf_13_3 => first | assumption | exact va_up_self _ _ _ | (refine tf_u (by first | assumption | (apply Ne.symm; assumption) | (intro hh; subst hh; contradiction) | exact tf_n1 (by assumption) (by assumption) | exact tf_n2 (by assumption) (by assumption)) ?_; first | assumption | exact va_up_self _ _ _ | (refine tf_u (by first | assumption | (apply Ne.symm; assumption) | (intro hh; subst hh; contradiction) | exact tf_n1 (by assumption) (by assumption) | exact tf_n2 (by assumption) (by assumption)) ?_; first | assumption | exact va_up_self _ _ _ | (refine tf_u (by first | assumption | (apply Ne.symm; assumption) | (intro hh; subst hh; contradiction) | exact tf_n1 (by assumption) (by assumption) | exact tf_n2 (by assumption) (by assumption)) ?_; first | assumption | exact va_up_self _ _ _ | (refine tf_u (by first | assumption | (apply Ne.symm; assumption) | (intro hh; subst hh; contradiction) | exact tf_n1 (by assumption) (by assumption) | exact tf_n2 (by assumption) (by assumption)) ?_; first | assumption | exact va_up_self _ _ _ | (refine tf_u (by first | assumption | (apply Ne.symm; assumption) | (intro hh; subst hh; contradiction) | exact tf_n1 (by assumption) (by assumption) | exact tf_n2 (by assumption) (by assumption)) ?_; first | assumption | exact va_up_self _ _ _)))))
  case hv_13_3 => rfl
  refine tf_iast (n := ?n_16_4) (g := ?g_16_4) 17 0 d_Setter_put_16 rfl rfl ?ha_16_4 ?hf_16_4 ?hi_16_4 ?kk_16_4
  case ha_16_4 => first | assumption | (simp only [List.mem_append, List.mem_singleton]; simp [*])
  case hf_16_4 => first | assumption | exact va_up_self _ _ _ | (refine tf_u (by first | assumption | (apply Ne.symm; assumption) | (intro hh; subst hh; contradiction) | exact tf_n1 (by assumption) (by assumption) | exact tf_n2 (by assumption) (by assumption)) ?_; first | assumption | exact va_up_self _ _ _ | (refine tf_u (by first | assumption | (apply Ne.symm; assumption) | (intro hh; subst hh; contradiction) | exact tf_n1 (by assumption) (by assumption) | exact tf_n2 (by assumption) (by assumption)) ?_; first | assumption | exact va_up_self _ _ _ | (refine tf_u (by first | assumption | (apply Ne.symm; assumption) | (intro hh; subst hh; contradiction) | exact tf_n1 (by assumption) (by assumption) | exact tf_n2 (by assumption) (by assumption)) ?_; first | assumption | exact va_up_self _ _ _ | (refine tf_u (by first | assumption | (apply Ne.symm; assumption) | (intro hh; subst hh; contradiction) | exact tf_n1 (by assumption) (by assumption) | exact tf_n2 (by assumption) (by assumption)) ?_; first | assumption | exact va_up_self _ _ _ | (refine tf_u (by first | assumption | (apply Ne.symm; assumption) | (intro hh; subst hh; contradiction) | exact tf_n1 (by assumption) (by assumption) | exact tf_n2 (by assumption) (by assumption)) ?_; first | assumption | exact va_up_self _ _ _)))))
  case hi_16_4 => exact vp_in_nI (by omega) (by omega)
  refine tf_blk _ b_Setter_put_17 rfl ?_
  refine tf_get (fs := ?fs_18_5) (v := ?v_18_5) 21 d_Setter_put_18 rfl fl_Setter_9 ?ha_18_5 ?hf_18_5 ?hv_18_5 ?kk_18_5
  case ha_18_5 => first | assumption | (simp only [List.mem_append, List.mem_singleton]; simp [*])
  case hf_18_5 => first | assumption | exact va_up_self _ _ _ | (refine tf_u (by first | assumption | (apply Ne.symm; assumption) | (intro hh; subst hh; contradiction) | exact tf_n1 (by assumption) (by assumption) | exact tf_n2 (by assumption) (by assumption)) ?_; first | assumption | exact va_up_self _ _ _ | (refine tf_u (by first | assumption | (apply Ne.symm; assumption) | (intro hh; subst hh; contradiction) | exact tf_n1 (by assumption) (by assumption) | exact tf_n2 (by assumption) (by assumption)) ?_; first | assumption | exact va_up_self _ _ _ | (refine tf_u (by first | assumption | (apply Ne.symm; assumption) | (intro hh; subst hh; contradiction) | exact tf_n1 (by assumption) (by assumption) | exact tf_n2 (by assumption) (by assumption)) ?_; first | assumption | exact va_up_self _ _ _ | (refine tf_u (by first | assumption | (apply Ne.symm; assumption) | (intro hh; subst hh; contradiction) | exact tf_n1 (by assumption) (by assumption) | exact tf_n2 (by assumption) (by assumption)) ?_; first | assumption | exact va_up_self _ _ _ | (refine tf_u (by first | assumption | (apply Ne.symm; assumption) | (intro hh; subst hh; contradiction) | exact tf_n1 (by assumption) (by assumption) | exact tf_n2 (by assumption) (by assumption)) ?_; first | assumption | exact va_up_self _ _ _)))))
  case hv_18_5 => rfl
  refine tf_blk _ b_Setter_put_21 rfl ?_
  refine tf_get (fs := ?fs_23_6) (v := ?v_23_6) 26 d_Setter_put_23 rfl fl_Setter_9 ?ha_23_6 ?hf_23_6 ?hv_23_6 ?kk_23_6
  case ha_23_6 => first | assumption | (simp only [List.mem_append, List.mem_singleton]; simp [*])
  case hf_23_6 => first | assumption | exact va_up_self _ _ _ | (refine tf_u (by first | assumption | (apply Ne.symm; assumption) | (intro hh; subst hh; contradiction) | exact tf_n1 (by assumption) (by assumption) | exact tf_n2 (by assumption) (by assumption)) ?_; first | assumption | exact va_up_self _ _ _ | (refine tf_u (by first | assumption | (apply Ne.symm; assumption) | (intro hh; subst hh; contradiction) | exact tf_n1 (by assumption) (by assumption) | exact tf_n2 (by assumption) (by assumption)) ?_; first | assumption | exact va_up_self _ _ _ | (refine tf_u (by first | assumption | (apply Ne.symm; assumption) | (intro hh; subst hh; contradiction) | exact tf_n1 (by assumption) (by assumption) | exact tf_n2 (by assumption) (by assumption)) ?_; first | assumption | exact va_up_self _ _ _ | (refine tf_u (by first | assumption | (apply Ne.symm; assumption) | (intro hh; subst hh; contradiction) | exact tf_n1 (by assumption) (by assumption) | exact tf_n2 (by assumption) (by assumption)) ?_; first | assumption | exact va_up_self _ _ _ | (refine tf_u (by first | assumption | (apply Ne.symm; assumption) | (intro hh; subst hh; contradiction) | exact tf_n1 (by assumption) (by assumption) | exact tf_n2 (by assumption) (by assumption)) ?_; first | assumption | exact va_up_self _ _ _)))))
  case hv_23_6 => rfl
  refine tf_blk _ b_Setter_put_26 rfl ?_
  refine tf_get (fs := ?fs_30_7) (v := ?v_30_7) 33 d_Setter_put_30 rfl fl_Setter_37 ?ha_30_7 ?hf_30_7 ?hv_30_7 ?kk_30_7
  case ha_30_7 => first | assumption | (simp only [List.mem_append, List.mem_singleton]; simp [*])
  case hf_30_7 => first | assumption | exact va_up_self _ _ _ | (refine tf_u (by first | assumption | (apply Ne.symm; assumption) | (intro hh; subst hh; contradiction) | exact tf_n1 (by assumption) (by assumption) | exact tf_n2 (by assumption) (by assumption)) ?_; first | assumption | exact va_up_self _ _ _ | (refine tf_u (by first | assumption | (apply Ne.symm; assumption) | (intro hh; subst hh; contradiction) | exact tf_n1 (by assumption) (by assumption) | exact tf_n2 (by assumption) (by assumption)) ?_; first | assumption | exact va_up_self _ _ _ | (refine tf_u (by first | assumption | (apply Ne.symm; assumption) | (intro hh; subst hh; contradiction) | exact tf_n1 (by assumption) (by assumption) | exact tf_n2 (by assumption) (by assumption)) ?_; first | assumption | exact va_up_self _ _ _ | (refine tf_u (by first | assumption | (apply Ne.symm; assumption) | (intro hh; subst hh; contradiction) | exact tf_n1 (by assumption) (by assumption) | exact tf_n2 (by assumption) (by assumption)) ?_; first | assumption | exact va_up_self _ _ _ | (refine tf_u (by first | assumption | (apply Ne.symm; assumption) | (intro hh; subst hh; contradiction) | exact tf_n1 (by assumption) (by assumption) | exact tf_n2 (by assumption) (by assumption)) ?_; first | assumption | exact va_up_self _ _ _)))))
  case hv_30_7 => rfl
  refine tf_blk _ b_Setter_put_33 rfl ?_
  rw [nI_clamp (show p < 2 ^ 31 by omega)]
  refine tf_copy (S := p + ni) (T := p + 1) (N := s - (p + ni)) 38 0 d_Setter_put_35 rfl w_333 w_335 w_334 w_25 (nI_add p ni) (nI_1 p) (by rw [nI_add]; exact nI_subI (by omega)) (by omega) (by omega) (by decide) (by decide) rfl hro (va_up_self _ _ _) hro (va_up_self _ _ _) (by omega) (Nat.le_of_ble_eq_true rfl) ?_
  refine tf_blk _ b_Setter_put_38 rfl ?_
  refine tf_get (fs := ?fs_40_9) (v := ?v_40_9) 43 d_Setter_put_40 rfl fl_Setter_37 ?ha_40_9 ?hf_40_9 ?hv_40_9 ?kk_40_9
  case ha_40_9 => first | assumption | (simp only [List.mem_append, List.mem_singleton]; simp [*])
  case hf_40_9 => first | assumption | exact va_up_self _ _ _ | (refine tf_u (by first | assumption | (apply Ne.symm; assumption) | (intro hh; subst hh; contradiction) | exact tf_n1 (by assumption) (by assumption) | exact tf_n2 (by assumption) (by assumption)) ?_; first | assumption | exact va_up_self _ _ _ | (refine tf_u (by first | assumption | (apply Ne.symm; assumption) | (intro hh; subst hh; contradiction) | exact tf_n1 (by assumption) (by assumption) | exact tf_n2 (by assumption) (by assumption)) ?_; first | assumption | exact va_up_self _ _ _ | (refine tf_u (by first | assumption | (apply Ne.symm; assumption) | (intro hh; subst hh; contradiction) | exact tf_n1 (by assumption) (by assumption) | exact tf_n2 (by assumption) (by assumption)) ?_; first | assumption | exact va_up_self _ _ _ | (refine tf_u (by first | assumption | (apply Ne.symm; assumption) | (intro hh; subst hh; contradiction) | exact tf_n1 (by assumption) (by assumption) | exact tf_n2 (by assumption) (by assumption)) ?_; first | assumption | exact va_up_self _ _ _ | (refine tf_u (by first | assumption | (apply Ne.symm; assumption) | (intro hh; subst hh; contradiction) | exact tf_n1 (by assumption) (by assumption) | exact tf_n2 (by assumption) (by assumption)) ?_; first | assumption | exact va_up_self _ _ _)))))
  case hv_40_9 => rfl
  refine tf_blk _ b_Setter_put_43 rfl ?_
  refine tf_get (fs := ?fs_44_10) (v := ?v_44_10) 47 d_Setter_put_44 rfl fl_Setter_66 ?ha_44_10 ?hf_44_10 ?hv_44_10 ?kk_44_10
  case ha_44_10 => first | assumption | (simp only [List.mem_append, List.mem_singleton]; simp [*])
  case hf_44_10 => first | assumption | exact va_up_self _ _ _ | (refine tf_u (by first | assumption | (apply Ne.symm; assumption) | (intro hh; subst hh; contradiction) | exact tf_n1 (by assumption) (by assumption) | exact tf_n2 (by assumption) (by assumption)) ?_; first | assumption | exact va_up_self _ _ _ | (refine tf_u (by first | assumption | (apply Ne.symm; assumption) | (intro hh; subst hh; contradiction) | exact tf_n1 (by assumption) (by assumption) | exact tf_n2 (by assumption) (by assumption)) ?_; first | assumption | exact va_up_self _ _ _ | (refine tf_u (by first | assumption | (apply Ne.symm; assumption) | (intro hh; subst hh; contradiction) | exact tf_n1 (by assumption) (by assumption) | exact tf_n2 (by assumption) (by assumption)) ?_; first | assumption | exact va_up_self _ _ _ | (refine tf_u (by first | assumption | (apply Ne.symm; assumption) | (intro hh; subst hh; contradiction) | exact tf_n1 (by assumption) (by assumption) | exact tf_n2 (by assumption) (by assumption)) ?_; first | assumption | exact va_up_self _ _ _ | (refine tf_u (by first | assumption | (apply Ne.symm; assumption) | (intro hh; subst hh; contradiction) | exact tf_n1 (by assumption) (by assumption) | exact tf_n2 (by assumption) (by assumption)) ?_; first | assumption | exact va_up_self _ _ _)))))
  case hv_44_10 => rfl
  refine tf_blk _ b_Setter_put_47 rfl ?_
  refine tf_put (fs := ?fs_50_11) 53 d_Setter_put_50 rfl fw_Setter_37 ?ha_50_11 ?hf_50_11 ?hl_50_11 ?hn_50_11 ?ht_50_11 ?kk_50_11
  case ha_50_11 => first | assumption | (simp only [List.mem_append, List.mem_singleton]; simp [*])
  case hf_50_11 => first | assumption | exact va_up_self _ _ _ | (refine tf_u (by first | assumption | (apply Ne.symm; assumption) | (intro hh; subst hh; contradiction) | exact tf_n1 (by assumption) (by assumption) | exact tf_n2 (by assumption) (by assumption)) ?_; first | assumption | exact va_up_self _ _ _ | (refine tf_u (by first | assumption | (apply Ne.symm; assumption) | (intro hh; subst hh; contradiction) | exact tf_n1 (by assumption) (by assumption) | exact tf_n2 (by assumption) (by assumption)) ?_; first | assumption | exact va_up_self _ _ _ | (refine tf_u (by first | assumption | (apply Ne.symm; assumption) | (intro hh; subst hh; contradiction) | exact tf_n1 (by assumption) (by assumption) | exact tf_n2 (by assumption) (by assumption)) ?_; first | assumption | exact va_up_self _ _ _ | (refine tf_u (by first | assumption | (apply Ne.symm; assumption) | (intro hh; subst hh; contradiction) | exact tf_n1 (by assumption) (by assumption) | exact tf_n2 (by assumption) (by assumption)) ?_; first | assumption | exact va_up_self _ _ _ | (refine tf_u (by first | assumption | (apply Ne.symm; assumption) | (intro hh; subst hh; contradiction) | exact tf_n1 (by assumption) (by assumption) | exact tf_n2 (by assumption) (by assumption)) ?_; first | assumption | exact va_up_self _ _ _)))))
  case hl_50_11 => exact Nat.le_of_ble_eq_true rfl
  case hn_50_11 => rfl
  case ht_50_11 => rfl
  refine tf_blk _ b_Setter_put_53 rfl ?_
  refine tf_get (fs := ?fs_55_12) (v := ?v_55_12) 58 d_Setter_put_55 rfl fl_Setter_40 ?ha_55_12 ?hf_55_12 ?hv_55_12 ?kk_55_12
  case ha_55_12 => first | assumption | (simp only [List.mem_append, List.mem_singleton]; simp [*])
  case hf_55_12 => first | assumption | exact va_up_self _ _ _ | (refine tf_u (by first | assumption | (apply Ne.symm; assumption) | (intro hh; subst hh; contradiction) | exact tf_n1 (by assumption) (by assumption) | exact tf_n2 (by assumption) (by assumption)) ?_; first | assumption | exact va_up_self _ _ _ | (refine tf_u (by first | assumption | (apply Ne.symm; assumption) | (intro hh; subst hh; contradiction) | exact tf_n1 (by assumption) (by assumption) | exact tf_n2 (by assumption) (by assumption)) ?_; first | assumption | exact va_up_self _ _ _ | (refine tf_u (by first | assumption | (apply Ne.symm; assumption) | (intro hh; subst hh; contradiction) | exact tf_n1 (by assumption) (by assumption) | exact tf_n2 (by assumption) (by assumption)) ?_; first | assumption | exact va_up_self _ _ _ | (refine tf_u (by first | assumption | (apply Ne.symm; assumption) | (intro hh; subst hh; contradiction) | exact tf_n1 (by assumption) (by assumption) | exact tf_n2 (by assumption) (by assumption)) ?_; first | assumption | exact va_up_self _ _ _ | (refine tf_u (by first | assumption | (apply Ne.symm; assumption) | (intro hh; subst hh; contradiction) | exact tf_n1 (by assumption) (by assumption) | exact tf_n2 (by assumption) (by assumption)) ?_; first | assumption | exact va_up_self _ _ _)))))
  case hv_55_12 => rfl
  refine tf_blk _ b_Setter_put_58 rfl ?_
  refine tf_put (fs := ?fs_60_13) 63 d_Setter_put_60 rfl fw_Setter_40 ?ha_60_13 ?hf_60_13 ?hl_60_13 ?hn_60_13 ?ht_60_13 ?kk_60_13
  case ha_60_13 => first | assumption | (simp only [List.mem_append, List.mem_singleton]; simp [*])
  case hf_60_13 => first | assumption | exact va_up_self _ _ _ | (refine tf_u (by first | assumption | (apply Ne.symm; assumption) | (intro hh; subst hh; contradiction) | exact tf_n1 (by assumption) (by assumption) | exact tf_n2 (by assumption) (by assumption)) ?_; first | assumption | exact va_up_self _ _ _ | (refine tf_u (by first | assumption | (apply Ne.symm; assumption) | (intro hh; subst hh; contradiction) | exact tf_n1 (by assumption) (by assumption) | exact tf_n2 (by assumption) (by assumption)) ?_; first | assumption | exact va_up_self _ _ _ | (refine tf_u (by first | assumption | (apply Ne.symm; assumption) | (intro hh; subst hh; contradiction) | exact tf_n1 (by assumption) (by assumption) | exact tf_n2 (by assumption) (by assumption)) ?_; first | assumption | exact va_up_self _ _ _ | (refine tf_u (by first | assumption | (apply Ne.symm; assumption) | (intro hh; subst hh; contradiction) | exact tf_n1 (by assumption) (by assumption) | exact tf_n2 (by assumption) (by assumption)) ?_; first | assumption | exact va_up_self _ _ _ | (refine tf_u (by first | assumption | (apply Ne.symm; assumption) | (intro hh; subst hh; contradiction) | exact tf_n1 (by assumption) (by assumption) | exact tf_n2 (by assumption) (by assumption)) ?_; first | assumption | exact va_up_self _ _ _)))))
  case hl_60_13 => exact Nat.le_of_ble_eq_true rfl
  case hn_60_13 => rfl
  case ht_60_13 => rfl
  refine tf_vret d_Setter_put_63 rfl ?_
  exact ⟨rfl, rfl, by rw [bx_uu, bx_uu, nI_sub1 (by omega), nI_subI (by omega)]; rfl⟩
end
/-- the first place from k on, m at most, with a height not below y -/
def tw_hat (g : Nat → Int32) (y : Int32) : Nat → Nat → Nat
  | 0, k => k
  | m + 1, k => if y ≤ g k then k else tw_hat g y m (k + 1)
theorem tw_hat_le (g : Nat → Int32) (y : Int32) : ∀ m k, k ≤ tw_hat g y m k ∧ tw_hat g y m k ≤ k + m := by
  intro m
  induction m with
  | zero => intro k; exact ⟨Nat.le_refl _, Nat.le_refl _⟩
  | succ m ih =>
    intro k
    unfold tw_hat
    split
    · exact ⟨Nat.le_refl _, by omega⟩
    · have := ih (k + 1)
      omega
/-- m places from i downwards take what stands below them -/
def tw_up1 (g : Nat → Int32) : Nat → Nat → Nat → Int32
  | 0, _ => g
  | m + 1, i => tw_up1 (upd g i (g (i - 1))) m (i - 1)
section
variable (l : Launch) (D : va_G) (q : Nat → ClassId) (d : Nat) (L : List Nat) (f : tf_F)
set_option maxHeartbeats 4000000 in
set_option maxRecDepth 100000 in
theorem t_Heights_add1 {QB : tf_B} {kc ks : Nat} (y : Int32) {a b n : Nat} {g : Nat → Int32} (hn : n ≤ 8) (ha : a ∈ L) (fa : f a = to 4 [.int (nI n), .ref b]) (hb : b ∈ L) (fb : f b = ti q 8 g) : ∀ m k, k + m = n → tf_W l (tf_H D q) tf_T QB d i_Heights_add 26 [(0, .ref a), (1, .int y), (2, .int (nI (tw_hat g y m k)))] [] L f kc ks → tf_W l (tf_H D q) tf_T QB d i_Heights_add 2 [(0, .ref a), (1, .int y), (2, .int (nI k))] [] L f kc ks := by
  intro m
  induction m with
  | zero =>
    intro k hk hK
    refine tf_blk _ b_Heights_add_2 rfl ?_
    refine tf_get (fs := ?fs_4_15) (v := ?v_4_15) 7 d_Heights_add_4 rfl fl_Heights_15 ?ha_4_15 ?hf_4_15 ?hv_4_15 ?kk_4_15
    case ha_4_15 => first | assumption | (simp only [List.mem_append, List.mem_singleton]; simp [*])
    case hf_4_15 => first | assumption | exact va_up_self _ _ _ | (refine tf_u (by first | assumption | (apply Ne.symm; assumption) | (intro hh; subst hh; contradiction) | exact tf_n1 (by assumption) (by assumption) | exact tf_n2 (by assumption) (by assumption)) ?_; first | assumption | exact va_up_self _ _ _ | (refine tf_u (by first | assumption | (apply Ne.symm; assumption) | (intro hh; subst hh; contradiction) | exact tf_n1 (by assumption) (by assumption) | exact tf_n2 (by assumption) (by assumption)) ?_; first | assumption | exact va_up_self _ _ _ | (refine tf_u (by first | assumption | (apply Ne.symm; assumption) | (intro hh; subst hh; contradiction) | exact tf_n1 (by assumption) (by assumption) | exact tf_n2 (by assumption) (by assumption)) ?_; first | assumption | exact va_up_self _ _ _ | (refine tf_u (by first | assumption | (apply Ne.symm; assumption) | (intro hh; subst hh; contradiction) | exact tf_n1 (by assumption) (by assumption) | exact tf_n2 (by assumption) (by assumption)) ?_; first | assumption | exact va_up_self _ _ _ | (refine tf_u (by first | assumption | (apply Ne.symm; assumption) | (intro hh; subst hh; contradiction) | exact tf_n1 (by assumption) (by assumption) | exact tf_n2 (by assumption) (by assumption)) ?_; first | assumption | exact va_up_self _ _ _)))))
    case hv_4_15 => rfl
    refine tf_ic_ge 26 10 d_Heights_add_7 rfl rfl (fun h7 => ?_) (fun h7 => absurd (nI_le (by omega) (by omega)) h7)
    exact hK
  | succ m ih =>
    intro k hk hK
    have hv : vp_in (nI k) 8 := vp_in_nI (by omega) (by omega)
    have hc : (nI k).toNatClampNeg = k := nI_clamp (by omega)
    refine tf_blk _ b_Heights_add_2 rfl ?_
    refine tf_get (fs := ?fs_4_16) (v := ?v_4_16) 7 d_Heights_add_4 rfl fl_Heights_15 ?ha_4_16 ?hf_4_16 ?hv_4_16 ?kk_4_16
    case ha_4_16 => first | assumption | (simp only [List.mem_append, List.mem_singleton]; simp [*])
    case hf_4_16 => first | assumption | exact va_up_self _ _ _ | (refine tf_u (by first | assumption | (apply Ne.symm; assumption) | (intro hh; subst hh; contradiction) | exact tf_n1 (by assumption) (by assumption) | exact tf_n2 (by assumption) (by assumption)) ?_; first | assumption | exact va_up_self _ _ _ | (refine tf_u (by first | assumption | (apply Ne.symm; assumption) | (intro hh; subst hh; contradiction) | exact tf_n1 (by assumption) (by assumption) | exact tf_n2 (by assumption) (by assumption)) ?_; first | assumption | exact va_up_self _ _ _ | (refine tf_u (by first | assumption | (apply Ne.symm; assumption) | (intro hh; subst hh; contradiction) | exact tf_n1 (by assumption) (by assumption) | exact tf_n2 (by assumption) (by assumption)) ?_; first | assumption | exact va_up_self _ _ _ | (refine tf_u (by first | assumption | (apply Ne.symm; assumption) | (intro hh; subst hh; contradiction) | exact tf_n1 (by assumption) (by assumption) | exact tf_n2 (by assumption) (by assumption)) ?_; first | assumption | exact va_up_self _ _ _ | (refine tf_u (by first | assumption | (apply Ne.symm; assumption) | (intro hh; subst hh; contradiction) | exact tf_n1 (by assumption) (by assumption) | exact tf_n2 (by assumption) (by assumption)) ?_; first | assumption | exact va_up_self _ _ _)))))
    case hv_4_16 => rfl
    refine tf_ic_ge 26 10 d_Heights_add_7 rfl rfl (fun h7 => absurd h7 (nI_ge (by omega) (by omega))) (fun h7 => ?_)
    refine tf_blk _ b_Heights_add_10 rfl ?_
    refine tf_get (fs := ?fs_11_17) (v := ?v_11_17) 14 d_Heights_add_11 rfl fl_Heights_9 ?ha_11_17 ?hf_11_17 ?hv_11_17 ?kk_11_17
    case ha_11_17 => first | assumption | (simp only [List.mem_append, List.mem_singleton]; simp [*])
    case hf_11_17 => first | assumption | exact va_up_self _ _ _ | (refine tf_u (by first | assumption | (apply Ne.symm; assumption) | (intro hh; subst hh; contradiction) | exact tf_n1 (by assumption) (by assumption) | exact tf_n2 (by assumption) (by assumption)) ?_; first | assumption | exact va_up_self _ _ _ | (refine tf_u (by first | assumption | (apply Ne.symm; assumption) | (intro hh; subst hh; contradiction) | exact tf_n1 (by assumption) (by assumption) | exact tf_n2 (by assumption) (by assumption)) ?_; first | assumption | exact va_up_self _ _ _ | (refine tf_u (by first | assumption | (apply Ne.symm; assumption) | (intro hh; subst hh; contradiction) | exact tf_n1 (by assumption) (by assumption) | exact tf_n2 (by assumption) (by assumption)) ?_; first | assumption | exact va_up_self _ _ _ | (refine tf_u (by first | assumption | (apply Ne.symm; assumption) | (intro hh; subst hh; contradiction) | exact tf_n1 (by assumption) (by assumption) | exact tf_n2 (by assumption) (by assumption)) ?_; first | assumption | exact va_up_self _ _ _ | (refine tf_u (by first | assumption | (apply Ne.symm; assumption) | (intro hh; subst hh; contradiction) | exact tf_n1 (by assumption) (by assumption) | exact tf_n2 (by assumption) (by assumption)) ?_; first | assumption | exact va_up_self _ _ _)))))
    case hv_11_17 => rfl
    refine tf_blk _ b_Heights_add_14 rfl ?_
    refine tf_iald (n := ?n_15_18) (g := ?g_15_18) 16 0 d_Heights_add_15 rfl rfl ?ha_15_18 ?hf_15_18 ?hi_15_18 ?kk_15_18
    case ha_15_18 => first | assumption | (simp only [List.mem_append, List.mem_singleton]; simp [*])
    case hf_15_18 => first | assumption | exact va_up_self _ _ _ | (refine tf_u (by first | assumption | (apply Ne.symm; assumption) | (intro hh; subst hh; contradiction) | exact tf_n1 (by assumption) (by assumption) | exact tf_n2 (by assumption) (by assumption)) ?_; first | assumption | exact va_up_self _ _ _ | (refine tf_u (by first | assumption | (apply Ne.symm; assumption) | (intro hh; subst hh; contradiction) | exact tf_n1 (by assumption) (by assumption) | exact tf_n2 (by assumption) (by assumption)) ?_; first | assumption | exact va_up_self _ _ _ | (refine tf_u (by first | assumption | (apply Ne.symm; assumption) | (intro hh; subst hh; contradiction) | exact tf_n1 (by assumption) (by assumption) | exact tf_n2 (by assumption) (by assumption)) ?_; first | assumption | exact va_up_self _ _ _ | (refine tf_u (by first | assumption | (apply Ne.symm; assumption) | (intro hh; subst hh; contradiction) | exact tf_n1 (by assumption) (by assumption) | exact tf_n2 (by assumption) (by assumption)) ?_; first | assumption | exact va_up_self _ _ _ | (refine tf_u (by first | assumption | (apply Ne.symm; assumption) | (intro hh; subst hh; contradiction) | exact tf_n1 (by assumption) (by assumption) | exact tf_n2 (by assumption) (by assumption)) ?_; first | assumption | exact va_up_self _ _ _)))))
    case hi_15_18 => exact hv
    refine tf_blk _ b_Heights_add_16 rfl ?_
    refine tf_ic_ge 26 20 d_Heights_add_17 rfl rfl (fun h17 => ?_) (fun h17 => ?_)
    · rw [hc] at h17
      rw [show tw_hat g y (m + 1) k = k from if_pos h17] at hK
      exact hK
    · refine tf_blk _ b_Heights_add_20 rfl ?_
      refine tf_goto 2 d_Heights_add_23 rfl ?_
      rw [hc] at h17
      rw [show tw_hat g y (m + 1) k = tw_hat g y m (k + 1) from if_neg h17] at hK
      have h9 := ih (k + 1) (by omega) hK
      rw [nI_succ] at h9
      exact h9
set_option maxHeartbeats 4000000 in
set_option maxRecDepth 100000 in
theorem t_Heights_add2 {QB : tf_B} {kc ks : Nat} (y : Int32) {a b n p : Nat} (ha : a ∈ L) (hb : b ∈ L) : ∀ m i (f : tf_F) (g : Nat → Int32), f a = to 4 [.int (nI n), .ref b] → f b = ti q 8 g → i = p + m → i ≤ 7 → (∀ f2 : tf_F, f2 b = ti q 8 (tw_up1 g m i) → (∀ z, z ≠ b → f2 z = f z) → tf_W l (tf_H D q) tf_T QB d i_Heights_add 85 [(0, .ref a), (1, .int y), (2, .int (nI p)), (3, .int (nI p))] [] L f2 kc ks) → tf_W l (tf_H D q) tf_T QB d i_Heights_add 60 [(0, .ref a), (1, .int y), (2, .int (nI p)), (3, .int (nI i))] [] L f kc ks := by
  intro m
  induction m with
  | zero =>
    intro i f g fa fb hi hi7 hK
    obtain rfl : i = p := hi
    refine tf_blk _ b_Heights_add_60 rfl ?_
    refine tf_ic_le 85 65 d_Heights_add_62 rfl rfl (fun h62 => ?_) (fun h62 => absurd (nI_le (by omega) (by omega)) h62)
    exact hK f fb (fun _ _ => rfl)
  | succ m ih =>
    intro i f g fa fb hi hi7 hK
    have e1 : nI i - kI 1 = nI (i - 1) := nI_sub1 (by omega)
    have hv : vp_in (nI i) 8 := vp_in_nI (by omega) (by omega)
    have hc : (nI i).toNatClampNeg = i := nI_clamp (by omega)
    have hv1 : vp_in (nI i - kI 1) 8 := by rw [e1]; exact vp_in_nI (by omega) (by omega)
    have hc1 : (nI i - kI 1).toNatClampNeg = i - 1 := by rw [e1]; exact nI_clamp (by omega)
    refine tf_blk _ b_Heights_add_60 rfl ?_
    refine tf_ic_le 85 65 d_Heights_add_62 rfl rfl (fun h62 => absurd h62 (nI_ge (by omega) (by omega))) (fun h62 => ?_)
    refine tf_blk _ b_Heights_add_65 rfl ?_
    refine tf_get (fs := ?fs_66_19) (v := ?v_66_19) 69 d_Heights_add_66 rfl fl_Heights_9 ?ha_66_19 ?hf_66_19 ?hv_66_19 ?kk_66_19
    case ha_66_19 => first | assumption | (simp only [List.mem_append, List.mem_singleton]; simp [*])
    case hf_66_19 => first | assumption | exact va_up_self _ _ _ | (refine tf_u (by first | assumption | (apply Ne.symm; assumption) | (intro hh; subst hh; contradiction) | exact tf_n1 (by assumption) (by assumption) | exact tf_n2 (by assumption) (by assumption)) ?_; first | assumption | exact va_up_self _ _ _ | (refine tf_u (by first | assumption | (apply Ne.symm; assumption) | (intro hh; subst hh; contradiction) | exact tf_n1 (by assumption) (by assumption) | exact tf_n2 (by assumption) (by assumption)) ?_; first | assumption | exact va_up_self _ _ _ | (refine tf_u (by first | assumption | (apply Ne.symm; assumption) | (intro hh; subst hh; contradiction) | exact tf_n1 (by assumption) (by assumption) | exact tf_n2 (by assumption) (by assumption)) ?_; first | assumption | exact va_up_self _ _ _ | (refine tf_u (by first | assumption | (apply Ne.symm; assumption) | (intro hh; subst hh; contradiction) | exact tf_n1 (by assumption) (by assumption) | exact tf_n2 (by assumption) (by assumption)) ?_; first | assumption | exact va_up_self _ _ _ | (refine tf_u (by first | assumption | (apply Ne.symm; assumption) | (intro hh; subst hh; contradiction) | exact tf_n1 (by assumption) (by assumption) | exact tf_n2 (by assumption) (by assumption)) ?_; first | assumption | exact va_up_self _ _ _)))))
    case hv_66_19 => rfl
    refine tf_blk _ b_Heights_add_69 rfl ?_
    refine tf_get (fs := ?fs_71_20) (v := ?v_71_20) 74 d_Heights_add_71 rfl fl_Heights_9 ?ha_71_20 ?hf_71_20 ?hv_71_20 ?kk_71_20
    case ha_71_20 => first | assumption | (simp only [List.mem_append, List.mem_singleton]; simp [*])
    case hf_71_20 => first | assumption | exact va_up_self _ _ _ | (refine tf_u (by first | assumption | (apply Ne.symm; assumption) | (intro hh; subst hh; contradiction) | exact tf_n1 (by assumption) (by assumption) | exact tf_n2 (by assumption) (by assumption)) ?_; first | assumption | exact va_up_self _ _ _ | (refine tf_u (by first | assumption | (apply Ne.symm; assumption) | (intro hh; subst hh; contradiction) | exact tf_n1 (by assumption) (by assumption) | exact tf_n2 (by assumption) (by assumption)) ?_; first | assumption | exact va_up_self _ _ _ | (refine tf_u (by first | assumption | (apply Ne.symm; assumption) | (intro hh; subst hh; contradiction) | exact tf_n1 (by assumption) (by assumption) | exact tf_n2 (by assumption) (by assumption)) ?_; first | assumption | exact va_up_self _ _ _ | (refine tf_u (by first | assumption | (apply Ne.symm; assumption) | (intro hh; subst hh; contradiction) | exact tf_n1 (by assumption) (by assumption) | exact tf_n2 (by assumption) (by assumption)) ?_; first | assumption | exact va_up_self _ _ _ | (refine tf_u (by first | assumption | (apply Ne.symm; assumption) | (intro hh; subst hh; contradiction) | exact tf_n1 (by assumption) (by assumption) | exact tf_n2 (by assumption) (by assumption)) ?_; first | assumption | exact va_up_self _ _ _)))))
    case hv_71_20 => rfl
    refine tf_blk _ b_Heights_add_74 rfl ?_
    refine tf_iald (n := ?n_77_21) (g := ?g_77_21) 78 0 d_Heights_add_77 rfl rfl ?ha_77_21 ?hf_77_21 ?hi_77_21 ?kk_77_21
    case ha_77_21 => first | assumption | (simp only [List.mem_append, List.mem_singleton]; simp [*])
    case hf_77_21 => first | assumption | exact va_up_self _ _ _ | (refine tf_u (by first | assumption | (apply Ne.symm; assumption) | (intro hh; subst hh; contradiction) | exact tf_n1 (by assumption) (by assumption) | exact tf_n2 (by assumption) (by assumption)) ?_; first | assumption | exact va_up_self _ _ _ | (refine tf_u (by first | assumption | (apply Ne.symm; assumption) | (intro hh; subst hh; contradiction) | exact tf_n1 (by assumption) (by assumption) | exact tf_n2 (by assumption) (by assumption)) ?_; first | assumption | exact va_up_self _ _ _ | (refine tf_u (by first | assumption | (apply Ne.symm; assumption) | (intro hh; subst hh; contradiction) | exact tf_n1 (by assumption) (by assumption) | exact tf_n2 (by assumption) (by assumption)) ?_; first | assumption | exact va_up_self _ _ _ | (refine tf_u (by first | assumption | (apply Ne.symm; assumption) | (intro hh; subst hh; contradiction) | exact tf_n1 (by assumption) (by assumption) | exact tf_n2 (by assumption) (by assumption)) ?_; first | assumption | exact va_up_self _ _ _ | (refine tf_u (by first | assumption | (apply Ne.symm; assumption) | (intro hh; subst hh; contradiction) | exact tf_n1 (by assumption) (by assumption) | exact tf_n2 (by assumption) (by assumption)) ?_; first | assumption | exact va_up_self _ _ _)))))
    case hi_77_21 => exact hv1
    refine tf_iast (n := ?n_78_22) (g := ?g_78_22) 79 0 d_Heights_add_78 rfl rfl ?ha_78_22 ?hf_78_22 ?hi_78_22 ?kk_78_22
    case ha_78_22 => first | assumption | (simp only [List.mem_append, List.mem_singleton]; simp [*])
    case hf_78_22 => first | assumption | exact va_up_self _ _ _ | (refine tf_u (by first | assumption | (apply Ne.symm; assumption) | (intro hh; subst hh; contradiction) | exact tf_n1 (by assumption) (by assumption) | exact tf_n2 (by assumption) (by assumption)) ?_; first | assumption | exact va_up_self _ _ _ | (refine tf_u (by first | assumption | (apply Ne.symm; assumption) | (intro hh; subst hh; contradiction) | exact tf_n1 (by assumption) (by assumption) | exact tf_n2 (by assumption) (by assumption)) ?_; first | assumption | exact va_up_self _ _ _ | (refine tf_u (by first | assumption | (apply Ne.symm; assumption) | (intro hh; subst hh; contradiction) | exact tf_n1 (by assumption) (by assumption) | exact tf_n2 (by assumption) (by assumption)) ?_; first | assumption | exact va_up_self _ _ _ | (refine tf_u (by first | assumption | (apply Ne.symm; assumption) | (intro hh; subst hh; contradiction) | exact tf_n1 (by assumption) (by assumption) | exact tf_n2 (by assumption) (by assumption)) ?_; first | assumption | exact va_up_self _ _ _ | (refine tf_u (by first | assumption | (apply Ne.symm; assumption) | (intro hh; subst hh; contradiction) | exact tf_n1 (by assumption) (by assumption) | exact tf_n2 (by assumption) (by assumption)) ?_; first | assumption | exact va_up_self _ _ _)))))
    case hi_78_22 => exact hv
    refine tf_blk _ b_Heights_add_79 rfl ?_
    refine tf_goto 60 d_Heights_add_82 rfl ?_
    rw [hc, hc1]
    have h9 := ih (i - 1) (va_up f b (ti q 8 (upd g i (g (i - 1))))) (upd g i (g (i - 1))) (tf_u (tf_n1 fa fb) fa) (va_up_self _ _ _) (by omega) (by omega) (fun f2 k1 k2 => hK f2 k1 (fun z hz => (k2 z hz).trans (va_up_ne _ _ hz)))
    rw [← nI_subm (by omega)] at h9
    exact h9
set_option maxHeartbeats 4000000 in
set_option maxRecDepth 100000 in
theorem c_Heights_add (y : Int32) {a b n : Nat} {g : Nat → Int32} (hn : n ≤ 8) (ha : a ∈ L) (fa : f a = to 4 [.int (nI n), .ref b]) (hb : b ∈ L) (fb : f b = ti q 8 g) : tf_C l (tf_H D q) d i_Heights_add [.ref a, .int y] L f 0 0 (fun v L2 f2 => L2 = L ∧ ((n < 8 ∧ ¬ (tw_hat g y n 0 < n ∧ g (tw_hat g y n 0) = y) ∧ v = some (.int (kI 1)) ∧ f2 = va_up (va_up f b (ti q 8 (upd (tw_up1 g (n - tw_hat g y n 0) n) (tw_hat g y n 0) y))) a (to 4 [.int (nI (n + 1)), .ref b])) ∨ (¬ (n < 8 ∧ ¬ (tw_hat g y n 0 < n ∧ g (tw_hat g y n 0) = y)) ∧ v = some (.int (kI 0)) ∧ f2 = f))) := by
  refine tf_C.of (tf_gok _ _) (by decide) w_273 (Nat.le_of_ble_eq_true rfl) ?_
  refine tf_blk _ b_Heights_add_0 rfl ?_
  refine t_Heights_add1 l D q d L f y hn ha fa hb fb n 0 (by omega) ?_
  have hp := (tw_hat_le g y n 0).2
  generalize tw_hat g y n 0 = p at hp ⊢
  refine tf_blk _ b_Heights_add_26 rfl ?_
  refine tf_get (fs := ?fs_27_23) (v := ?v_27_23) 30 d_Heights_add_27 rfl fl_Heights_15 ?ha_27_23 ?hf_27_23 ?hv_27_23 ?kk_27_23
  case ha_27_23 => first | assumption | (simp only [List.mem_append, List.mem_singleton]; simp [*])
  case hf_27_23 => first | assumption | exact va_up_self _ _ _ | (refine tf_u (by first | assumption | (apply Ne.symm; assumption) | (intro hh; subst hh; contradiction) | exact tf_n1 (by assumption) (by assumption) | exact tf_n2 (by assumption) (by assumption)) ?_; first | assumption | exact va_up_self _ _ _ | (refine tf_u (by first | assumption | (apply Ne.symm; assumption) | (intro hh; subst hh; contradiction) | exact tf_n1 (by assumption) (by assumption) | exact tf_n2 (by assumption) (by assumption)) ?_; first | assumption | exact va_up_self _ _ _ | (refine tf_u (by first | assumption | (apply Ne.symm; assumption) | (intro hh; subst hh; contradiction) | exact tf_n1 (by assumption) (by assumption) | exact tf_n2 (by assumption) (by assumption)) ?_; first | assumption | exact va_up_self _ _ _ | (refine tf_u (by first | assumption | (apply Ne.symm; assumption) | (intro hh; subst hh; contradiction) | exact tf_n1 (by assumption) (by assumption) | exact tf_n2 (by assumption) (by assumption)) ?_; first | assumption | exact va_up_self _ _ _ | (refine tf_u (by first | assumption | (apply Ne.symm; assumption) | (intro hh; subst hh; contradiction) | exact tf_n1 (by assumption) (by assumption) | exact tf_n2 (by assumption) (by assumption)) ?_; first | assumption | exact va_up_self _ _ _)))))
  case hv_27_23 => rfl
  refine tf_blk _ b_Heights_add_30 rfl ?_
  refine tf_ic_ge 53 35 d_Heights_add_32 rfl rfl (fun h32 => ?_) (fun h32 => ?_)
  · refine tf_blk _ b_Heights_add_53 rfl ?_
    refine tf_zret d_Heights_add_54 rfl (rfl) ?_
    refine ⟨rfl, Or.inr ⟨?_, rfl, rfl⟩⟩
    rintro ⟨z1, z2⟩
    first
    | exact absurd ((nI_leI (a := 8) (b := n) (by omega) (by omega)).mp h32) (by omega)
    | exact z2 ⟨by have := mt (nI_leI (a := n) (b := p) (by omega) (by omega)).mpr h40; omega, by rw [nI_clamp (by omega)] at h50; first | exact h50 | exact Classical.not_not.mp h50⟩
  · refine tf_blk _ b_Heights_add_35 rfl ?_
    refine tf_get (fs := ?fs_37_25) (v := ?v_37_25) 40 d_Heights_add_37 rfl fl_Heights_15 ?ha_37_25 ?hf_37_25 ?hv_37_25 ?kk_37_25
    case ha_37_25 => first | assumption | (simp only [List.mem_append, List.mem_singleton]; simp [*])
    case hf_37_25 => first | assumption | exact va_up_self _ _ _ | (refine tf_u (by first | assumption | (apply Ne.symm; assumption) | (intro hh; subst hh; contradiction) | exact tf_n1 (by assumption) (by assumption) | exact tf_n2 (by assumption) (by assumption)) ?_; first | assumption | exact va_up_self _ _ _ | (refine tf_u (by first | assumption | (apply Ne.symm; assumption) | (intro hh; subst hh; contradiction) | exact tf_n1 (by assumption) (by assumption) | exact tf_n2 (by assumption) (by assumption)) ?_; first | assumption | exact va_up_self _ _ _ | (refine tf_u (by first | assumption | (apply Ne.symm; assumption) | (intro hh; subst hh; contradiction) | exact tf_n1 (by assumption) (by assumption) | exact tf_n2 (by assumption) (by assumption)) ?_; first | assumption | exact va_up_self _ _ _ | (refine tf_u (by first | assumption | (apply Ne.symm; assumption) | (intro hh; subst hh; contradiction) | exact tf_n1 (by assumption) (by assumption) | exact tf_n2 (by assumption) (by assumption)) ?_; first | assumption | exact va_up_self _ _ _ | (refine tf_u (by first | assumption | (apply Ne.symm; assumption) | (intro hh; subst hh; contradiction) | exact tf_n1 (by assumption) (by assumption) | exact tf_n2 (by assumption) (by assumption)) ?_; first | assumption | exact va_up_self _ _ _)))))
    case hv_37_25 => rfl
    refine tf_ic_ge 55 43 d_Heights_add_40 rfl rfl (fun h40 => ?_) (fun h40 => ?_)
    · refine tf_blk _ b_Heights_add_55 rfl ?_
      refine tf_get (fs := ?fs_56_26) (v := ?v_56_26) 59 d_Heights_add_56 rfl fl_Heights_15 ?ha_56_26 ?hf_56_26 ?hv_56_26 ?kk_56_26
      case ha_56_26 => first | assumption | (simp only [List.mem_append, List.mem_singleton]; simp [*])
      case hf_56_26 => first | assumption | exact va_up_self _ _ _ | (refine tf_u (by first | assumption | (apply Ne.symm; assumption) | (intro hh; subst hh; contradiction) | exact tf_n1 (by assumption) (by assumption) | exact tf_n2 (by assumption) (by assumption)) ?_; first | assumption | exact va_up_self _ _ _ | (refine tf_u (by first | assumption | (apply Ne.symm; assumption) | (intro hh; subst hh; contradiction) | exact tf_n1 (by assumption) (by assumption) | exact tf_n2 (by assumption) (by assumption)) ?_; first | assumption | exact va_up_self _ _ _ | (refine tf_u (by first | assumption | (apply Ne.symm; assumption) | (intro hh; subst hh; contradiction) | exact tf_n1 (by assumption) (by assumption) | exact tf_n2 (by assumption) (by assumption)) ?_; first | assumption | exact va_up_self _ _ _ | (refine tf_u (by first | assumption | (apply Ne.symm; assumption) | (intro hh; subst hh; contradiction) | exact tf_n1 (by assumption) (by assumption) | exact tf_n2 (by assumption) (by assumption)) ?_; first | assumption | exact va_up_self _ _ _ | (refine tf_u (by first | assumption | (apply Ne.symm; assumption) | (intro hh; subst hh; contradiction) | exact tf_n1 (by assumption) (by assumption) | exact tf_n2 (by assumption) (by assumption)) ?_; first | assumption | exact va_up_self _ _ _)))))
      case hv_56_26 => rfl
      refine tf_blk _ b_Heights_add_59 rfl ?_
      refine t_Heights_add2 l D q d L y ha hb (n - p) n f g fa fb (by omega) (by have := mt (nI_leI (a := 8) (b := n) (by omega) (by omega)).mpr h32; omega) (fun f2 k1 k2 => ?_)
      have fa2 : f2 a = to 4 [.int (nI n), .ref b] := (k2 a (tf_n1 fa fb)).trans fa
      refine tf_blk _ b_Heights_add_85 rfl ?_
      refine tf_get (fs := ?fs_86_27) (v := ?v_86_27) 89 d_Heights_add_86 rfl fl_Heights_9 ?ha_86_27 ?hf_86_27 ?hv_86_27 ?kk_86_27
      case ha_86_27 => first | assumption | (simp only [List.mem_append, List.mem_singleton]; simp [*])
      case hf_86_27 => exact fa2
      case hv_86_27 => rfl
      refine tf_blk _ b_Heights_add_89 rfl ?_
      refine tf_iast (n := ?n_91_28) (g := ?g_91_28) 92 0 d_Heights_add_91 rfl rfl ?ha_91_28 ?hf_91_28 ?hi_91_28 ?kk_91_28
      case ha_91_28 => first | assumption | (simp only [List.mem_append, List.mem_singleton]; simp [*])
      case hf_91_28 => first | assumption | exact va_up_self _ _ _ | (refine tf_u (by first | assumption | (apply Ne.symm; assumption) | (intro hh; subst hh; contradiction) | exact tf_n1 (by assumption) (by assumption) | exact tf_n2 (by assumption) (by assumption)) ?_; first | assumption | exact va_up_self _ _ _ | (refine tf_u (by first | assumption | (apply Ne.symm; assumption) | (intro hh; subst hh; contradiction) | exact tf_n1 (by assumption) (by assumption) | exact tf_n2 (by assumption) (by assumption)) ?_; first | assumption | exact va_up_self _ _ _ | (refine tf_u (by first | assumption | (apply Ne.symm; assumption) | (intro hh; subst hh; contradiction) | exact tf_n1 (by assumption) (by assumption) | exact tf_n2 (by assumption) (by assumption)) ?_; first | assumption | exact va_up_self _ _ _ | (refine tf_u (by first | assumption | (apply Ne.symm; assumption) | (intro hh; subst hh; contradiction) | exact tf_n1 (by assumption) (by assumption) | exact tf_n2 (by assumption) (by assumption)) ?_; first | assumption | exact va_up_self _ _ _ | (refine tf_u (by first | assumption | (apply Ne.symm; assumption) | (intro hh; subst hh; contradiction) | exact tf_n1 (by assumption) (by assumption) | exact tf_n2 (by assumption) (by assumption)) ?_; first | assumption | exact va_up_self _ _ _)))))
      case hi_91_28 => exact vp_in_nI (by have := mt (nI_leI (a := 8) (b := n) (by omega) (by omega)).mpr h32; omega) (by omega)
      refine tf_blk _ b_Heights_add_92 rfl ?_
      refine tf_get (fs := ?fs_94_29) (v := ?v_94_29) 97 d_Heights_add_94 rfl fl_Heights_15 ?ha_94_29 ?hf_94_29 ?hv_94_29 ?kk_94_29
      case ha_94_29 => first | assumption | (simp only [List.mem_append, List.mem_singleton]; simp [*])
      case hf_94_29 => first | assumption | exact va_up_self _ _ _ | (refine tf_u (by first | assumption | (apply Ne.symm; assumption) | (intro hh; subst hh; contradiction) | exact tf_n1 (by assumption) (by assumption) | exact tf_n2 (by assumption) (by assumption)) ?_; first | assumption | exact va_up_self _ _ _ | (refine tf_u (by first | assumption | (apply Ne.symm; assumption) | (intro hh; subst hh; contradiction) | exact tf_n1 (by assumption) (by assumption) | exact tf_n2 (by assumption) (by assumption)) ?_; first | assumption | exact va_up_self _ _ _ | (refine tf_u (by first | assumption | (apply Ne.symm; assumption) | (intro hh; subst hh; contradiction) | exact tf_n1 (by assumption) (by assumption) | exact tf_n2 (by assumption) (by assumption)) ?_; first | assumption | exact va_up_self _ _ _ | (refine tf_u (by first | assumption | (apply Ne.symm; assumption) | (intro hh; subst hh; contradiction) | exact tf_n1 (by assumption) (by assumption) | exact tf_n2 (by assumption) (by assumption)) ?_; first | assumption | exact va_up_self _ _ _ | (refine tf_u (by first | assumption | (apply Ne.symm; assumption) | (intro hh; subst hh; contradiction) | exact tf_n1 (by assumption) (by assumption) | exact tf_n2 (by assumption) (by assumption)) ?_; first | assumption | exact va_up_self _ _ _)))))
      case hv_94_29 => rfl
      refine tf_blk _ b_Heights_add_97 rfl ?_
      refine tf_put (fs := ?fs_99_30) 102 d_Heights_add_99 rfl fw_Heights_15 ?ha_99_30 ?hf_99_30 ?hl_99_30 ?hn_99_30 ?ht_99_30 ?kk_99_30
      case ha_99_30 => first | assumption | (simp only [List.mem_append, List.mem_singleton]; simp [*])
      case hf_99_30 => first | assumption | exact va_up_self _ _ _ | (refine tf_u (by first | assumption | (apply Ne.symm; assumption) | (intro hh; subst hh; contradiction) | exact tf_n1 (by assumption) (by assumption) | exact tf_n2 (by assumption) (by assumption)) ?_; first | assumption | exact va_up_self _ _ _ | (refine tf_u (by first | assumption | (apply Ne.symm; assumption) | (intro hh; subst hh; contradiction) | exact tf_n1 (by assumption) (by assumption) | exact tf_n2 (by assumption) (by assumption)) ?_; first | assumption | exact va_up_self _ _ _ | (refine tf_u (by first | assumption | (apply Ne.symm; assumption) | (intro hh; subst hh; contradiction) | exact tf_n1 (by assumption) (by assumption) | exact tf_n2 (by assumption) (by assumption)) ?_; first | assumption | exact va_up_self _ _ _ | (refine tf_u (by first | assumption | (apply Ne.symm; assumption) | (intro hh; subst hh; contradiction) | exact tf_n1 (by assumption) (by assumption) | exact tf_n2 (by assumption) (by assumption)) ?_; first | assumption | exact va_up_self _ _ _ | (refine tf_u (by first | assumption | (apply Ne.symm; assumption) | (intro hh; subst hh; contradiction) | exact tf_n1 (by assumption) (by assumption) | exact tf_n2 (by assumption) (by assumption)) ?_; first | assumption | exact va_up_self _ _ _)))))
      case hl_99_30 => exact Nat.le_of_ble_eq_true rfl
      case hn_99_30 => rfl
      case ht_99_30 => rfl
      refine tf_blk _ b_Heights_add_102 rfl ?_
      refine tf_zret d_Heights_add_103 rfl (rfl) ?_
      refine ⟨rfl, Or.inl ⟨by have := mt (nI_leI (a := 8) (b := n) (by omega) (by omega)).mpr h32; omega, ?_, rfl, ?_⟩⟩
      · rintro ⟨z1, z2⟩
        first
        | exact absurd z1 (by have := (nI_leI (a := n) (b := p) (by omega) (by omega)).mp h40; omega)
        | exact h50 (by rw [nI_clamp (by omega)]; exact z2)
      · rw [nI_clamp (show p < 2 ^ 31 by omega), nI_succ]
        funext z
        by_cases z1 : z = a
        · subst z1; rw [va_up_self, va_up_self]; rfl
        · rw [va_up_ne _ _ z1, va_up_ne _ _ z1]
          by_cases z2 : z = b
          · subst z2; rw [va_up_self, va_up_self]
          · rw [va_up_ne _ _ z2, va_up_ne _ _ z2]; exact k2 z z2
    · refine tf_blk _ b_Heights_add_43 rfl ?_
      refine tf_get (fs := ?fs_44_32) (v := ?v_44_32) 47 d_Heights_add_44 rfl fl_Heights_9 ?ha_44_32 ?hf_44_32 ?hv_44_32 ?kk_44_32
      case ha_44_32 => first | assumption | (simp only [List.mem_append, List.mem_singleton]; simp [*])
      case hf_44_32 => first | assumption | exact va_up_self _ _ _ | (refine tf_u (by first | assumption | (apply Ne.symm; assumption) | (intro hh; subst hh; contradiction) | exact tf_n1 (by assumption) (by assumption) | exact tf_n2 (by assumption) (by assumption)) ?_; first | assumption | exact va_up_self _ _ _ | (refine tf_u (by first | assumption | (apply Ne.symm; assumption) | (intro hh; subst hh; contradiction) | exact tf_n1 (by assumption) (by assumption) | exact tf_n2 (by assumption) (by assumption)) ?_; first | assumption | exact va_up_self _ _ _ | (refine tf_u (by first | assumption | (apply Ne.symm; assumption) | (intro hh; subst hh; contradiction) | exact tf_n1 (by assumption) (by assumption) | exact tf_n2 (by assumption) (by assumption)) ?_; first | assumption | exact va_up_self _ _ _ | (refine tf_u (by first | assumption | (apply Ne.symm; assumption) | (intro hh; subst hh; contradiction) | exact tf_n1 (by assumption) (by assumption) | exact tf_n2 (by assumption) (by assumption)) ?_; first | assumption | exact va_up_self _ _ _ | (refine tf_u (by first | assumption | (apply Ne.symm; assumption) | (intro hh; subst hh; contradiction) | exact tf_n1 (by assumption) (by assumption) | exact tf_n2 (by assumption) (by assumption)) ?_; first | assumption | exact va_up_self _ _ _)))))
      case hv_44_32 => rfl
      refine tf_blk _ b_Heights_add_47 rfl ?_
      refine tf_iald (n := ?n_48_33) (g := ?g_48_33) 49 0 d_Heights_add_48 rfl rfl ?ha_48_33 ?hf_48_33 ?hi_48_33 ?kk_48_33
      case ha_48_33 => first | assumption | (simp only [List.mem_append, List.mem_singleton]; simp [*])
      case hf_48_33 => first | assumption | exact va_up_self _ _ _ | (refine tf_u (by first | assumption | (apply Ne.symm; assumption) | (intro hh; subst hh; contradiction) | exact tf_n1 (by assumption) (by assumption) | exact tf_n2 (by assumption) (by assumption)) ?_; first | assumption | exact va_up_self _ _ _ | (refine tf_u (by first | assumption | (apply Ne.symm; assumption) | (intro hh; subst hh; contradiction) | exact tf_n1 (by assumption) (by assumption) | exact tf_n2 (by assumption) (by assumption)) ?_; first | assumption | exact va_up_self _ _ _ | (refine tf_u (by first | assumption | (apply Ne.symm; assumption) | (intro hh; subst hh; contradiction) | exact tf_n1 (by assumption) (by assumption) | exact tf_n2 (by assumption) (by assumption)) ?_; first | assumption | exact va_up_self _ _ _ | (refine tf_u (by first | assumption | (apply Ne.symm; assumption) | (intro hh; subst hh; contradiction) | exact tf_n1 (by assumption) (by assumption) | exact tf_n2 (by assumption) (by assumption)) ?_; first | assumption | exact va_up_self _ _ _ | (refine tf_u (by first | assumption | (apply Ne.symm; assumption) | (intro hh; subst hh; contradiction) | exact tf_n1 (by assumption) (by assumption) | exact tf_n2 (by assumption) (by assumption)) ?_; first | assumption | exact va_up_self _ _ _)))))
      case hi_48_33 => exact vp_in_nI (by have := mt (nI_leI (a := 8) (b := n) (by omega) (by omega)).mpr h32; omega) (by omega)
      refine tf_blk _ b_Heights_add_49 rfl ?_
      refine tf_ic_ne 55 53 d_Heights_add_50 rfl rfl (fun h50 => ?_) (fun h50 => ?_)
      · refine tf_blk _ b_Heights_add_55 rfl ?_
        refine tf_get (fs := ?fs_56_34) (v := ?v_56_34) 59 d_Heights_add_56 rfl fl_Heights_15 ?ha_56_34 ?hf_56_34 ?hv_56_34 ?kk_56_34
        case ha_56_34 => first | assumption | (simp only [List.mem_append, List.mem_singleton]; simp [*])
        case hf_56_34 => first | assumption | exact va_up_self _ _ _ | (refine tf_u (by first | assumption | (apply Ne.symm; assumption) | (intro hh; subst hh; contradiction) | exact tf_n1 (by assumption) (by assumption) | exact tf_n2 (by assumption) (by assumption)) ?_; first | assumption | exact va_up_self _ _ _ | (refine tf_u (by first | assumption | (apply Ne.symm; assumption) | (intro hh; subst hh; contradiction) | exact tf_n1 (by assumption) (by assumption) | exact tf_n2 (by assumption) (by assumption)) ?_; first | assumption | exact va_up_self _ _ _ | (refine tf_u (by first | assumption | (apply Ne.symm; assumption) | (intro hh; subst hh; contradiction) | exact tf_n1 (by assumption) (by assumption) | exact tf_n2 (by assumption) (by assumption)) ?_; first | assumption | exact va_up_self _ _ _ | (refine tf_u (by first | assumption | (apply Ne.symm; assumption) | (intro hh; subst hh; contradiction) | exact tf_n1 (by assumption) (by assumption) | exact tf_n2 (by assumption) (by assumption)) ?_; first | assumption | exact va_up_self _ _ _ | (refine tf_u (by first | assumption | (apply Ne.symm; assumption) | (intro hh; subst hh; contradiction) | exact tf_n1 (by assumption) (by assumption) | exact tf_n2 (by assumption) (by assumption)) ?_; first | assumption | exact va_up_self _ _ _)))))
        case hv_56_34 => rfl
        refine tf_blk _ b_Heights_add_59 rfl ?_
        refine t_Heights_add2 l D q d L y ha hb (n - p) n f g fa fb (by omega) (by have := mt (nI_leI (a := 8) (b := n) (by omega) (by omega)).mpr h32; omega) (fun f2 k1 k2 => ?_)
        have fa2 : f2 a = to 4 [.int (nI n), .ref b] := (k2 a (tf_n1 fa fb)).trans fa
        refine tf_blk _ b_Heights_add_85 rfl ?_
        refine tf_get (fs := ?fs_86_35) (v := ?v_86_35) 89 d_Heights_add_86 rfl fl_Heights_9 ?ha_86_35 ?hf_86_35 ?hv_86_35 ?kk_86_35
        case ha_86_35 => first | assumption | (simp only [List.mem_append, List.mem_singleton]; simp [*])
        case hf_86_35 => exact fa2
        case hv_86_35 => rfl
        refine tf_blk _ b_Heights_add_89 rfl ?_
        refine tf_iast (n := ?n_91_36) (g := ?g_91_36) 92 0 d_Heights_add_91 rfl rfl ?ha_91_36 ?hf_91_36 ?hi_91_36 ?kk_91_36
        case ha_91_36 => first | assumption | (simp only [List.mem_append, List.mem_singleton]; simp [*])
        case hf_91_36 => first | assumption | exact va_up_self _ _ _ | (refine tf_u (by first | assumption | (apply Ne.symm; assumption) | (intro hh; subst hh; contradiction) | exact tf_n1 (by assumption) (by assumption) | exact tf_n2 (by assumption) (by assumption)) ?_; first | assumption | exact va_up_self _ _ _ | (refine tf_u (by first | assumption | (apply Ne.symm; assumption) | (intro hh; subst hh; contradiction) | exact tf_n1 (by assumption) (by assumption) | exact tf_n2 (by assumption) (by assumption)) ?_; first | assumption | exact va_up_self _ _ _ | (refine tf_u (by first | assumption | (apply Ne.symm; assumption) | (intro hh; subst hh; contradiction) | exact tf_n1 (by assumption) (by assumption) | exact tf_n2 (by assumption) (by assumption)) ?_; first | assumption | exact va_up_self _ _ _ | (refine tf_u (by first | assumption | (apply Ne.symm; assumption) | (intro hh; subst hh; contradiction) | exact tf_n1 (by assumption) (by assumption) | exact tf_n2 (by assumption) (by assumption)) ?_; first | assumption | exact va_up_self _ _ _ | (refine tf_u (by first | assumption | (apply Ne.symm; assumption) | (intro hh; subst hh; contradiction) | exact tf_n1 (by assumption) (by assumption) | exact tf_n2 (by assumption) (by assumption)) ?_; first | assumption | exact va_up_self _ _ _)))))
        case hi_91_36 => exact vp_in_nI (by have := mt (nI_leI (a := 8) (b := n) (by omega) (by omega)).mpr h32; omega) (by omega)
        refine tf_blk _ b_Heights_add_92 rfl ?_
        refine tf_get (fs := ?fs_94_37) (v := ?v_94_37) 97 d_Heights_add_94 rfl fl_Heights_15 ?ha_94_37 ?hf_94_37 ?hv_94_37 ?kk_94_37
        case ha_94_37 => first | assumption | (simp only [List.mem_append, List.mem_singleton]; simp [*])
        case hf_94_37 => first | assumption | exact va_up_self _ _ _ | (refine tf_u (by first | assumption | (apply Ne.symm; assumption) | (intro hh; subst hh; contradiction) | exact tf_n1 (by assumption) (by assumption) | exact tf_n2 (by assumption) (by assumption)) ?_; first | assumption | exact va_up_self _ _ _ | (refine tf_u (by first | assumption | (apply Ne.symm; assumption) | (intro hh; subst hh; contradiction) | exact tf_n1 (by assumption) (by assumption) | exact tf_n2 (by assumption) (by assumption)) ?_; first | assumption | exact va_up_self _ _ _ | (refine tf_u (by first | assumption | (apply Ne.symm; assumption) | (intro hh; subst hh; contradiction) | exact tf_n1 (by assumption) (by assumption) | exact tf_n2 (by assumption) (by assumption)) ?_; first | assumption | exact va_up_self _ _ _ | (refine tf_u (by first | assumption | (apply Ne.symm; assumption) | (intro hh; subst hh; contradiction) | exact tf_n1 (by assumption) (by assumption) | exact tf_n2 (by assumption) (by assumption)) ?_; first | assumption | exact va_up_self _ _ _ | (refine tf_u (by first | assumption | (apply Ne.symm; assumption) | (intro hh; subst hh; contradiction) | exact tf_n1 (by assumption) (by assumption) | exact tf_n2 (by assumption) (by assumption)) ?_; first | assumption | exact va_up_self _ _ _)))))
        case hv_94_37 => rfl
        refine tf_blk _ b_Heights_add_97 rfl ?_
        refine tf_put (fs := ?fs_99_38) 102 d_Heights_add_99 rfl fw_Heights_15 ?ha_99_38 ?hf_99_38 ?hl_99_38 ?hn_99_38 ?ht_99_38 ?kk_99_38
        case ha_99_38 => first | assumption | (simp only [List.mem_append, List.mem_singleton]; simp [*])
        case hf_99_38 => first | assumption | exact va_up_self _ _ _ | (refine tf_u (by first | assumption | (apply Ne.symm; assumption) | (intro hh; subst hh; contradiction) | exact tf_n1 (by assumption) (by assumption) | exact tf_n2 (by assumption) (by assumption)) ?_; first | assumption | exact va_up_self _ _ _ | (refine tf_u (by first | assumption | (apply Ne.symm; assumption) | (intro hh; subst hh; contradiction) | exact tf_n1 (by assumption) (by assumption) | exact tf_n2 (by assumption) (by assumption)) ?_; first | assumption | exact va_up_self _ _ _ | (refine tf_u (by first | assumption | (apply Ne.symm; assumption) | (intro hh; subst hh; contradiction) | exact tf_n1 (by assumption) (by assumption) | exact tf_n2 (by assumption) (by assumption)) ?_; first | assumption | exact va_up_self _ _ _ | (refine tf_u (by first | assumption | (apply Ne.symm; assumption) | (intro hh; subst hh; contradiction) | exact tf_n1 (by assumption) (by assumption) | exact tf_n2 (by assumption) (by assumption)) ?_; first | assumption | exact va_up_self _ _ _ | (refine tf_u (by first | assumption | (apply Ne.symm; assumption) | (intro hh; subst hh; contradiction) | exact tf_n1 (by assumption) (by assumption) | exact tf_n2 (by assumption) (by assumption)) ?_; first | assumption | exact va_up_self _ _ _)))))
        case hl_99_38 => exact Nat.le_of_ble_eq_true rfl
        case hn_99_38 => rfl
        case ht_99_38 => rfl
        refine tf_blk _ b_Heights_add_102 rfl ?_
        refine tf_zret d_Heights_add_103 rfl (rfl) ?_
        refine ⟨rfl, Or.inl ⟨by have := mt (nI_leI (a := 8) (b := n) (by omega) (by omega)).mpr h32; omega, ?_, rfl, ?_⟩⟩
        · rintro ⟨z1, z2⟩
          first
          | exact absurd z1 (by have := (nI_leI (a := n) (b := p) (by omega) (by omega)).mp h40; omega)
          | exact h50 (by rw [nI_clamp (by omega)]; exact z2)
        · rw [nI_clamp (show p < 2 ^ 31 by omega), nI_succ]
          funext z
          by_cases z1 : z = a
          · subst z1; rw [va_up_self, va_up_self]; rfl
          · rw [va_up_ne _ _ z1, va_up_ne _ _ z1]
            by_cases z2 : z = b
            · subst z2; rw [va_up_self, va_up_self]
            · rw [va_up_ne _ _ z2, va_up_ne _ _ z2]; exact k2 z z2
      · refine tf_blk _ b_Heights_add_53 rfl ?_
        refine tf_zret d_Heights_add_54 rfl (rfl) ?_
        refine ⟨rfl, Or.inr ⟨?_, rfl, rfl⟩⟩
        rintro ⟨z1, z2⟩
        first
        | exact absurd ((nI_leI (a := 8) (b := n) (by omega) (by omega)).mp h32) (by omega)
        | exact z2 ⟨by have := mt (nI_leI (a := n) (b := p) (by omega) (by omega)).mpr h40; omega, by rw [nI_clamp (by omega)] at h50; first | exact h50 | exact Classical.not_not.mp h50⟩
end
