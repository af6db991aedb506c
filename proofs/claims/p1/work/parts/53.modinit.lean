/-! the reference's constructor -/
theorem tf_E.upd {x : Nat} {L L1 : List Nat} {f f1 : tf_F} {qs : List (Nat × va_E)} {o : va_E} (hx : x ∈ L) (h : tf_E x L f qs L1 f1) : tf_E x L f qs L1 (va_up f1 x o) := by
  have := h.add (rs := []) (f2 := va_up f1 x o) (L2 := L1) hx (by simp) (fun _ h9 => (List.not_mem_nil h9).elim) List.nodup_nil (fun _ h9 => (List.not_mem_nil h9).elim) (fun z _ hzx => va_up_ne _ _ hzx)
  rw [List.append_nil] at this
  exact this
def tm_G (g : Nat → Value) : List Value := (List.range 55).map g
theorem tm_G_len (g : Nat → Value) : (tm_G g).length = 55 := by simp [tm_G]
theorem tm_G_set {g : Nat → Value} {k : Nat} {v : Value} (_ : k < 55) : (tm_G g).set k v = tm_G (va_up g k v) := by
  apply List.ext_getElem
  · simp [tm_G]
  · intro n h1 h2
    rw [List.getElem_set]
    simp only [tm_G, List.getElem_map, List.getElem_range]
    by_cases e : k = n
    · subst e
      rw [if_pos rfl, va_up_self]
    · rw [if_neg e, va_up_ne _ _ (Ne.symm e)]
section
variable {l : Launch} {G : tf_G} {EX : State → (Nat → Prop) → Prop} {QB : tf_B} {d : Nat} {i : tf_I} {pc : Nat} {lv : tf_V} {st : List Value} {L L0 : List Nat} {f f0 : tf_F} {kc ks : Nat}
/-- a constructor makes an array and lays it into a final field -/
theorem tf_mkA {n : Int32} {N x ix ci k : Nat} {g : Nat → Value} {qs : List (Nat × va_E)} {atype : ArrayType} {ty : FieldType} {cA : ClassId} {a0 : vp_A} (nxt nx2 t0 : Nat) (hd : decode i.2.1 pc = .ok (.newarray atype, 2)) (hn : pc + 2 = nxt) (hty : newarray.typeOf atype = ty) (hw : Cond.arrayClass (newarray.typeOf atype) ∈ G.2.2.2.1) (ht : G.2.2.1[t0]? = some (cA, ty)) (h0 : ¬ n < 0) (hN : n.toNatClampNeg = N) (hby : N * componentBytes ty ≤ 536870912) (ha : ∀ cA : ClassId, vp_cell cA a0 = arrV cA N (fun _ => defaultValue ty))
    (hd2 : decode i.2.1 nxt = .ok (.putfield ix, 3)) (hn2 : nxt + 3 = nx2) (hF : tf_ff G i.1.cls ix ci k (.array ty)) (hini : i.1.name = "<init>") (hx0 : x ∈ L0) (hE : tf_E x L0 f0 qs L f) (fx : f x = .inr (ci, tm_G g)) (hk : k < 55)
    (kk : ∀ (q : Nat) (f2 : tf_F), tf_E x L0 f0 (qs ++ [(q, .inl (cA, a0))]) (L ++ [q]) f2 → f2 x = .inr (ci, tm_G (va_up g k (.ref q))) → tf_W l G EX QB d i nx2 lv st (L ++ [q]) f2 kc ks) : tf_W l G EX QB d i pc lv (.int n :: .ref x :: st) L f (kc + 1) (ks + N) := by
  refine tf_newa nxt t0 hd hn hty hw ht h0 hN hby ha (fun z hz => ?_)
  have hxz : x ≠ z := fun e => hz (e ▸ hE.x hx0)
  exact tf_putF nx2 hd2 hn2 hF hini (List.mem_append_left _ (hE.x hx0)) (tf_u hxz fx) (by rw [tm_G_len]; exact hk) rfl rfl (kk z _ (hE.one hx0 hz) (by rw [va_up_self, tm_G_set hk]))
end
def tm_ord : List Nat := [3, 4, 5, 6, 7, 8, 9, 10, 11, 12, 13, 14, 15, 16, 19, 20, 21, 22, 25, 26, 29, 31, 35, 36, 37, 38, 39, 40, 42, 43, 44, 45, 46, 49, 51]
def tm_new0 (q : Nat → ClassId) (ad : Nat → Nat) : List (Nat × va_E) := tm_ord.map (fun k => (ad k, tm_ar q k (fun _ => 0) (fun _ => 0)))
def tm_g0 (k : Nat) : Value := ([.int 0, .int 0, .int 0, .null, .null, .null, .null, .null, .null, .null, .null, .null, .null, .null, .null, .null, .null, .int 0, .int 0, .null, .null, .null, .null, .int 0, .int 0, .null, .null, .int 0, .int 0, .null, .int 0, .null, .int 0, .int 0, .int 0, .null, .null, .null, .null, .null, .null, .int 0, .null, .null, .null, .null, .null, .int 0, .int 0, .null, .int 0, .null, .int 0, .int 0, .int 0] : List Value).getD k .null
section
variable (l : Launch) (D : va_G) (q : Nat → ClassId) (d : Nat) (L : List Nat) (f : tf_F)
def tm_adl (l : List Nat) (n : Nat) : Nat := l.getD n 0
set_option maxRecDepth 100000 in
theorem tm_new0_of (q3 q4 q5 q6 q7 q8 q9 q10 q11 q12 q13 q14 q15 q16 q19 q20 q21 q22 q25 q26 q29 q31 q35 q36 q37 q38 q39 q40 q42 q43 q44 q45 q46 q49 q51 : Nat) : [(q3, .inl (q 0, 6400, .inl (fun _ => 0))), (q4, .inl (q 3, 1600, .inl (fun _ => 0))), (q5, .inl (q 0, 40, .inl (fun _ => 0))), (q6, .inl (q 0, 40, .inl (fun _ => 0))), (q7, .inl (q 0, 40, .inl (fun _ => 0))), (q8, .inl (q 0, 160, .inl (fun _ => 0))), (q9, .inl (q 1, 40, .inl (fun _ => 0))), (q10, .inl (q 0, 40, .inl (fun _ => 0))), (q11, .inl (q 0, 40, .inl (fun _ => 0))), (q12, .inl (q 0, 40, .inl (fun _ => 0))), (q13, .inl (q 0, 160, .inl (fun _ => 0))), (q14, .inl (q 0, 160, .inl (fun _ => 0))), (q15, .inl (q 0, 160, .inl (fun _ => 0))), (q16, .inl (q 0, 160, .inl (fun _ => 0))), (q19, .inl (q 0, 160, .inl (fun _ => 0))), (q20, .inl (q 0, 160, .inl (fun _ => 0))), (q21, .inl (q 1, 160, .inl (fun _ => 0))), (q22, .inl (q 0, 160, .inl (fun _ => 0))), (q25, .inl (q 0, 6, .inl (fun _ => 0))), (q26, .inl (q 0, 6, .inl (fun _ => 0))), (q29, .inl (q 0, 8, .inl (fun _ => 0))), (q31, .inl (q 0, 4096, .inl (fun _ => 0))), (q35, .inl (q 3, 40, .inl (fun _ => 0))), (q36, .inl (q 3, 40, .inl (fun _ => 0))), (q37, .inl (q 4, 256, .inl (fun _ => 0))), (q38, .inl (q 1, 256, .inl (fun _ => 0))), (q39, .inl (q 0, 40, .inl (fun _ => 0))), (q40, .inl (q 0, 40, .inl (fun _ => 0))), (q42, .inl (q 0, 40, .inl (fun _ => 0))), (q43, .inl (q 0, 40, .inl (fun _ => 0))), (q44, .inl (q 0, 40, .inl (fun _ => 0))), (q45, .inl (q 2, 40, .inr (.inl (fun _ => 0)))), (q46, .inl (q 0, 40, .inl (fun _ => 0))), (q49, .inl (q 0, 60, .inl (fun _ => 0))), (q51, .inl (q 0, 60, .inl (fun _ => 0)))] = tm_new0 q (tm_adl [0, 0, 0, q3, q4, q5, q6, q7, q8, q9, q10, q11, q12, q13, q14, q15, q16, 0, 0, q19, q20, q21, q22, 0, 0, q25, q26, 0, 0, q29, 0, q31, 0, 0, 0, q35, q36, q37, q38, q39, q40, 0, q42, q43, q44, q45, q46, 0, 0, q49, 0, q51, 0, 0, 0]) := rfl
set_option maxRecDepth 100000 in
set_option maxHeartbeats 1000000 in
theorem tm_G_of (q3 q4 q5 q6 q7 q8 q9 q10 q11 q12 q13 q14 q15 q16 q19 q20 q21 q22 q25 q26 q29 q31 q35 q36 q37 q38 q39 q40 q42 q43 q44 q45 q46 q49 q51 : Nat) : tm_G (va_up (va_up (va_up (va_up (va_up (va_up (va_up (va_up (va_up (va_up (va_up (va_up (va_up (va_up (va_up (va_up (va_up (va_up (va_up (va_up (va_up (va_up (va_up (va_up (va_up (va_up (va_up (va_up (va_up (va_up (va_up (va_up (va_up (va_up (va_up tm_g0 3 (.ref q3)) 4 (.ref q4)) 5 (.ref q5)) 6 (.ref q6)) 7 (.ref q7)) 8 (.ref q8)) 9 (.ref q9)) 10 (.ref q10)) 11 (.ref q11)) 12 (.ref q12)) 13 (.ref q13)) 14 (.ref q14)) 15 (.ref q15)) 16 (.ref q16)) 19 (.ref q19)) 20 (.ref q20)) 21 (.ref q21)) 22 (.ref q22)) 25 (.ref q25)) 26 (.ref q26)) 29 (.ref q29)) 31 (.ref q31)) 35 (.ref q35)) 36 (.ref q36)) 37 (.ref q37)) 38 (.ref q38)) 39 (.ref q39)) 40 (.ref q40)) 42 (.ref q42)) 43 (.ref q43)) 44 (.ref q44)) 45 (.ref q45)) 46 (.ref q46)) 49 (.ref q49)) 51 (.ref q51)) = tm_F (tm_adl [0, 0, 0, q3, q4, q5, q6, q7, q8, q9, q10, q11, q12, q13, q14, q15, q16, 0, 0, q19, q20, q21, q22, 0, 0, q25, q26, 0, 0, q29, 0, q31, 0, 0, 0, q35, q36, q37, q38, q39, q40, 0, q42, q43, q44, q45, q46, 0, 0, q49, 0, q51, 0, 0, 0]) (fun _ => 0) := rfl
theorem tm_F_set1 (ad : Nat → Nat) (J : Nat → Int32) (y : Int32) : (tm_F ad J).set 1 (.int y) = tm_F ad (upd J 1 y) := rfl
set_option maxHeartbeats 4000000 in
set_option maxRecDepth 100000 in
theorem c_Mod_init (hd : 1 ≤ d) {m : Nat} (y : Int32) (hm : m ∈ L) (fx : f m = to 11 [.int 0, .int 0, .int 0, .null, .null, .null, .null, .null, .null, .null, .null, .null, .null, .null, .null, .null, .null, .int 0, .int 0, .null, .null, .null, .null, .int 0, .int 0, .null, .null, .int 0, .int 0, .null, .int 0, .null, .int 0, .int 0, .int 0, .null, .null, .null, .null, .null, .null, .int 0, .null, .null, .null, .null, .null, .int 0, .int 0, .null, .int 0, .null, .int 0, .int 0, .int 0]) : tf_C l (tf_H D q) d i_Mod_init [.ref m, .int y] L f 35 14828 (fun v L2 f2 => ∃ ad : Nat → Nat, v = none ∧ tf_E m L f (tm_new0 q ad) L2 f2 ∧ f2 m = to 11 (tm_F ad (upd (fun _ => 0) 1 (tw_ms y)))) := by
  refine tf_C.of (tf_gok _ _) (by decide) w_1125 (Nat.le_of_ble_eq_true rfl) ?_
  have hE : tf_E m L f [] L f := tf_E.rf
  replace fx : f m = to 11 (tm_G tm_g0) := fx
  refine tf_blk _ b_Mod_init_0 rfl ?_
  refine tf_obj 4 d_Mod_init_1 rfl w_1126 wi_obj wc_obj (by omega) (by decide) ?_
  refine tf_blk _ b_Mod_init_4 rfl ?_
  refine tf_mkA (cA := q 0) (N := 6400) (a0 := (6400, .inl (fun _ => 0))) 10 13 0 d_Mod_init_8 rfl rfl wa_int rfl (by decide) (by decide) (by decide) (fun _ => rfl) d_Mod_init_10 rfl ff_Mod_7 rfl hm hE fx (by decide) (fun q3 f hE fx => ?_)
  refine tf_blk _ b_Mod_init_13 rfl ?_
  refine tf_mkA (cA := q 3) (N := 1600) (a0 := (1600, .inl (fun _ => 0))) 19 22 3 d_Mod_init_17 rfl rfl wa_byte rfl (by decide) (by decide) (by decide) (fun _ => rfl) d_Mod_init_19 rfl ff_Mod_13 rfl hm hE fx (by decide) (fun q4 f hE fx => ?_)
  refine tf_blk _ b_Mod_init_22 rfl ?_
  refine tf_mkA (cA := q 0) (N := 40) (a0 := (40, .inl (fun _ => 0))) 27 30 0 d_Mod_init_25 rfl rfl wa_int rfl (by decide) (by decide) (by decide) (fun _ => rfl) d_Mod_init_27 rfl ff_Mod_17 rfl hm hE fx (by decide) (fun q5 f hE fx => ?_)
  refine tf_blk _ b_Mod_init_30 rfl ?_
  refine tf_mkA (cA := q 0) (N := 40) (a0 := (40, .inl (fun _ => 0))) 35 38 0 d_Mod_init_33 rfl rfl wa_int rfl (by decide) (by decide) (by decide) (fun _ => rfl) d_Mod_init_35 rfl ff_Mod_20 rfl hm hE fx (by decide) (fun q6 f hE fx => ?_)
  refine tf_blk _ b_Mod_init_38 rfl ?_
  refine tf_mkA (cA := q 0) (N := 40) (a0 := (40, .inl (fun _ => 0))) 43 46 0 d_Mod_init_41 rfl rfl wa_int rfl (by decide) (by decide) (by decide) (fun _ => rfl) d_Mod_init_43 rfl ff_Mod_23 rfl hm hE fx (by decide) (fun q7 f hE fx => ?_)
  refine tf_blk _ b_Mod_init_46 rfl ?_
  refine tf_mkA (cA := q 0) (N := 160) (a0 := (160, .inl (fun _ => 0))) 52 55 0 d_Mod_init_50 rfl rfl wa_int rfl (by decide) (by decide) (by decide) (fun _ => rfl) d_Mod_init_52 rfl ff_Mod_26 rfl hm hE fx (by decide) (fun q8 f hE fx => ?_)
  refine tf_blk _ b_Mod_init_55 rfl ?_
  refine tf_mkA (cA := q 1) (N := 40) (a0 := (40, .inl (fun _ => 0))) 60 63 1 d_Mod_init_58 rfl rfl wa_boolean rfl (by decide) (by decide) (by decide) (fun _ => rfl) d_Mod_init_60 rfl ff_Mod_29 rfl hm hE fx (by decide) (fun q9 f hE fx => ?_)
  refine tf_blk _ b_Mod_init_63 rfl ?_
  refine tf_mkA (cA := q 0) (N := 40) (a0 := (40, .inl (fun _ => 0))) 68 71 0 d_Mod_init_66 rfl rfl wa_int rfl (by decide) (by decide) (by decide) (fun _ => rfl) d_Mod_init_68 rfl ff_Mod_33 rfl hm hE fx (by decide) (fun q10 f hE fx => ?_)
  refine tf_blk _ b_Mod_init_71 rfl ?_
  refine tf_mkA (cA := q 0) (N := 40) (a0 := (40, .inl (fun _ => 0))) 76 79 0 d_Mod_init_74 rfl rfl wa_int rfl (by decide) (by decide) (by decide) (fun _ => rfl) d_Mod_init_76 rfl ff_Mod_36 rfl hm hE fx (by decide) (fun q11 f hE fx => ?_)
  refine tf_blk _ b_Mod_init_79 rfl ?_
  refine tf_mkA (cA := q 0) (N := 40) (a0 := (40, .inl (fun _ => 0))) 84 87 0 d_Mod_init_82 rfl rfl wa_int rfl (by decide) (by decide) (by decide) (fun _ => rfl) d_Mod_init_84 rfl ff_Mod_39 rfl hm hE fx (by decide) (fun q12 f hE fx => ?_)
  refine tf_blk _ b_Mod_init_87 rfl ?_
  refine tf_mkA (cA := q 0) (N := 160) (a0 := (160, .inl (fun _ => 0))) 93 96 0 d_Mod_init_91 rfl rfl wa_int rfl (by decide) (by decide) (by decide) (fun _ => rfl) d_Mod_init_93 rfl ff_Mod_42 rfl hm hE fx (by decide) (fun q13 f hE fx => ?_)
  refine tf_blk _ b_Mod_init_96 rfl ?_
  refine tf_mkA (cA := q 0) (N := 160) (a0 := (160, .inl (fun _ => 0))) 102 105 0 d_Mod_init_100 rfl rfl wa_int rfl (by decide) (by decide) (by decide) (fun _ => rfl) d_Mod_init_102 rfl ff_Mod_45 rfl hm hE fx (by decide) (fun q14 f hE fx => ?_)
  refine tf_blk _ b_Mod_init_105 rfl ?_
  refine tf_mkA (cA := q 0) (N := 160) (a0 := (160, .inl (fun _ => 0))) 111 114 0 d_Mod_init_109 rfl rfl wa_int rfl (by decide) (by decide) (by decide) (fun _ => rfl) d_Mod_init_111 rfl ff_Mod_48 rfl hm hE fx (by decide) (fun q15 f hE fx => ?_)
  refine tf_blk _ b_Mod_init_114 rfl ?_
  refine tf_mkA (cA := q 0) (N := 160) (a0 := (160, .inl (fun _ => 0))) 120 123 0 d_Mod_init_118 rfl rfl wa_int rfl (by decide) (by decide) (by decide) (fun _ => rfl) d_Mod_init_120 rfl ff_Mod_51 rfl hm hE fx (by decide) (fun q16 f hE fx => ?_)
  refine tf_blk _ b_Mod_init_123 rfl ?_
  refine tf_mkA (cA := q 0) (N := 160) (a0 := (160, .inl (fun _ => 0))) 129 132 0 d_Mod_init_127 rfl rfl wa_int rfl (by decide) (by decide) (by decide) (fun _ => rfl) d_Mod_init_129 rfl ff_Mod_54 rfl hm hE fx (by decide) (fun q19 f hE fx => ?_)
  refine tf_blk _ b_Mod_init_132 rfl ?_
  refine tf_mkA (cA := q 0) (N := 160) (a0 := (160, .inl (fun _ => 0))) 138 141 0 d_Mod_init_136 rfl rfl wa_int rfl (by decide) (by decide) (by decide) (fun _ => rfl) d_Mod_init_138 rfl ff_Mod_57 rfl hm hE fx (by decide) (fun q20 f hE fx => ?_)
  refine tf_blk _ b_Mod_init_141 rfl ?_
  refine tf_mkA (cA := q 1) (N := 160) (a0 := (160, .inl (fun _ => 0))) 147 150 1 d_Mod_init_145 rfl rfl wa_boolean rfl (by decide) (by decide) (by decide) (fun _ => rfl) d_Mod_init_147 rfl ff_Mod_60 rfl hm hE fx (by decide) (fun q21 f hE fx => ?_)
  refine tf_blk _ b_Mod_init_150 rfl ?_
  refine tf_mkA (cA := q 0) (N := 160) (a0 := (160, .inl (fun _ => 0))) 156 159 0 d_Mod_init_154 rfl rfl wa_int rfl (by decide) (by decide) (by decide) (fun _ => rfl) d_Mod_init_156 rfl ff_Mod_63 rfl hm hE fx (by decide) (fun q22 f hE fx => ?_)
  refine tf_blk _ b_Mod_init_159 rfl ?_
  refine tf_mkA (cA := q 0) (N := 6) (a0 := (6, .inl (fun _ => 0))) 164 167 0 d_Mod_init_162 rfl rfl wa_int rfl (by decide) (by decide) (by decide) (fun _ => rfl) d_Mod_init_164 rfl ff_Mod_66 rfl hm hE fx (by decide) (fun q25 f hE fx => ?_)
  refine tf_blk _ b_Mod_init_167 rfl ?_
  refine tf_mkA (cA := q 0) (N := 6) (a0 := (6, .inl (fun _ => 0))) 172 175 0 d_Mod_init_170 rfl rfl wa_int rfl (by decide) (by decide) (by decide) (fun _ => rfl) d_Mod_init_172 rfl ff_Mod_69 rfl hm hE fx (by decide) (fun q26 f hE fx => ?_)
  refine tf_blk _ b_Mod_init_175 rfl ?_
  refine tf_mkA (cA := q 0) (N := 8) (a0 := (8, .inl (fun _ => 0))) 180 183 0 d_Mod_init_178 rfl rfl wa_int rfl (by decide) (by decide) (by decide) (fun _ => rfl) d_Mod_init_180 rfl ff_Mod_72 rfl hm hE fx (by decide) (fun q29 f hE fx => ?_)
  refine tf_blk _ b_Mod_init_183 rfl ?_
  refine tf_mkA (cA := q 0) (N := 4096) (a0 := (4096, .inl (fun _ => 0))) 189 192 0 d_Mod_init_187 rfl rfl wa_int rfl (by decide) (by decide) (by decide) (fun _ => rfl) d_Mod_init_189 rfl ff_Mod_75 rfl hm hE fx (by decide) (fun q31 f hE fx => ?_)
  refine tf_blk _ b_Mod_init_192 rfl ?_
  refine tf_mkA (cA := q 3) (N := 40) (a0 := (40, .inl (fun _ => 0))) 197 200 3 d_Mod_init_195 rfl rfl wa_byte rfl (by decide) (by decide) (by decide) (fun _ => rfl) d_Mod_init_197 rfl ff_Mod_78 rfl hm hE fx (by decide) (fun q35 f hE fx => ?_)
  refine tf_blk _ b_Mod_init_200 rfl ?_
  refine tf_mkA (cA := q 3) (N := 40) (a0 := (40, .inl (fun _ => 0))) 205 208 3 d_Mod_init_203 rfl rfl wa_byte rfl (by decide) (by decide) (by decide) (fun _ => rfl) d_Mod_init_205 rfl ff_Mod_81 rfl hm hE fx (by decide) (fun q36 f hE fx => ?_)
  refine tf_blk _ b_Mod_init_208 rfl ?_
  refine tf_mkA (cA := q 4) (N := 256) (a0 := (256, .inl (fun _ => 0))) 214 217 4 d_Mod_init_212 rfl rfl wa_short rfl (by decide) (by decide) (by decide) (fun _ => rfl) d_Mod_init_214 rfl ff_Mod_84 rfl hm hE fx (by decide) (fun q37 f hE fx => ?_)
  refine tf_blk _ b_Mod_init_217 rfl ?_
  refine tf_mkA (cA := q 1) (N := 256) (a0 := (256, .inl (fun _ => 0))) 223 226 1 d_Mod_init_221 rfl rfl wa_boolean rfl (by decide) (by decide) (by decide) (fun _ => rfl) d_Mod_init_223 rfl ff_Mod_88 rfl hm hE fx (by decide) (fun q38 f hE fx => ?_)
  refine tf_blk _ b_Mod_init_226 rfl ?_
  refine tf_mkA (cA := q 0) (N := 40) (a0 := (40, .inl (fun _ => 0))) 231 234 0 d_Mod_init_229 rfl rfl wa_int rfl (by decide) (by decide) (by decide) (fun _ => rfl) d_Mod_init_231 rfl ff_Mod_91 rfl hm hE fx (by decide) (fun q39 f hE fx => ?_)
  refine tf_blk _ b_Mod_init_234 rfl ?_
  refine tf_mkA (cA := q 0) (N := 40) (a0 := (40, .inl (fun _ => 0))) 239 242 0 d_Mod_init_237 rfl rfl wa_int rfl (by decide) (by decide) (by decide) (fun _ => rfl) d_Mod_init_239 rfl ff_Mod_94 rfl hm hE fx (by decide) (fun q40 f hE fx => ?_)
  refine tf_blk _ b_Mod_init_242 rfl ?_
  refine tf_mkA (cA := q 0) (N := 40) (a0 := (40, .inl (fun _ => 0))) 247 250 0 d_Mod_init_245 rfl rfl wa_int rfl (by decide) (by decide) (by decide) (fun _ => rfl) d_Mod_init_247 rfl ff_Mod_97 rfl hm hE fx (by decide) (fun q42 f hE fx => ?_)
  refine tf_blk _ b_Mod_init_250 rfl ?_
  refine tf_mkA (cA := q 0) (N := 40) (a0 := (40, .inl (fun _ => 0))) 255 258 0 d_Mod_init_253 rfl rfl wa_int rfl (by decide) (by decide) (by decide) (fun _ => rfl) d_Mod_init_255 rfl ff_Mod_100 rfl hm hE fx (by decide) (fun q43 f hE fx => ?_)
  refine tf_blk _ b_Mod_init_258 rfl ?_
  refine tf_mkA (cA := q 0) (N := 40) (a0 := (40, .inl (fun _ => 0))) 263 266 0 d_Mod_init_261 rfl rfl wa_int rfl (by decide) (by decide) (by decide) (fun _ => rfl) d_Mod_init_263 rfl ff_Mod_103 rfl hm hE fx (by decide) (fun q44 f hE fx => ?_)
  refine tf_blk _ b_Mod_init_266 rfl ?_
  refine tf_mkA (cA := q 2) (N := 40) (a0 := (40, .inr (.inl (fun _ => 0)))) 271 274 2 d_Mod_init_269 rfl rfl wa_long rfl (by decide) (by decide) (by decide) (fun _ => rfl) d_Mod_init_271 rfl ff_Mod_106 rfl hm hE fx (by decide) (fun q45 f hE fx => ?_)
  refine tf_blk _ b_Mod_init_274 rfl ?_
  refine tf_mkA (cA := q 0) (N := 40) (a0 := (40, .inl (fun _ => 0))) 279 282 0 d_Mod_init_277 rfl rfl wa_int rfl (by decide) (by decide) (by decide) (fun _ => rfl) d_Mod_init_279 rfl ff_Mod_110 rfl hm hE fx (by decide) (fun q46 f hE fx => ?_)
  refine tf_blk _ b_Mod_init_282 rfl ?_
  refine tf_mkA (cA := q 0) (N := 60) (a0 := (60, .inl (fun _ => 0))) 287 290 0 d_Mod_init_285 rfl rfl wa_int rfl (by decide) (by decide) (by decide) (fun _ => rfl) d_Mod_init_287 rfl ff_Mod_113 rfl hm hE fx (by decide) (fun q49 f hE fx => ?_)
  refine tf_blk _ b_Mod_init_290 rfl ?_
  refine tf_mkA (cA := q 0) (N := 60) (a0 := (60, .inl (fun _ => 0))) 295 298 0 d_Mod_init_293 rfl rfl wa_int rfl (by decide) (by decide) (by decide) (fun _ => rfl) d_Mod_init_295 rfl ff_Mod_116 rfl hm hE fx (by decide) (fun q51 f hE fx => ?_)
  simp only [List.nil_append, List.cons_append] at hE
  rw [tm_new0_of] at hE
  rw [tm_G_of] at fx
  generalize tm_adl _ = ad at hE fx
  refine tf_blk _ b_Mod_init_298 rfl ?_
  refine tf_ic_eq 309 304 d_Mod_init_301 rfl rfl (fun h301 => ?_) (fun h301 => ?_)
  · refine tf_blk _ b_Mod_init_309 rfl ?_
    refine tf_goto 314 d_Mod_init_310 rfl ?_
    refine tf_putF (fs := ?fs_314_1) 317 d_Mod_init_314 rfl ff_Mod_119 rfl ?ha_314_1 ?hf_314_1 ?hl_314_1 ?hn_314_1 ?ht_314_1 ?kk_314_1
    case ha_314_1 => exact hE.x hm
    case hf_314_1 => assumption
    case hl_314_1 => exact Nat.le_of_ble_eq_true rfl
    case hn_314_1 => rfl
    case ht_314_1 => rfl
    refine tf_vret d_Mod_init_317 rfl ?_
    refine ⟨ad, rfl, hE.upd hm, ?_⟩
    rw [va_up_self, tm_F_set1]
    first
    | rw [show tw_ms y = y from if_pos (Or.inl (by assumption))]
    | rw [show tw_ms y = y from if_pos (Or.inr (by assumption))]
    | rw [show tw_ms y = kI 1 from if_neg (fun z => z.elim (by assumption) (by assumption))]
  · refine tf_blk _ b_Mod_init_304 rfl ?_
    refine tf_ic_ne 313 309 d_Mod_init_306 rfl rfl (fun h306 => ?_) (fun h306 => ?_)
    · refine tf_blk _ b_Mod_init_313 rfl ?_
      refine tf_putF (fs := ?fs_314_3) 317 d_Mod_init_314 rfl ff_Mod_119 rfl ?ha_314_3 ?hf_314_3 ?hl_314_3 ?hn_314_3 ?ht_314_3 ?kk_314_3
      case ha_314_3 => exact hE.x hm
      case hf_314_3 => assumption
      case hl_314_3 => exact Nat.le_of_ble_eq_true rfl
      case hn_314_3 => rfl
      case ht_314_3 => rfl
      refine tf_vret d_Mod_init_317 rfl ?_
      refine ⟨ad, rfl, hE.upd hm, ?_⟩
      rw [va_up_self, tm_F_set1]
      first
      | rw [show tw_ms y = y from if_pos (Or.inl (by assumption))]
      | rw [show tw_ms y = y from if_pos (Or.inr (by assumption))]
      | rw [show tw_ms y = kI 1 from if_neg (fun z => z.elim (by assumption) (by assumption))]
    · refine tf_blk _ b_Mod_init_309 rfl ?_
      refine tf_goto 314 d_Mod_init_310 rfl ?_
      refine tf_putF (fs := ?fs_314_5) 317 d_Mod_init_314 rfl ff_Mod_119 rfl ?ha_314_5 ?hf_314_5 ?hl_314_5 ?hn_314_5 ?ht_314_5 ?kk_314_5
      case ha_314_5 => exact hE.x hm
      case hf_314_5 => assumption
      case hl_314_5 => exact Nat.le_of_ble_eq_true rfl
      case hn_314_5 => rfl
      case ht_314_5 => rfl
      refine tf_vret d_Mod_init_317 rfl ?_
      refine ⟨ad, rfl, hE.upd hm, ?_⟩
      rw [va_up_self, tm_F_set1]
      first
      | rw [show tw_ms y = y from if_pos (Or.inl (by assumption))]
      | rw [show tw_ms y = y from if_pos (Or.inr (by assumption))]
      | rw [show tw_ms y = kI 1 from if_neg (fun z => z.elim (by assumption) (by assumption))]
end
