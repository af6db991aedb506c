/-! the constructor of TypeFoundry -/
/-- cells qs have come (L2, f2) behind (L, f); but for x nothing that was there has changed -/
def tf_E (x : Nat) (L : List Nat) (f : tf_F) (qs : List (Nat × va_E)) (L2 : List Nat) (f2 : tf_F) : Prop :=
  L2 = L ++ qs.map Prod.fst ∧ (∀ q ∈ qs, q.1 ∉ L) ∧ (qs.map Prod.fst).Nodup ∧ (∀ q ∈ qs, f2 q.1 = q.2) ∧ ∀ z, z ∈ L → z ≠ x → f2 z = f z
theorem tf_E.rf {x : Nat} {L : List Nat} {f : tf_F} : tf_E x L f [] L f := ⟨by simp, fun _ h => (List.not_mem_nil h).elim, List.nodup_nil, fun _ h => (List.not_mem_nil h).elim, fun _ _ _ => rfl⟩
theorem tf_E.add {x : Nat} {L L1 L2 : List Nat} {f f1 f2 : tf_F} {qs rs : List (Nat × va_E)} (hx : x ∈ L) (h : tf_E x L f qs L1 f1) (hL : L2 = L1 ++ rs.map Prod.fst) (hn : ∀ q ∈ rs, q.1 ∉ L1) (hd : (rs.map Prod.fst).Nodup) (hc : ∀ q ∈ rs, f2 q.1 = q.2) (hf : ∀ z, z ∈ L1 → z ≠ x → f2 z = f1 z) : tf_E x L f (qs ++ rs) L2 f2 := by
  obtain ⟨h1, h2, h3, h4, h5⟩ := h
  refine ⟨by rw [hL, h1, List.map_append, List.append_assoc], fun q hq => ?_, ?_, fun q hq => ?_, fun z hz hzx => ?_⟩
  · rcases List.mem_append.mp hq with h | h
    · exact h2 q h
    · exact fun hh => hn q h (by rw [h1]; exact List.mem_append_left _ hh)
  · rw [List.map_append, List.nodup_append]
    refine ⟨h3, hd, fun a ha b hb hab => ?_⟩
    obtain ⟨r, hr, e⟩ := List.mem_map.mp hb
    exact hn r hr (by rw [h1, e, ← hab]; exact List.mem_append_right _ ha)
  · rcases List.mem_append.mp hq with h | h
    · have hm : q.1 ∈ L1 := by rw [h1]; exact List.mem_append_right _ (List.mem_map.mpr ⟨q, h, rfl⟩)
      rw [hf q.1 hm (fun e => h2 q h (e ▸ hx))]
      exact h4 q h
    · exact hc q h
  · rw [hf z (by rw [h1]; exact List.mem_append_left _ hz) hzx]
    exact h5 z hz hzx
theorem tf_E.x {x : Nat} {L L1 : List Nat} {f f1 : tf_F} {qs : List (Nat × va_E)} (hx : x ∈ L) (h : tf_E x L f qs L1 f1) : x ∈ L1 := by
  rw [h.1]; exact List.mem_append_left _ hx
/-- a new object, and its constructor -/
theorem tf_E.made {x : Nat} {L L1 L2 : List Nat} {f f1 f2 : tf_F} {qs rs : List (Nat × va_E)} {a : Nat} {e0 ob o : va_E} {v : Option Value} (hx : x ∈ L) (h : tf_E x L f qs L1 f1) (ha : a ∉ L1) (hm : tf_mk (L1 ++ [a]) (va_up f1 a e0) a rs ob v L2 f2) : tf_E x L f (qs ++ (a, ob) :: rs) L2 (va_up f2 x o) ∧ f2 x = f1 x ∧ v = none ∧ x ∈ L2 ∧ a ∈ L2 := by
  obtain ⟨m1, m2, m3, m4, m5, m6, m7⟩ := hm
  have hx1 := h.x hx
  have hxa : x ≠ a := fun e => ha (e ▸ hx1)
  have hax : a ≠ x := fun e => hxa e.symm
  have hrx : ∀ q ∈ rs, q.1 ≠ x := fun q hq e => m3 q hq (by rw [e]; exact List.mem_append_left _ hx1)
  refine ⟨h.add hx (by rw [m2, List.append_assoc]; rfl) (fun q hq => ?_) ?_ (fun q hq => ?_) (fun z hz hzx => ?_), ?_, m1, ?_, ?_⟩
  · rcases List.mem_cons.mp hq with e | hq
    · rw [e]; exact ha
    · exact fun hh => m3 q hq (List.mem_append_left _ hh)
  · rw [List.map_cons, List.nodup_cons]
    refine ⟨fun hh => ?_, m4⟩
    obtain ⟨r, hr, e⟩ := List.mem_map.mp hh
    exact m3 r hr (by rw [e]; exact List.mem_append_right _ (List.mem_singleton.mpr rfl))
  · rcases List.mem_cons.mp hq with e | hq
    · rw [e]; exact tf_u hax m5
    · exact tf_u (hrx q hq) (m6 q hq)
  · have hza : z ≠ a := fun e => ha (e ▸ hz)
    refine tf_u hzx ?_
    rw [m7 z (List.mem_append_left _ hz) hza]
    exact va_up_ne _ _ hza
  · rw [m7 x (List.mem_append_left _ hx1) hxa]
    exact va_up_ne _ _ hxa
  · rw [m2]; exact List.mem_append_left _ (List.mem_append_left _ hx1)
  · rw [m2]; exact List.mem_append_left _ (List.mem_append_right _ (List.mem_singleton.mpr rfl))
/-- a new cell alone -/
theorem tf_E.one {x : Nat} {L L1 : List Nat} {f f1 : tf_F} {qs : List (Nat × va_E)} {a : Nat} {ob o : va_E} (hx : x ∈ L) (h : tf_E x L f qs L1 f1) (ha : a ∉ L1) : tf_E x L f (qs ++ [(a, ob)]) (L1 ++ [a]) (va_up (va_up f1 a ob) x o) := by
  have hxa : a ≠ x := fun e => ha (e ▸ h.x hx)
  refine h.add hx rfl (fun q hq => ?_) (by simp) (fun q hq => ?_) (fun z hz hzx => ?_)
  · rw [List.mem_singleton.mp hq]; exact ha
  · rw [List.mem_singleton.mp hq]; exact tf_u hxa (va_up_self _ _ _)
  · exact tf_u hzx (va_up_ne _ _ (fun e => ha (e ▸ hz)))
section
variable (l : Launch) (D : va_G) (q : Nat → ClassId) (d : Nat) (L : List Nat) (f : tf_F)
/-- what a new object is: its cells by their addresses -/
def tf_new0 (q : Nat → ClassId) (k : Int32) (ad : Nat → Nat) : List (Nat × va_E) := [(ad 1, to 1 [.int k, .int 0, .int 0]), (ad 2, tr 5 q 40 (fun _ => none)), (ad 3, to 6 [.ref (ad 4), .ref (ad 5), .ref (ad 6), .ref (ad 7), .int 0, .ref (ad 8), .int 0]), (ad 4, ti q 160 (fun _ => 0)), (ad 5, ti q 160 (fun _ => 0)), (ad 6, tz q 160 (fun _ => 0)), (ad 7, ti q 54 (fun _ => 0)), (ad 8, ti q 160 (fun _ => 0)), (ad 9, to 8 [.ref (ad 10), .ref (ad 11), .int 0]), (ad 10, ti q 320 (fun _ => 0)), (ad 11, ti q 320 (fun _ => 0)), (ad 12, to 4 [.int 0, .ref (ad 13)]), (ad 13, ti q 8 (fun _ => 0)), (ad 14, to 2 [.ref (ad 15), .int (kI 32), .int 0]), (ad 15, ti q 4096 (fun _ => 0)), (ad 16, to 5 [.int 0, .ref (ad 17), .ref (ad 18), .ref (ad 19), .ref (ad 20), .ref (ad 21), .ref (ad 22)]), (ad 17, ti q 40 (fun _ => 0)), (ad 18, ti q 40 (fun _ => 0)), (ad 19, ti q 256 (fun _ => 0)), (ad 20, ti q 40 (fun _ => 0)), (ad 21, ti q 40 (fun _ => 0)), (ad 22, ti q 40 (fun _ => 0)), (ad 23, to 10 [.ref (ad 24), .int 0, .int 0, .int 0, .int 0, .ref (ad 25), .ref (ad 26)]), (ad 24, ti q 60 (fun _ => 0)), (ad 25, ti q 60 (fun _ => 0)), (ad 26, tr 7 q 40 (fun _ => none))]
def tf_ob0 (ad : Nat → Nat) : va_E := to 0 [.ref (ad 1), .ref (ad 2), .ref (ad 3), .ref (ad 9), .ref (ad 12), .ref (ad 14), .ref (ad 16), .ref (ad 23), .int 0]
set_option maxHeartbeats 4000000 in
set_option maxRecDepth 100000 in
theorem t_Tf_init (hd : 2 ≤ d) {x bl : Nat} {k k0 : Int32} (hx : x ∈ L) (fx0 : f x = to 0 [.null, .null, .null, .null, .null, .null, .null, .null, .int 0]) (hbl : bl ∉ L) : tf_W l (tf_H D q) tf_T (tf_QM (tf_H D q) (fun v L2 f2 => ∃ ad : Nat → Nat, v = none ∧ tf_E x L f (tf_new0 q k ad) L2 f2 ∧ f2 x = tf_ob0 ad)) d i_Tf_init 24 [(0, .ref x), (1, .int k0)] [.int k, .ref bl, .ref bl, .ref x] (L ++ [bl]) (va_up f bl (to 1 [.int 0, .int 0, .int 0])) 25 6123 := by
  have E0 : tf_E x L f [] L f := tf_E.rf
  refine tf_cI (tf_gok _ _) (c_Blend_init l D q (d - 1) _ _ (by omega) _ (List.mem_append_right _ (List.mem_singleton.mpr rfl)) (va_up_self _ _ _)) 27 d_Tf_init_24 rfl lk_Tf_11 cw_Blend_init (by rfl) in_Blend_init rfl (by omega) (by exact Nat.le_of_ble_eq_true rfl) rfl ?_
  rintro v24 L24 f24 hm24
  obtain ⟨E1, gx24, rfl, mx24, ma24⟩ := tf_E.made (o := (to 0 [.ref bl, .null, .null, .null, .null, .null, .null, .null, .int 0])) hx E0 hbl hm24
  refine tf_putF (fs := ?fs_27_2) 30 d_Tf_init_27 rfl ff_Tf_14 rfl ?ha_27_2 ?hf_27_2 ?hl_27_2 ?hn_27_2 ?ht_27_2 ?kk_27_2
  case ha_27_2 => exact mx24
  case hf_27_2 => (rw [gx24]; assumption)
  case hl_27_2 => exact Nat.le_of_ble_eq_true rfl
  case hn_27_2 => rfl
  case ht_27_2 => rfl
  refine tf_blk _ b_Tf_init_30 rfl ?_
  refine tf_newq (N := 40) 36 5 d_Tf_init_33 rfl w_56 wo_Glyph rfl (by decide) (by decide) (by decide) (fun gl hgl => ?_)
  have E2 := tf_E.one (ob := tr 5 q 40 (fun _ => none)) (o := (to 0 [.ref bl, .ref gl, .null, .null, .null, .null, .null, .null, .int 0])) hx E1 hgl
  have mx33 : x ∈ L24 ++ [gl] := List.mem_append_left _ mx24
  have fx33 : x ≠ gl := fun e => hgl (e ▸ mx24)
  refine tf_putF (fs := ?fs_36_4) 39 d_Tf_init_36 rfl ff_Tf_20 rfl ?ha_36_4 ?hf_36_4 ?hl_36_4 ?hn_36_4 ?ht_36_4 ?kk_36_4
  case ha_36_4 => exact mx33
  case hf_36_4 => first | assumption | exact va_up_self _ _ _ | (refine tf_u (by first | assumption | (apply Ne.symm; assumption) | (intro hh; subst hh; contradiction)) ?_; first | assumption | exact va_up_self _ _ _ | (refine tf_u (by first | assumption | (apply Ne.symm; assumption) | (intro hh; subst hh; contradiction)) ?_; first | assumption | exact va_up_self _ _ _ | (refine tf_u (by first | assumption | (apply Ne.symm; assumption) | (intro hh; subst hh; contradiction)) ?_; first | assumption | exact va_up_self _ _ _ | (refine tf_u (by first | assumption | (apply Ne.symm; assumption) | (intro hh; subst hh; contradiction)) ?_; first | assumption | exact va_up_self _ _ _ | (refine tf_u (by first | assumption | (apply Ne.symm; assumption) | (intro hh; subst hh; contradiction)) ?_; first | assumption | exact va_up_self _ _ _)))))
  case hl_36_4 => exact Nat.le_of_ble_eq_true rfl
  case hn_36_4 => rfl
  case ht_36_4 => rfl
  refine tf_blk _ b_Tf_init_39 rfl ?_
  refine tf_new (N := 7) 43 d_Tf_init_40 rfl nl_Tf_24 (fun ou hou => ?_)
  refine tf_blk _ b_Tf_init_43 rfl ?_
  refine tf_cIN (tf_gok _ _) (c_Outline_init l D q (d - 1) _ _ (by omega) (List.mem_append_right _ (List.mem_singleton.mpr rfl)) (va_up_self _ _ _)) 47 d_Tf_init_44 rfl lk_Tf_26 cw_Outline_init (by rfl) in_Outline_init rfl (by omega) (by exact Nat.le_of_ble_eq_true rfl) rfl ?_
  rintro v44 L44 f44 ⟨ou0, ou1, ou2, ou3, ou4, hm44⟩
  obtain ⟨E3, gx44, rfl, mx44, ma44⟩ := tf_E.made (o := (to 0 [.ref bl, .ref gl, .ref ou, .null, .null, .null, .null, .null, .int 0])) hx E2 hou hm44
  refine tf_putF (fs := ?fs_47_7) 50 d_Tf_init_47 rfl ff_Tf_27 rfl ?ha_47_7 ?hf_47_7 ?hl_47_7 ?hn_47_7 ?ht_47_7 ?kk_47_7
  case ha_47_7 => exact mx44
  case hf_47_7 => (rw [gx44]; exact va_up_self _ _ _)
  case hl_47_7 => exact Nat.le_of_ble_eq_true rfl
  case hn_47_7 => rfl
  case ht_47_7 => rfl
  refine tf_blk _ b_Tf_init_50 rfl ?_
  refine tf_new (N := 3) 54 d_Tf_init_51 rfl nl_Tf_31 (fun pa hpa => ?_)
  refine tf_blk _ b_Tf_init_54 rfl ?_
  refine tf_cIN (tf_gok _ _) (c_Path_init l D q (d - 1) _ _ (by omega) (List.mem_append_right _ (List.mem_singleton.mpr rfl)) (va_up_self _ _ _)) 58 d_Tf_init_55 rfl lk_Tf_33 cw_Path_init (by rfl) in_Path_init rfl (by omega) (by exact Nat.le_of_ble_eq_true rfl) rfl ?_
  rintro v55 L55 f55 ⟨pa0, pa1, hm55⟩
  obtain ⟨E4, gx55, rfl, mx55, ma55⟩ := tf_E.made (o := (to 0 [.ref bl, .ref gl, .ref ou, .ref pa, .null, .null, .null, .null, .int 0])) hx E3 hpa hm55
  refine tf_putF (fs := ?fs_58_10) 61 d_Tf_init_58 rfl ff_Tf_34 rfl ?ha_58_10 ?hf_58_10 ?hl_58_10 ?hn_58_10 ?ht_58_10 ?kk_58_10
  case ha_58_10 => exact mx55
  case hf_58_10 => (rw [gx55]; exact va_up_self _ _ _)
  case hl_58_10 => exact Nat.le_of_ble_eq_true rfl
  case hn_58_10 => rfl
  case ht_58_10 => rfl
  refine tf_blk _ b_Tf_init_61 rfl ?_
  refine tf_new (N := 2) 65 d_Tf_init_62 rfl nl_Tf_38 (fun he hhe => ?_)
  refine tf_blk _ b_Tf_init_65 rfl ?_
  refine tf_cIN (tf_gok _ _) (c_Heights_init l D q (d - 1) _ _ (by omega) (List.mem_append_right _ (List.mem_singleton.mpr rfl)) (va_up_self _ _ _)) 69 d_Tf_init_66 rfl lk_Tf_40 cw_Heights_init (by rfl) in_Heights_init rfl (by omega) (by exact Nat.le_of_ble_eq_true rfl) rfl ?_
  rintro v66 L66 f66 ⟨he0, hm66⟩
  obtain ⟨E5, gx66, rfl, mx66, ma66⟩ := tf_E.made (o := (to 0 [.ref bl, .ref gl, .ref ou, .ref pa, .ref he, .null, .null, .null, .int 0])) hx E4 hhe hm66
  refine tf_putF (fs := ?fs_69_13) 72 d_Tf_init_69 rfl ff_Tf_41 rfl ?ha_69_13 ?hf_69_13 ?hl_69_13 ?hn_69_13 ?ht_69_13 ?kk_69_13
  case ha_69_13 => exact mx66
  case hf_69_13 => (rw [gx66]; exact va_up_self _ _ _)
  case hl_69_13 => exact Nat.le_of_ble_eq_true rfl
  case hn_69_13 => rfl
  case ht_69_13 => rfl
  refine tf_blk _ b_Tf_init_72 rfl ?_
  refine tf_new (N := 3) 76 d_Tf_init_73 rfl nl_Tf_45 (fun ca hca => ?_)
  refine tf_blk _ b_Tf_init_76 rfl ?_
  refine tf_cIN (tf_gok _ _) (c_Canvas_init l D q (d - 1) _ _ (by omega) (List.mem_append_right _ (List.mem_singleton.mpr rfl)) (va_up_self _ _ _)) 80 d_Tf_init_77 rfl lk_Tf_47 cw_Canvas_init (by rfl) in_Canvas_init rfl (by omega) (by exact Nat.le_of_ble_eq_true rfl) rfl ?_
  rintro v77 L77 f77 ⟨ca0, hm77⟩
  obtain ⟨E6, gx77, rfl, mx77, ma77⟩ := tf_E.made (o := (to 0 [.ref bl, .ref gl, .ref ou, .ref pa, .ref he, .ref ca, .null, .null, .int 0])) hx E5 hca hm77
  refine tf_putF (fs := ?fs_80_16) 83 d_Tf_init_80 rfl ff_Tf_48 rfl ?ha_80_16 ?hf_80_16 ?hl_80_16 ?hn_80_16 ?ht_80_16 ?kk_80_16
  case ha_80_16 => exact mx77
  case hf_80_16 => (rw [gx77]; exact va_up_self _ _ _)
  case hl_80_16 => exact Nat.le_of_ble_eq_true rfl
  case hn_80_16 => rfl
  case ht_80_16 => rfl
  refine tf_blk _ b_Tf_init_83 rfl ?_
  refine tf_new (N := 7) 87 d_Tf_init_84 rfl nl_Tf_52 (fun ke hke => ?_)
  refine tf_blk _ b_Tf_init_87 rfl ?_
  refine tf_cIN (tf_gok _ _) (c_Kerning_init l D q (d - 1) _ _ (by omega) (List.mem_append_right _ (List.mem_singleton.mpr rfl)) (va_up_self _ _ _)) 91 d_Tf_init_88 rfl lk_Tf_54 cw_Kerning_init (by rfl) in_Kerning_init rfl (by omega) (by exact Nat.le_of_ble_eq_true rfl) rfl ?_
  rintro v88 L88 f88 ⟨ke0, ke1, ke2, ke3, ke4, ke5, hm88⟩
  obtain ⟨E7, gx88, rfl, mx88, ma88⟩ := tf_E.made (o := (to 0 [.ref bl, .ref gl, .ref ou, .ref pa, .ref he, .ref ca, .ref ke, .null, .int 0])) hx E6 hke hm88
  refine tf_putF (fs := ?fs_91_19) 94 d_Tf_init_91 rfl ff_Tf_55 rfl ?ha_91_19 ?hf_91_19 ?hl_91_19 ?hn_91_19 ?ht_91_19 ?kk_91_19
  case ha_91_19 => exact mx88
  case hf_91_19 => (rw [gx88]; exact va_up_self _ _ _)
  case hl_91_19 => exact Nat.le_of_ble_eq_true rfl
  case hn_91_19 => rfl
  case ht_91_19 => rfl
  refine tf_blk _ b_Tf_init_94 rfl ?_
  refine tf_new (N := 7) 98 d_Tf_init_95 rfl nl_Tf_59 (fun se hse => ?_)
  refine tf_blk _ b_Tf_init_98 rfl ?_
  refine tf_cIN (tf_gok _ _) (c_Setter_init l D q (d - 1) _ _ (by omega) (List.mem_append_right _ (List.mem_singleton.mpr rfl)) (va_up_self _ _ _)) 102 d_Tf_init_99 rfl lk_Tf_61 cw_Setter_init (by rfl) in_Setter_init rfl (by omega) (by exact Nat.le_of_ble_eq_true rfl) rfl ?_
  rintro v99 L99 f99 ⟨se0, se1, se2, hm99⟩
  obtain ⟨E8, gx99, rfl, mx99, ma99⟩ := tf_E.made (o := (to 0 [.ref bl, .ref gl, .ref ou, .ref pa, .ref he, .ref ca, .ref ke, .ref se, .int 0])) hx E7 hse hm99
  refine tf_putF (fs := ?fs_102_22) 105 d_Tf_init_102 rfl ff_Tf_62 rfl ?ha_102_22 ?hf_102_22 ?hl_102_22 ?hn_102_22 ?ht_102_22 ?kk_102_22
  case ha_102_22 => exact mx99
  case hf_102_22 => (rw [gx99]; exact va_up_self _ _ _)
  case hl_102_22 => exact Nat.le_of_ble_eq_true rfl
  case hn_102_22 => rfl
  case ht_102_22 => rfl
  refine tf_vret d_Tf_init_105 rfl ?_
  exact ⟨(fun n => [x, bl, gl, ou, ou0, ou1, ou2, ou3, ou4, pa, pa0, pa1, he, he0, ca, ca0, ke, ke0, ke1, ke2, ke3, ke4, ke5, se, se0, se1, se2].getD n 0), rfl, E8, va_up_self _ _ _⟩
def tw_ms (k : Int32) : Int32 := if k = kI 2 ∨ k = kI 4 then k else kI 1
set_option maxHeartbeats 4000000 in
set_option maxRecDepth 100000 in
theorem c_Tf_init (hd : 2 ≤ d) {x : Nat} {k : Int32} (hx : x ∈ L) (fx0 : f x = to 0 [.null, .null, .null, .null, .null, .null, .null, .null, .int 0]) : tf_C l (tf_H D q) d i_Tf_init [.ref x, .int k] L f 26 6126 (fun v L2 f2 => ∃ ad : Nat → Nat, v = none ∧ tf_E x L f (tf_new0 q (tw_ms k) ad) L2 f2 ∧ f2 x = tf_ob0 ad) := by
  refine tf_C.of (tf_gok _ _) (by decide) w_35 (Nat.le_of_ble_eq_true rfl) ?_
  refine tf_blk _ b_Tf_init_0 rfl ?_
  refine tf_obj 4 d_Tf_init_1 rfl w_36 wi_obj wc_obj (by omega) (by decide) ?_
  refine tf_blk _ b_Tf_init_4 rfl ?_
  refine tf_new (N := 3) 8 d_Tf_init_5 rfl nl_Tf_9 (fun bl hbl => ?_)
  refine tf_blk _ b_Tf_init_8 rfl ?_
  refine tf_ic_eq 19 14 d_Tf_init_11 rfl rfl (fun h11 => ?_) (fun h11 => ?_)
  · refine tf_blk _ b_Tf_init_19 rfl ?_
    refine tf_goto 24 d_Tf_init_20 rfl ?_
    first
      | (rw [show tw_ms k = k from if_pos (Or.inl h11)]; exact t_Tf_init l D q d L f hd hx fx0 hbl)
      | (rw [show tw_ms k = k from if_pos (Or.inr (by assumption))]; exact t_Tf_init l D q d L f hd hx fx0 hbl)
      | (rw [show tw_ms k = kI 1 from if_neg (fun z => z.elim h11 (by assumption))]; exact t_Tf_init l D q d L f hd hx fx0 hbl)
  · refine tf_blk _ b_Tf_init_14 rfl ?_
    refine tf_ic_ne 23 19 d_Tf_init_16 rfl rfl (fun h16 => ?_) (fun h16 => ?_)
    · refine tf_blk _ b_Tf_init_23 rfl ?_
      first
        | (rw [show tw_ms k = k from if_pos (Or.inl h11)]; exact t_Tf_init l D q d L f hd hx fx0 hbl)
        | (rw [show tw_ms k = k from if_pos (Or.inr (by assumption))]; exact t_Tf_init l D q d L f hd hx fx0 hbl)
        | (rw [show tw_ms k = kI 1 from if_neg (fun z => z.elim h11 (by assumption))]; exact t_Tf_init l D q d L f hd hx fx0 hbl)
    · refine tf_blk _ b_Tf_init_19 rfl ?_
      refine tf_goto 24 d_Tf_init_20 rfl ?_
      first
        | (rw [show tw_ms k = k from if_pos (Or.inl h11)]; exact t_Tf_init l D q d L f hd hx fx0 hbl)
        | (rw [show tw_ms k = k from if_pos (Or.inr (by assumption))]; exact t_Tf_init l D q d L f hd hx fx0 hbl)
        | (rw [show tw_ms k = kI 1 from if_neg (fun z => z.elim h11 (by assumption))]; exact t_Tf_init l D q d L f hd hx fx0 hbl)
end
