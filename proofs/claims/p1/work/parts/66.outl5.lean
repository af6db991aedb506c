/-! Outline.addContours: the whole -/
section
variable (l : Launch) (D : va_G) (q : Nat → ClassId) (d : Nat) (L : List Nat) (f : tf_F)
end
/-- the contours of a glyph from c on, m of them, with its points from i on, behind p points and C contours: points, contours, rows -/
def tw_ac (X Y O : Nat → Int32) (e : Nat → Nat) : Nat → Nat → Nat → Nat → Nat → (Nat → Nat → Int32) → Nat × Nat × (Nat → Nat → Int32)
  | 0, _, _, p, C, A => (p, C, A)
  | m + 1, c, i, p, C, A => tw_ac X Y O e m (c + 1) (e c) (p + (e c - i)) (C + 1) (va_up (tw_ac1 X Y O C (e c - i) i p A) 3 (upd (tw_ac1 X Y O C (e c - i) i p A 3) (C + 1) (nI (p + (e c - i)))))
section
variable (l : Launch) (D : va_G) (q : Nat → ClassId) (d : Nat) (L : List Nat) (f : tf_F)
set_option maxHeartbeats 4000000 in
set_option maxRecDepth 100000 in
theorem t_Outline_ac (hd : 3 ≤ d) {ad : Nat → Nat} {a b bl gx gy go ge n ct : Nat} {mm u w : Int32} {X Y O E : Nat → Int32} {W0 : tf_F} (hG : ou_gl q ad a b bl gx gy go ge n mm u w X Y O E ct L W0) (hV : ∀ i, i < 40 → tw_vin mm n i) {e : Nat → Nat} {T : Nat} (hct : ct ≤ 13) (hT40 : T ≤ 40) (hE : ∀ z, z < ct → E z = nI (e z) ∧ e z ≤ T) (hM : ∀ z, z + 1 < ct → e z ≤ e (z + 1)) : ∀ m c i p C (A : Nat → Nat → Int32) (f : tf_F), c + m = ct → (c < ct → i ≤ e c) → p + (T - i) ≤ 160 → i ≤ T → C + m ≤ 53 → ou_at q ad a W0 L (nI C) (nI p) A f → tf_W l (tf_H D q) tf_T (tf_QM (tf_H D q) (fun v L2 f2 => v = none ∧ L2 = L ∧ ou_at q ad a W0 L (nI (tw_ac (tw_X mm u w X) (tw_X mm u w Y) O e m c i p C A).2.1) (nI (tw_ac (tw_X mm u w X) (tw_X mm u w Y) O e m c i p C A).1) (tw_ac (tw_X mm u w X) (tw_X mm u w Y) O e m c i p C A).2.2 f2)) d i_Outline_addContours 5 [(0, .ref a), (1, .ref b), (2, .ref bl), (3, .int (nI i)), (4, .int (nI c))] [] L f 0 0 := by
  obtain ⟨⟨v2, v5, v6, v8, v9, v10, v11, v12, v13, v14, hb, ob, fb⟩, ⟨hl, ol, fl⟩, ⟨hx, ox, fx⟩, ⟨hy, oy, fy⟩, ⟨ho, oo, fo⟩, ⟨he, oe, fe⟩⟩ := id hG
  intro m
  induction m with
  | zero =>
    intro c i p C A f hm hi hp hiT hC hT
    refine tf_blk _ b_Outline_addContours_5 rfl ?_
    refine tf_get (fs := ?fs_8_1) (v := ?v_8_1) 11 d_Outline_addContours_8 rfl fl_Outline_67 ?ha_8_1 ?hf_8_1 ?hv_8_1 ?kk_8_1
    case ha_8_1 => first | assumption | (simp only [List.mem_append, List.mem_singleton]; simp [*])
    case hf_8_1 => rw [hT.2 b ob]; assumption
    case hv_8_1 => rfl
    refine tf_ic_ge 134 14 d_Outline_addContours_11 rfl rfl (fun h11 => ?_) (fun h11 => absurd (nI_le (by omega) (by omega)) h11)
    refine tf_vret d_Outline_addContours_134 rfl ?_
    exact ⟨rfl, rfl, hT⟩
  | succ m ih =>
    intro c i p C A f hm hi hp hiT hC hT
    obtain ⟨e1, e2⟩ := hE c (by omega)
    have hi2 := hi (by omega)
    have e3 : nI C + kI 1 = nI (C + 1) := nI_1 C
    have hv : vp_in (nI C + kI 1) 54 := by rw [e3]; exact vp_in_nI (by omega) (by omega)
    have hcc : (nI C + kI 1).toNatClampNeg = C + 1 := by rw [e3]; exact nI_clamp (by omega)
    refine tf_blk _ b_Outline_addContours_5 rfl ?_
    refine tf_get (fs := ?fs_8_3) (v := ?v_8_3) 11 d_Outline_addContours_8 rfl fl_Outline_67 ?ha_8_3 ?hf_8_3 ?hv_8_3 ?kk_8_3
    case ha_8_3 => first | assumption | (simp only [List.mem_append, List.mem_singleton]; simp [*])
    case hf_8_3 => rw [hT.2 b ob]; assumption
    case hv_8_3 => rfl
    refine tf_ic_ge 134 14 d_Outline_addContours_11 rfl rfl (fun h11 => absurd h11 (nI_ge (by omega) (by omega))) (fun h11 => ?_)
    refine t_Outline_ac1 l D q d L hd hG hV (c := c) (C := C) (e := e c) (by omega) e1 (by omega) (e c - i) i p A _ (by omega) (by omega) hT (fun f2 hT => ?_)
    refine tf_blk _ b_Outline_addContours_105 rfl ?_
    refine ou_get 110 d_Outline_addContours_107 rfl fl_Outline_32 hT rfl ?_
    refine tf_blk _ b_Outline_addContours_110 rfl ?_
    refine ou_put 115 d_Outline_addContours_112 rfl fw_Outline_32 hT (by decide) rfl rfl rfl (fun f hT => ?_)
    refine tf_blk _ b_Outline_addContours_115 rfl ?_
    refine ou_get 119 d_Outline_addContours_116 rfl fl_Outline_22 hT rfl ?_
    refine tf_blk _ b_Outline_addContours_119 rfl ?_
    refine ou_get 123 d_Outline_addContours_120 rfl fl_Outline_32 hT rfl ?_
    refine tf_blk _ b_Outline_addContours_123 rfl ?_
    refine ou_get 127 d_Outline_addContours_124 rfl fl_Outline_28 hT rfl ?_
    refine ou_iast _ 128 d_Outline_addContours_127 rfl hT (by decide) rfl (by exact hv) (fun f hT => ?_)
    refine tf_blk _ b_Outline_addContours_128 rfl ?_
    refine tf_goto 5 d_Outline_addContours_131 rfl ?_
    have h8 := hT
    rw [hcc, e3] at h8
    have h9 := ih (c + 1) (e c) (p + (e c - i)) (C + 1) _ _ (by omega) (fun h => hM c h) (by omega) (by omega) (by omega) h8
    rw [nI_succ] at h9
    exact h9
set_option maxHeartbeats 4000000 in
set_option maxRecDepth 100000 in
theorem c_Outline_addContours (hd : 3 ≤ d) {ad : Nat → Nat} {a b bl gx gy go ge n ct : Nat} {mm u w : Int32} {X Y O E : Nat → Int32} {W0 : tf_F} (hG : ou_gl q ad a b bl gx gy go ge n mm u w X Y O E ct L W0) (hV : ∀ i, i < 40 → tw_vin mm n i) {e : Nat → Nat} {T : Nat} (hct : ct ≤ 13) (hT40 : T ≤ 40) (hE : ∀ z, z < ct → E z = nI (e z) ∧ e z ≤ T) (hM : ∀ z, z + 1 < ct → e z ≤ e (z + 1)) {p C : Nat} {A : Nat → Nat → Int32} (hp : p + T ≤ 160) (hC : C + ct ≤ 53) (hT : ou_at q ad a W0 L (nI C) (nI p) A f) : tf_C l (tf_H D q) d i_Outline_addContours [.ref a, .ref b, .ref bl] L f 0 0 (fun v L2 f2 => v = none ∧ L2 = L ∧ ou_at q ad a W0 L (nI (tw_ac (tw_X mm u w X) (tw_X mm u w Y) O e ct 0 0 p C A).2.1) (nI (tw_ac (tw_X mm u w X) (tw_X mm u w Y) O e ct 0 0 p C A).1) (tw_ac (tw_X mm u w X) (tw_X mm u w Y) O e ct 0 0 p C A).2.2 f2) := by
  refine tf_C.of (tf_gok _ _) (by decide) w_666 (Nat.le_of_ble_eq_true rfl) ?_
  refine tf_blk _ b_Outline_addContours_0 rfl ?_
  exact t_Outline_ac l D q d L hd hG hV hct hT40 hE hM ct 0 0 p C A f (by omega) (fun _ => Nat.zero_le _) (by omega) (by omega) (by omega) hT
end
