/-! Outline.swap, ofPoint -/
section
variable (l : Launch) (D : va_G) (q : Nat → ClassId) (d : Nat) (L : List Nat) (f : tf_F)
end
theorem tw_out3 (k : Int32) (h0 : ¬ k = kI 0) (h1 : ¬ k = kI 1) (h2 : ¬ k = kI 2) : k.toInt < 0 ∨ 2 < k.toInt := by
  have e : ∀ n : Int, 0 ≤ n → n ≤ 2 → k.toInt = n → k = kI n := fun n a b h => by
    apply Int32.toInt_inj.mp
    rw [h, Int32.toInt_ofInt]
    simp only [Int.bmod, Int32.size]
    omega
  by_cases a : k.toInt < 0
  · exact Or.inl a
  · refine Or.inr ?_
    by_cases a0 : k.toInt = 0
    · exact absurd (e 0 (by decide) (by decide) a0) h0
    by_cases a1 : k.toInt = 1
    · exact absurd (e 1 (by decide) (by decide) a1) h1
    by_cases a2 : k.toInt = 2
    · exact absurd (e 2 (by decide) (by decide) a2) h2
    omega
/-- two places of a row change their values -/
def tw_sw (n : Int32 → Int32) (g : Nat → Int32) (i j : Nat) : Nat → Int32 := upd (upd g i (n (g j))) j (n (g i))
def ou_sw (A : Nat → Nat → Int32) (i j : Nat) : Nat → Nat → Int32 := fun k => if k = 0 then tw_sw id (A 0) i j else if k = 1 then tw_sw id (A 1) i j else if k = 2 then tw_sw (vp_nar .boolean) (A 2) i j else A k
theorem ou_sw_eq (A : Nat → Nat → Int32) (i j : Nat) : va_up (va_up (va_up (va_up (va_up (va_up A 0 (upd (A 0) i (A 0 j))) 1 (upd (A 1) i (A 1 j))) 2 (upd (A 2) i (vp_nar .boolean (A 2 j)))) 0 (upd (upd (A 0) i (A 0 j)) j (A 0 i))) 1 (upd (upd (A 1) i (A 1 j)) j (A 1 i))) 2 (upd (upd (A 2) i (vp_nar .boolean (A 2 j))) j (vp_nar .boolean (A 2 i))) = ou_sw A i j := by
  funext k
  unfold ou_sw
  by_cases h2 : k = 2
  · subst h2; rfl
  · rw [va_up_ne _ _ h2]
    by_cases h1 : k = 1
    · subst h1; rfl
    · rw [va_up_ne _ _ h1]
      by_cases h0 : k = 0
      · subst h0; rfl
      · rw [va_up_ne _ _ h0, va_up_ne _ _ h2, va_up_ne _ _ h1, va_up_ne _ _ h0, if_neg h0, if_neg h1, if_neg h2]
section
variable (l : Launch) (D : va_G) (q : Nat → ClassId) (d : Nat) (L : List Nat) (f : tf_F)
set_option maxHeartbeats 4000000 in
set_option maxRecDepth 100000 in
theorem c_Outline_swap {ad : Nat → Nat} {a : Nat} {W0 : tf_F} {c p : Int32} {A : Nat → Nat → Int32} (hT : ou_at q ad a W0 L c p A f) (x y : Int32) (hx : vp_in x 160) (hy : vp_in y 160) : tf_C l (tf_H D q) d i_Outline_swap [.ref a, .int x, .int y] L f 0 0 (fun v L2 f2 => v = none ∧ L2 = L ∧ ou_at q ad a W0 L c p (ou_sw A x.toNatClampNeg y.toNatClampNeg) f2) := by
  refine tf_C.of (tf_gok _ _) (by decide) w_683 (Nat.le_of_ble_eq_true rfl) ?_
  refine tf_blk _ b_Outline_swap_0 rfl ?_
  refine ou_get 4 d_Outline_swap_1 rfl fl_Outline_9 hT rfl ?_
  refine tf_blk _ b_Outline_swap_4 rfl ?_
  refine ou_iald _ 6 d_Outline_swap_5 rfl hT (by decide) rfl (by exact hx) ?_
  refine tf_blk _ b_Outline_swap_6 rfl ?_
  refine ou_get 11 d_Outline_swap_8 rfl fl_Outline_15 hT rfl ?_
  refine tf_blk _ b_Outline_swap_11 rfl ?_
  refine ou_iald _ 13 d_Outline_swap_12 rfl hT (by decide) rfl (by exact hx) ?_
  refine tf_blk _ b_Outline_swap_13 rfl ?_
  refine ou_get 19 d_Outline_swap_16 rfl fl_Outline_18 hT rfl ?_
  refine tf_blk _ b_Outline_swap_19 rfl ?_
  refine ou_zald 21 d_Outline_swap_20 rfl hT (by exact hx) ?_
  refine tf_blk _ b_Outline_swap_21 rfl ?_
  refine ou_get 27 d_Outline_swap_24 rfl fl_Outline_9 hT rfl ?_
  refine tf_blk _ b_Outline_swap_27 rfl ?_
  refine ou_get 32 d_Outline_swap_29 rfl fl_Outline_9 hT rfl ?_
  refine tf_blk _ b_Outline_swap_32 rfl ?_
  refine ou_iald _ 34 d_Outline_swap_33 rfl hT (by decide) rfl (by exact hy) ?_
  refine ou_iast _ 35 d_Outline_swap_34 rfl hT (by decide) rfl (by exact hx) (fun f hT => ?_)
  refine tf_blk _ b_Outline_swap_35 rfl ?_
  refine ou_get 39 d_Outline_swap_36 rfl fl_Outline_15 hT rfl ?_
  refine tf_blk _ b_Outline_swap_39 rfl ?_
  refine ou_get 44 d_Outline_swap_41 rfl fl_Outline_15 hT rfl ?_
  refine tf_blk _ b_Outline_swap_44 rfl ?_
  refine ou_iald _ 46 d_Outline_swap_45 rfl hT (by decide) rfl (by exact hy) ?_
  refine ou_iast _ 47 d_Outline_swap_46 rfl hT (by decide) rfl (by exact hx) (fun f hT => ?_)
  refine tf_blk _ b_Outline_swap_47 rfl ?_
  refine ou_get 51 d_Outline_swap_48 rfl fl_Outline_18 hT rfl ?_
  refine tf_blk _ b_Outline_swap_51 rfl ?_
  refine ou_get 56 d_Outline_swap_53 rfl fl_Outline_18 hT rfl ?_
  refine tf_blk _ b_Outline_swap_56 rfl ?_
  refine ou_zald 58 d_Outline_swap_57 rfl hT (by exact hy) ?_
  refine ou_zast 59 d_Outline_swap_58 rfl hT (by exact hx) (fun f hT => ?_)
  refine tf_blk _ b_Outline_swap_59 rfl ?_
  refine ou_get 63 d_Outline_swap_60 rfl fl_Outline_9 hT rfl ?_
  refine tf_blk _ b_Outline_swap_63 rfl ?_
  refine ou_iast _ 66 d_Outline_swap_65 rfl hT (by decide) rfl (by exact hy) (fun f hT => ?_)
  refine tf_blk _ b_Outline_swap_66 rfl ?_
  refine ou_get 70 d_Outline_swap_67 rfl fl_Outline_15 hT rfl ?_
  refine tf_blk _ b_Outline_swap_70 rfl ?_
  refine ou_iast _ 74 d_Outline_swap_73 rfl hT (by decide) rfl (by exact hy) (fun f hT => ?_)
  refine tf_blk _ b_Outline_swap_74 rfl ?_
  refine ou_get 78 d_Outline_swap_75 rfl fl_Outline_18 hT rfl ?_
  refine tf_blk _ b_Outline_swap_78 rfl ?_
  refine ou_zast 82 d_Outline_swap_81 rfl hT (by exact hy) (fun f hT => ?_)
  refine tf_vret d_Outline_swap_82 rfl ?_
  refine ⟨rfl, rfl, ?_⟩
  rw [← ou_sw_eq]
  exact hT
set_option maxHeartbeats 4000000 in
set_option maxRecDepth 100000 in
theorem c_Outline_ofPoint {ad : Nat → Nat} {a : Nat} {W0 : tf_F} {c p : Int32} {A : Nat → Nat → Int32} (hT : ou_at q ad a W0 L c p A f) (k w : Int32) (hk : vp_in k 160) : tf_C l (tf_H D q) d i_Outline_ofPoint [.ref a, .int k, .int w] L f 0 0 (tf_rd (.int (if w = kI 0 then A 0 k.toNatClampNeg else if w = kI 1 then A 1 k.toNatClampNeg else if w = kI 2 then bI (decide (¬ A 2 k.toNatClampNeg = 0)) else A 4 k.toNatClampNeg)) L f) := by
  refine tf_C.of (tf_gok _ _) (by decide) w_687 (Nat.le_of_ble_eq_true rfl) ?_
  refine tf_blk _ b_Outline_ofPoint_0 rfl ?_
  by_cases s1_0 : w = kI 0
  · refine tf_tabIn 28 d_Outline_ofPoint_1 (by rw [s1_0]; decide) (by rw [s1_0]; decide) (by rw [s1_0]; rfl) rfl ?_
    refine tf_blk _ b_Outline_ofPoint_28 rfl ?_
    refine ou_get 32 d_Outline_ofPoint_29 rfl fl_Outline_9 hT rfl ?_
    refine tf_blk _ b_Outline_ofPoint_32 rfl ?_
    refine ou_iald _ 34 d_Outline_ofPoint_33 rfl hT (by decide) rfl (by exact hk) ?_
    refine tf_iret d_Outline_ofPoint_34 rfl ?_
    exact ⟨by (simp only [s1_0, if_true, if_false, not_true_eq_false, not_false_eq_true, decide_true, decide_false]; try rfl), rfl, rfl⟩
  by_cases s1_1 : w = kI 1
  · refine tf_tabIn 35 d_Outline_ofPoint_1 (by rw [s1_1]; decide) (by rw [s1_1]; decide) (by rw [s1_1]; rfl) rfl ?_
    refine tf_blk _ b_Outline_ofPoint_35 rfl ?_
    refine ou_get 39 d_Outline_ofPoint_36 rfl fl_Outline_15 hT rfl ?_
    refine tf_blk _ b_Outline_ofPoint_39 rfl ?_
    refine ou_iald _ 41 d_Outline_ofPoint_40 rfl hT (by decide) rfl (by exact hk) ?_
    refine tf_iret d_Outline_ofPoint_41 rfl ?_
    exact ⟨by (simp only [s1_0, s1_1, if_true, if_false, not_true_eq_false, not_false_eq_true, decide_true, decide_false]; try rfl), rfl, rfl⟩
  by_cases s1_2 : w = kI 2
  · refine tf_tabIn 42 d_Outline_ofPoint_1 (by rw [s1_2]; decide) (by rw [s1_2]; decide) (by rw [s1_2]; rfl) rfl ?_
    refine tf_blk _ b_Outline_ofPoint_42 rfl ?_
    refine ou_get 46 d_Outline_ofPoint_43 rfl fl_Outline_18 hT rfl ?_
    refine tf_blk _ b_Outline_ofPoint_46 rfl ?_
    refine ou_zald 48 d_Outline_ofPoint_47 rfl hT (by exact hk) ?_
    refine tf_if_eq 55 51 d_Outline_ofPoint_48 rfl rfl (fun h48 => ?_) (fun h48 => ?_)
    · refine tf_blk _ b_Outline_ofPoint_55 rfl ?_
      refine tf_iret d_Outline_ofPoint_56 rfl ?_
      exact ⟨by (simp only [s1_0, s1_1, s1_2, h48, if_true, if_false, not_true_eq_false, not_false_eq_true, decide_true, decide_false]; try rfl), rfl, rfl⟩
    · refine tf_blk _ b_Outline_ofPoint_51 rfl ?_
      refine tf_goto 56 d_Outline_ofPoint_52 rfl ?_
      refine tf_iret d_Outline_ofPoint_56 rfl ?_
      exact ⟨by (simp only [s1_0, s1_1, s1_2, h48, if_true, if_false, not_true_eq_false, not_false_eq_true, decide_true, decide_false]; try rfl), rfl, rfl⟩
  refine tf_tabOut 57 d_Outline_ofPoint_1 (tw_out3 w s1_0 s1_1 s1_2) rfl ?_
  refine tf_blk _ b_Outline_ofPoint_57 rfl ?_
  refine ou_get 61 d_Outline_ofPoint_58 rfl fl_Outline_25 hT rfl ?_
  refine tf_blk _ b_Outline_ofPoint_61 rfl ?_
  refine ou_iald _ 63 d_Outline_ofPoint_62 rfl hT (by decide) rfl (by exact hk) ?_
  refine tf_iret d_Outline_ofPoint_63 rfl ?_
  exact ⟨by (simp only [s1_0, s1_1, s1_2, if_true, if_false, not_true_eq_false, not_false_eq_true, decide_true, decide_false]; try rfl), rfl, rfl⟩
end
