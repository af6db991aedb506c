/-! the law from its entry -/
section
variable (l : Launch) (D : va_G) (q : Nat → ClassId) (d : Nat) (L : List Nat) (f : tf_F)
end
theorem tc_B {q : Nat → ClassId} {ad : Nat → Nat} {S : tc_S} {B B2 : Nat → Prop} {L : List Nat} {f : tf_F} (h : tc_at q ad S B L f) (h2 : ∀ z ∈ L, ¬ B2 z) : tc_at q ad S B2 L f := ⟨h.1, fun k hk => by
  obtain ⟨e, he⟩ := Option.isSome_iff_exists.mp hk
  exact h2 _ (h.1.1 k e he).1⟩
/-- two new objects and a row for answers -/
theorem lw_new {q : Nat → ClassId} {ad adm : Nat → Nat} {L0 L1 L2 : List Nat} {f0 f1 f2 : tf_F} {x m ou c : Nat} {y : Int32} {e e2 : va_E} (hx : x ∈ L0) (h1 : tf_E x L0 f0 (tf_new0 q (nI c) ad) L1 f1) (g1 : f1 x = tf_ob0 ad) (hm : m ∉ L1) (h2 : tf_E m (L1 ++ [m]) (va_up f1 m e) (tm_new0 q adm) L2 f2) (g2 : f2 m = to 11 (tm_F adm (upd (fun _ => 0) 1 y))) (hy : y = nI c) (ho : ou ∉ L2) : tc_at q (va_up ad 0 x) (tc_S0 c) (lw_B adm m ou) (L2 ++ [ou]) (va_up f2 ou e2) ∧ tm_ok q adm m (tm_Jz c) (fun _ _ => 0) (fun _ => 0) (L2 ++ [ou]) (va_up f2 ou e2) ∧ ¬ tm_own adm m ou := by
  subst hy
  obtain ⟨t1, t2, t3, t4⟩ := tm_fresh (List.mem_append_right _ (List.mem_singleton.mpr rfl)) h2 g2
  have c1 := (tc_fresh (B := fun _ => False) hx h1 g1 (fun _ z => z.elim)).1
  have hL12 : ∀ z ∈ L1, z ∈ L2 := fun z hz => t3 z (List.mem_append_left _ hz)
  have hnm : ∀ z ∈ L1, z ≠ m := fun z hz e9 => hm (e9 ▸ hz)
  have hno : ∀ z ∈ L2, z ≠ ou := fun z hz e9 => ho (e9 ▸ hz)
  have hown : ∀ z, tm_own adm m z → z ∈ L2 := fun z hz => by
    rcases hz with h | ⟨k, hk, h⟩
    · rw [h]; exact t1.1
    · rw [h]; exact (t1.2.2.1 k hk).1
  have c2 := tc_B (B2 := lw_B adm m ou) c1 (fun z hz hb => by
    rcases hb with hb | hb
    · rcases hb with h | ⟨k, hk, h⟩
      · exact hnm z hz h
      · exact t2 k hk (h ▸ List.mem_append_left _ hz)
    · exact hno z (hL12 z hz) hb)
  refine ⟨tc_more c2 (fun z hz => List.mem_append_left _ (hL12 z hz)) (fun z hz => ?_), (tm_mv9 t1 (fun z hz => List.mem_append_left _ hz) (fun z hz _ => va_up_ne _ _ (hno z hz))).1, fun z => ho (hown ou z)⟩
  rw [va_up_ne _ _ (hno z (hL12 z hz)), t4 z (List.mem_append_left _ hz) (hnm z hz), va_up_ne _ _ (hnm z hz)]
theorem lw_rk {x y : Nat} : (0 : Int32) = if x = 0 ∨ y = 0 ∨ (0 : Int32) = 0 then 0 else 0 := by
  rw [if_pos (Or.inr (Or.inr rfl))]
theorem RR_0 {c : Nat} (hc : tc_mm c) : RR (tc_S0 c) (tm_Jz c) (fun _ _ => 0) (fun _ => 0) := by
  refine ⟨⟨hc, rfl, rfl, rfl, show 0 ≤ (0 : Int32).toInt ∧ (0 : Int32).toInt ≤ 1024 by decide, show 0 ≤ (0 : Int32).toInt by decide, show (0 : Int32).toInt ≤ 1024 by decide⟩, ⟨Nat.zero_le _, rfl, fun g hg => absurd hg (Nat.not_lt_zero _), fun g _ _ => ⟨rfl, rfl, rfl, rfl, rfl, rfl, rfl, fun _ _ => rfl⟩⟩, ⟨Nat.zero_le _, rfl, fun i hi => absurd hi (Nat.not_lt_zero _), fun i hi => absurd hi (Nat.not_lt_zero _), fun i hi => absurd hi (Nat.not_lt_zero _), fun i hi => absurd hi (Nat.not_lt_zero _)⟩, ⟨Nat.zero_le _, rfl, fun r k hr => absurd hr (Nat.not_lt_zero _)⟩, ⟨fun g _ => ⟨⟨0, by decide, rfl, rfl⟩, ⟨0, by decide, rfl, rfl⟩⟩, fun x y _ _ => lw_rk⟩, ⟨Nat.zero_le _, rfl, fun k hk => absurd hk (Nat.not_lt_zero _), fun i j _ hj => absurd hj (Nat.not_lt_zero _)⟩, ⟨Nat.zero_le _, rfl, fun j hj => absurd hj (Nat.not_lt_zero _)⟩, ⟨Nat.zero_le _, rfl, fun j hj => absurd hj (Nat.not_lt_zero _)⟩, ⟨Nat.zero_le _, rfl, fun j hj => absurd hj (Nat.not_lt_zero _)⟩, rfl, rfl⟩
section
variable (l : Launch) (D : va_G) (q : Nat → ClassId) (d : Nat) (L : List Nat) (f : tf_F)
set_option maxHeartbeats 4000000 in
set_option maxRecDepth 100000 in
theorem lw_entry {b N : Nat} {xs : Nat → Int32} (hl : l.stackTraces = false) (hd : 14 ≤ d) (hN : N ≤ 4609) {K KS : Nat} (hk1 : 10360 ≤ K) (hk2 : 543000 ≤ KS) : tf_W l (tf_H D q) (tl_EX b N xs) lw_QB d i_Law_law 0 [(0, .ref b)] [] [] f K KS := by
  refine tf_less (kc2 := (K - 1) + 1) (ks2 := (KS - 9) + 9) (by omega) (by omega) ?_
  refine tf_new (N := 9) 3 d_Law_law_0 rfl nl_Law_8 (fun x hx => ?_)
  refine tf_blk _ b_Law_law_3 rfl ?_
  refine tf_less (kc2 := (K - 1) + 0) (ks2 := (KS - 9) + 0) (by omega) (by omega) ?_
  refine tg_cS (tf_gok _ _) tg_X (fun _ _ h => h.2.1) (c_Law_cell l D q (d - 1) _ _ (by omega)) 9 d_Law_law_6 rfl lk_Law_46 cw_Law_cell (by rfl) sa_Law_cell (by omega) (by exact Nat.le_of_ble_eq_true rfl) rfl ?_
  rintro v6 L6 f6 ⟨rfl, rfl, rfl⟩
  refine tf_less (kc2 := (K - 27) + 26) (ks2 := (KS - 6135) + 6126) (by omega) (by omega) ?_
  refine tf_cI (tf_gok _ _) (c_Tf_init l D q (d - 1) _ _ (by omega) (List.mem_append_right _ (List.mem_singleton.mpr rfl)) (va_up_self _ _ _)) 12 d_Law_law_9 rfl lk_Law_52 cw_Tf_init (by rfl) in_Tf_init rfl (by omega) (by exact Nat.le_of_ble_eq_true rfl) rfl ?_
  rintro v9 L9 f9 ⟨ad, rfl, hE1, hx1⟩
  refine tf_blk _ b_Law_law_12 rfl ?_
  refine tf_less (kc2 := (K - 28) + 1) (ks2 := (KS - 6190) + 55) (by omega) (by omega) ?_
  refine tf_new (N := 55) 16 d_Law_law_13 rfl nl_Law_55 (fun m hm => ?_)
  refine tf_blk _ b_Law_law_16 rfl ?_
  refine tf_less (kc2 := (K - 28) + 0) (ks2 := (KS - 6190) + 0) (by omega) (by omega) ?_
  refine tg_cS (tf_gok _ _) tg_X (fun _ _ h => h.2.1) (c_Law_cell l D q (d - 1) _ _ (by omega)) 22 d_Law_law_19 rfl lk_Law_46 cw_Law_cell (by rfl) sa_Law_cell (by omega) (by exact Nat.le_of_ble_eq_true rfl) rfl ?_
  rintro v19 L19 f19 ⟨rfl, rfl, rfl⟩
  refine tf_less (kc2 := (K - 63) + 35) (ks2 := (KS - 21018) + 14828) (by omega) (by omega) ?_
  refine tf_cI (tf_gok _ _) (c_Mod_init l D q (d - 1) _ _ (by omega) _ (List.mem_append_right _ (List.mem_singleton.mpr rfl)) (va_up_self _ _ _)) 25 d_Law_law_22 rfl lk_Law_57 cw_Mod_init (by rfl) in_Mod_init rfl (by omega) (by exact Nat.le_of_ble_eq_true rfl) rfl ?_
  rintro v22 L22 f22 ⟨adm, rfl, hE2, hm1⟩
  refine tf_blk _ b_Law_law_25 rfl ?_
  refine tf_less (kc2 := (K - 64) + 1) (ks2 := (KS - 21019) + 1) (by omega) (by omega) ?_
  refine tf_newa (N := 1) (a0 := (1, .inr (.inl (fun _ => 0)))) 29 2 d_Law_law_27 rfl rfl wa_long rfl (by decide) (by decide) (by decide) (fun _ => rfl) (fun ou hou => ?_)
  refine tf_blk _ b_Law_law_29 rfl ?_
  obtain ⟨c, hc, ec⟩ := tw_ms_n (if 0 < N then xs 0 else kI 0)
  rw [ec] at hE1
  obtain ⟨n1, n2, n3⟩ := lw_new (e2 := tj q 1 (fun _ => 0)) (List.mem_append_right _ (List.mem_singleton.mpr rfl)) hE1 hx1 hm hE2 hm1 ec hou
  have ex : va_up ad 0 x 0 = x := va_up_self _ _ _
  have h9 := lw_loop l D q d (b := b) (N := N) (xs := xs) hl hd (by omega) n3 512 (va_up ad 0 x) (tc_S0 c) (tm_Jz c) (fun _ _ => 0) (fun _ => 0) _ _ (fun _ => 0) 1 (K - 64) (KS - 21019) (by omega) (by omega) (by omega) (by omega) n1 n2 (RR_0 hc) (List.mem_append_right _ (List.mem_singleton.mpr rfl)) (va_up_self _ _ _)
  rw [ex] at h9
  exact h9
end
