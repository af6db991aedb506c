/-! both states: draw -/
theorem mixI {a b u : Int} (ha : -2000 ≤ a ∧ a ≤ 4000) (hb : -2000 ≤ b ∧ b ≤ 4000) (hu : 0 ≤ u ∧ u ≤ 1024) : -2048000 ≤ a * (1024 - u) + b * u ∧ a * (1024 - u) + b * u ≤ 4096000 := by
  have h1 := Int.mul_le_mul_of_nonneg_right ha.1 (show 0 ≤ 1024 - u by omega)
  have h2 := Int.mul_le_mul_of_nonneg_right ha.2 (show 0 ≤ 1024 - u by omega)
  have h3 := Int.mul_le_mul_of_nonneg_right hb.1 hu.1
  have h4 := Int.mul_le_mul_of_nonneg_right hb.2 hu.1
  omega
theorem mixI2 {a b u : Int} (ha : -2048000 ≤ a ∧ a ≤ 4096000) (hb : -2048000 ≤ b ∧ b ≤ 4096000) (hu : 0 ≤ u ∧ u ≤ 1024) : -2097152000 ≤ a * (1024 - u) + b * u ∧ a * (1024 - u) + b * u ≤ 4194304000 := by
  have h1 := Int.mul_le_mul_of_nonneg_right ha.1 (show 0 ≤ 1024 - u by omega)
  have h2 := Int.mul_le_mul_of_nonneg_right ha.2 (show 0 ≤ 1024 - u by omega)
  have h3 := Int.mul_le_mul_of_nonneg_right hb.1 hu.1
  have h4 := Int.mul_le_mul_of_nonneg_right hb.2 hu.1
  omega
theorem mix_i {a b : Int64} {u : Int32} {N : Int} (hN : N ≤ 2 ^ 32) (ha : -N ≤ a.toInt ∧ a.toInt ≤ N) (hb : -N ≤ b.toInt ∧ b.toInt ≤ N) (hu : 0 ≤ u.toInt ∧ u.toInt ≤ 1024) : (tw_mix a b u).toInt = a.toInt * (1024 - u.toInt) + b.toInt * u.toInt := by
  have e1 : (kI 1024 - u).toInt64.toInt = 1024 - u.toInt := by rw [i6_of, u_B hu]
  have e2 : u.toInt64.toInt = u.toInt := i6_of u
  have m1 := mul_bd (n := 2 ^ 32) (by omega) (x := a.toInt) (y := 1024 - u.toInt) (by omega) (by omega)
  have m2 := mul_bd (n := 2 ^ 32) (by omega) (x := b.toInt) (y := u.toInt) (by omega) (by omega)
  have h1 := Int.mul_le_mul_of_nonneg_right ha.2 (show 0 ≤ 1024 - u.toInt by omega)
  have h2 := Int.mul_le_mul_of_nonneg_right ha.1 (show 0 ≤ 1024 - u.toInt by omega)
  have h3 := Int.mul_le_mul_of_nonneg_right hb.2 hu.1
  have h4 := Int.mul_le_mul_of_nonneg_right hb.1 hu.1
  have hNN : 0 ≤ N := by omega
  have k1 := Int.mul_le_mul_of_nonneg_left (show 1024 - u.toInt ≤ 1024 by omega) hNN
  have k2 := Int.mul_le_mul_of_nonneg_left hu.2 hNN
  have n1 : -N * (1024 - u.toInt) = -(N * (1024 - u.toInt)) := Int.neg_mul _ _
  have n2 : -N * u.toInt = -(N * u.toInt) := Int.neg_mul _ _
  have p1 : (a * (kI 1024 - u).toInt64).toInt = a.toInt * (1024 - u.toInt) := by rw [i6_mul (by rw [e1]; omega) (by rw [e1]; omega), e1]
  have p2 : (b * u.toInt64).toInt = b.toInt * u.toInt := by rw [i6_mul (by rw [e2]; omega) (by rw [e2]; omega), e2]
  unfold tw_mix
  rw [i6_add (by rw [p1, p2]; omega) (by rw [p1, p2]; omega), p1, p2]
/-- a value in the instance lies between the masters' -/
theorem val_B {mm : Nat} {u w : Int32} (hmm : tc_mm mm) (hu : 0 ≤ u.toInt ∧ u.toInt ≤ 1024) (hw : 0 ≤ w.toInt ∧ w.toInt ≤ 1024) {p : Nat} (hp : p ≤ 40) {g : Nat → Int32} (hg : ∀ k, k < mm → tm_isP (g (p * mm + k)) = true) : iB 4000 (tw_val (nI mm) u w g (nI p)) := by
  have hm4 : mm ≤ 4 := by rcases hmm with h | h | h <;> omega
  have hpm : p * mm ≤ 40 * 4 := Nat.mul_le_mul hp hm4
  have i0 : (nI p * nI mm).toNatClampNeg = p * mm + 0 := by rw [nI_mul, nI_clamp (by omega)]; rfl
  have i1 : (nI p * nI mm + kI 1).toNatClampNeg = p * mm + 1 := by rw [nI_mul, show kI 1 = nI 1 from rfl, nI_add, nI_clamp (by omega)]
  have i2 : (nI p * nI mm + kI 2).toNatClampNeg = p * mm + 2 := by rw [nI_mul, show kI 2 = nI 2 from rfl, nI_add, nI_clamp (by omega)]
  have i3 : (nI p * nI mm + kI 3).toNatClampNeg = p * mm + 3 := by rw [nI_mul, show kI 3 = nI 3 from rfl, nI_add, nI_clamp (by omega)]
  have n1 : nI mm = kI 1 ↔ mm = 1 := nI_eq (b := 1) (by omega) (by omega)
  have n2 : nI mm = kI 2 ↔ mm = 2 := nI_eq (b := 2) (by omega) (by omega)
  have hr : ∀ k, k < mm → -2000 ≤ (g (p * mm + k)).toInt ∧ (g (p * mm + k)).toInt ≤ 4000 := fun k hk => isP_i.mp (hg k hk)
  have hr6 : ∀ k, k < mm → -2000 ≤ (g (p * mm + k)).toInt64.toInt ∧ (g (p * mm + k)).toInt64.toInt ≤ 4000 := fun k hk => by rw [i6_of]; exact hr k hk
  have hfin : ∀ (v b : Int64) (N : Int), b.toInt = N → 0 < N → N ≤ 2 ^ 30 → (-2000 * N ≤ v.toInt ∧ v.toInt ≤ 4000 * N) → iB 4000 (hvU v b) := by
    intro v b N hb h0 h30 hv
    have e : (tm_nr v b).toInt = iR v.toInt N := by rw [tm_nr_i (by omega) (by rw [hb]; omega) (by rw [hb]; omega), hb]
    have lo : -4000 ≤ iR v.toInt N := iR_lo h0 (by omega)
    have hi : iR v.toInt N ≤ 4000 := iR_hi h0 (by omega)
    rw [hvU_nr (by rw [hb]; omega) (by rw [hb]; omega)]
    unfold iB
    rw [i3_of (by rw [e]; omega) (by rw [e]; omega), e]
    exact ⟨lo, hi⟩
  unfold tw_val
  rw [i0, i1, i2, i3]
  by_cases c1 : mm = 1
  · rw [if_pos (n1.mpr c1)]
    have := hr 0 (by omega)
    exact ⟨by omega, by omega⟩
  rw [if_neg (fun z => c1 (n1.mp z))]
  have a0 := hr6 0 (by rcases hmm with h | h | h <;> omega)
  have a1 := hr6 1 (by rcases hmm with h | h | h <;> omega)
  have e01 := mix_i (N := 5000) (by omega) (by omega) (by omega) hu (a := (g (p * mm + 0)).toInt64) (b := (g (p * mm + 1)).toInt64)
  have b01 := mixI a0 a1 hu
  rw [← e01] at b01
  by_cases c2 : mm = 2
  · rw [if_pos (n2.mpr c2)]
    exact hfin _ 1024 1024 (by decide) (by omega) (by omega) (by omega)
  rw [if_neg (fun z => c2 (n2.mp z))]
  have hm : mm = 4 := by rcases hmm with h | h | h <;> omega
  have a2 := hr6 2 (by omega)
  have a3 := hr6 3 (by omega)
  have e23 := mix_i (N := 5000) (by omega) (by omega) (by omega) hu (a := (g (p * mm + 2)).toInt64) (b := (g (p * mm + 3)).toInt64)
  have b23 := mixI a2 a3 hu
  rw [← e23] at b23
  have e4 := mix_i (N := 5000000) (by omega) (by omega) (by omega) hw (a := tw_mix (g (p * mm + 0)).toInt64 (g (p * mm + 1)).toInt64 u) (b := tw_mix (g (p * mm + 2)).toInt64 (g (p * mm + 3)).toInt64 u)
  have b4 := mixI2 b01 b23 hw
  rw [← e4] at b4
  exact hfin _ 1048576 1048576 (by decide) (by omega) (by omega) (by omega)
theorem rot_B {N : Int} (hN : N ≤ 1000000) : ∀ r, r < 4 → ∀ x y : Int32, iB N x → iB N y → iB N (tw_rot r x y).1 ∧ iB N (tw_rot r x y).2 := by
  intro r
  induction r with
  | zero => intro _ x y hx hy; exact ⟨hx, hy⟩
  | succ r ih =>
    intro hr x y hx hy
    refine ih (by omega) (-y) x ?_ hx
    obtain ⟨a, b⟩ := hy
    unfold iB
    rw [i3_neg (by omega)]
    omega
theorem tp_B {N : Int} (hN : N ≤ 100000) {t : Nat} {dx dy : Int32} (hdx : iB 4000 dx) (hdy : iB 4000 dy) {z : Int32 × Int32} (h1 : iB N z.1) (h2 : iB N z.2) : iB (N + 4000) (tw_tp t dx dy z).1 ∧ iB (N + 4000) (tw_tp t dx dy z).2 := by
  have hn : iB N (if t < 4 then z.1 else -z.1) := by
    split
    · exact h1
    · obtain ⟨a, b⟩ := h1
      unfold iB
      rw [i3_neg (by omega)]
      omega
  obtain ⟨r1, r2⟩ := rot_B (N := N) (by omega) (t % 4) (Nat.mod_lt _ (by omega)) _ _ hn h2
  obtain ⟨a1, a2⟩ := r1
  obtain ⟨b1, b2⟩ := r2
  obtain ⟨c1, c2⟩ := hdx
  obtain ⟨d1, d2⟩ := hdy
  unfold tw_tp iB
  constructor
  · rw [i3_add (by omega) (by omega)]; omega
  · rw [i3_add (by omega) (by omega)]; omega
def oB (N : Int) (L : oC) : Prop := ∀ l ∈ L, ∀ q ∈ l, iB N q.1 ∧ iB N q.2.1
theorem oB_app {N : Int} {L1 L2 : oC} (h1 : oB N L1) (h2 : oB N L2) : oB N (L1 ++ L2) := fun l hl => by
  rcases List.mem_append.mp hl with h | h
  · exact h1 l h
  · exact h2 l h
theorem iB_le {N M : Int} {x : Int32} (h : iB N x) (hm : N ≤ M) : iB M x := ⟨by have := h.1; omega, by have := h.2; omega⟩
theorem oB_tpc {N : Int} (hN : N ≤ 100000) {L : oC} (h : oB N L) {t : Nat} {dx dy : Int32} (hdx : iB 4000 dx) (hdy : iB 4000 dy) : oB (N + 4000) (L.map (tpc t dx dy)) := fun l hl q hq => by
  obtain ⟨l0, h0, e⟩ := List.mem_map.mp hl
  rw [← e] at hq
  have hq2 : q ∈ l0.map (tpp t dx dy) := by
    unfold tpc at hq
    by_cases c : t < 4
    · rw [if_pos c] at hq; exact hq
    · rw [if_neg c] at hq; exact List.mem_reverse.mp hq
  obtain ⟨q0, h1, e1⟩ := List.mem_map.mp hq2
  rw [← e1]
  obtain ⟨a, b⟩ := h l0 h0 q0 h1
  exact tp_B hN hdx hdy a b
theorem oseg_B {X Y O : Nat → Int32} {N : Int} : ∀ m i, (∀ j, i ≤ j → j < i + m → iB N (X j) ∧ iB N (Y j)) → ∀ q ∈ oseg X Y O m i, iB N q.1 ∧ iB N q.2.1
  | 0, i, _, q, hq => by cases hq
  | m + 1, i, h, q, hq => by
    rcases List.mem_cons.mp hq with e | e
    · rw [e]; exact h i (Nat.le_refl _) (by omega)
    · exact oseg_B m (i + 1) (fun j q1 q2 => h j (by omega) (by omega)) q e
theorem oown_B {X Y O : Nat → Int32} {e : Nat → Nat} {N : Int} {K : Nat} (hX : ∀ j, j < K → iB N (X j) ∧ iB N (Y j)) : ∀ m c i, (∀ z, c ≤ z → z < c + m → e z ≤ K) → oB N (oown X Y O e m c i) := by
  intro m
  induction m with
  | zero => intro c i _ l hl; cases hl
  | succ m ih =>
    intro c i he l hl
    rcases List.mem_cons.mp hl with h | h
    · rw [h]
      have := he c (Nat.le_refl _) (by omega)
      exact oseg_B _ _ (fun j q1 q2 => hX j (by omega))
    · exact ih (c + 1) (e c) (fun z q1 q2 => he z (by omega) (by omega)) l h
theorem oL_B {S : tc_S} {J : Nat → Int32} {A : Nat → Nat → Int32} {R : Nat → Int64} (h : RR S J A R) : ∀ (k g : Nat), k ≤ 4 → g < S.n → oB (4000 + 4000 * (k : Int)) (oL S k g) := by
  have hB := h.1
  have hown : ∀ g, g < S.n → oB 4000 (oownG S g) := by
    intro g hg
    obtain ⟨p1, p2, p3, p4, p5⟩ := (h.2.1.2.2.1 g hg).1
    obtain ⟨w1, w2, w3, _⟩ := (h.2.1.2.2.1 g hg).2.2.2.2.1
    refine oown_B (K := (S.T g).cp) (fun j hj => ⟨?_, ?_⟩) _ 0 0 (fun z _ hz => (w3 z (by omega)).2)
    · exact val_B hB.1 hB.2.2.2.2.1 hB.2.2.2.2.2 (by omega) (fun k hk => (p3 j (by omega) k hk).2.1)
    · exact val_B hB.1 hB.2.2.2.2.1 hB.2.2.2.2.2 (by omega) (fun k hk => (p3 j (by omega) k hk).2.2)
  intro k
  induction k with
  | zero => intro g _ hg; exact hown g hg
  | succ k ih =>
    intro g hk hg
    have hc := (h.2.1.2.2.1 g hg).2.2.1
    have hprt := (h.2.1.2.2.1 g hg).2.2.2.2.2.1
    have hparts : ∀ m j, j + m = (S.T g).pc → oB (4000 + 4000 * (k + 1 : Nat)) (oparts (oL S k) (S.T g) m j) := by
      intro m
      induction m with
      | zero => intro j _ l hl; cases hl
      | succ m ihm =>
        intro j hj
        obtain ⟨_, _, _, _, dx, dy⟩ := hc j (by omega)
        have h1 := oB_tpc (t := (S.T g).tu j) (by omega) (ih ((S.T g).src j) (by omega) (hprt.2.1 j (by omega)).1) dx dy
        rw [show (4000 + 4000 * (k : Int) + 4000) = 4000 + 4000 * ((k + 1 : Nat) : Int) by omega] at h1
        exact oB_app h1 (ihm (j + 1) (by omega))
    refine oB_app (fun l hl q hq => ?_) (hparts (S.T g).pc 0 (by omega))
    obtain ⟨a, b⟩ := hown g hg l hl q hq
    exact ⟨iB_le a (by omega), iB_le b (by omega)⟩
theorem rp_B {A : Nat → Nat → Int32} {N : Int} : ∀ {L : oC} {p C : Nat}, oB N L → rp A p C L → ∀ z, p ≤ z → z < p + olen L → iB N (A 0 z) ∧ iB N (A 1 z)
  | [], p, C, _, _, z, h1, h2 => by have e : olen ([] : oC) = 0 := rfl; omega
  | l :: L, p, C, hB, h, z, h1, h2 => by
    have e : olen (l :: L) = l.length + olen L := rfl
    by_cases c : z < p + l.length
    · obtain ⟨i, hi⟩ : ∃ i, z = p + i := ⟨z - p, by omega⟩
      subst hi
      have hl : i < l.length := by omega
      obtain ⟨a0, a1, _, _⟩ := h.2.1 i _ (List.getElem?_eq_getElem hl)
      rw [a0, a1]
      exact hB l (List.mem_cons_self ..) _ (List.getElem_mem hl)
    · exact rp_B (fun l2 h3 => hB l2 (List.mem_cons_of_mem _ h3)) h.2.2 z (by omega) (by omega)
/-- all points of an outline are small -/
theorem out_B {S : tc_S} {J : Nat → Int32} {A : Nat → Nat → Int32} {R : Nat → Int64} (h : RR S J A R) {g : Nat} (hg : g < S.n) : ∀ z, z < (tc_out S g).1 → iB 100000 ((tc_out S g).2.2 0 z) ∧ iB 100000 ((tc_out S g).2.2 1 z) := by
  have hG := rGl_G h
  have hO := rGl_O h
  have hd := (h.2.1.2.2.1 g hg).2.2.2.2.2.2.1
  obtain ⟨o1, o2, o3⟩ := oL_i hG hO 4 g hg hd
  obtain ⟨g1, g2⟩ := hG g hg
  have hb : tc_op (S.T g) ≤ 160 := by
    have := g1.2.1
    have := g2.2.2.2.2
    unfold tc_op
    omega
  obtain ⟨a1, a2, a3, a4⟩ := tw_gat_l hG hO 4 g 0 0 S.oA hg hd h.2.2.2.2.2.2.2.2.2.2 (by omega)
  have t1 : (tc_out S g).1 = 0 + olen (oL S 4 g) := a1
  intro z hz
  obtain ⟨b1, b2⟩ := rp_B (oL_B h 4 g (by omega) hg) a3 z (Nat.zero_le _) (by rw [← t1]; exact hz)
  exact ⟨iB_le b1 (by omega), iB_le b2 (by omega)⟩
set_option maxHeartbeats 1000000 in
/-- draw -/
theorem q_draw {S : tc_S} {J : Nat → Int32} {A : Nat → Nat → Int32} {R : Nat → Int64} (h : RR S J A R) {g : Nat} (hg : g < S.n) {s : Int32} {al : Nat} (hs : tc_acr s al) (b : Int32) {xe : tm_OU} (hxe : xe = tm_sub (rPn S) (rPc S) (tm_tc J A (rTr S) (rKc S) (rCc S)) 5 0 (fun _ => g) (fun _ => 0) (A 19, A 20, A 21, A 22, 0, 0)) {x0 y0 : Int32} {S2 : tc_S} (hS2 : tc_wC (tc_wO S (tc_out S g)) s al = S2) {GD : tm_D} (hGD : GD = tm_drc xe.1 xe.2.1 xe.2.2.1 xe.2.2.2.1 (tm_fit b S.hn (A 29) s) al s 7 1 xe.2.2.2.2.1 xe.2.2.2.2.2 0 0 (x0, y0, tw_fl (kI 0) (al * al) 0 (A 31))) {J3 : Nat → Int32} {A3 : Nat → Nat → Int32} (h4 : tm_o4 J A J3 A3) (h32 : J3 32 = nI al) (h31 : A3 31 = (tm_gs s (al * al) 0 (kI 0) GD.2.2).2) : (tc_draw S2 b (tc_out S g).2.1).1 = (tm_gs s (al * al) 0 (kI 0) GD.2.2).1 ∧ RR (tc_draw S2 b (tc_out S g).2.1).2 J3 A3 R := by
  have hsi : 32 ≤ s.toInt ∧ s.toInt ≤ 256 ∧ al ≤ 64 := by
    rcases hs with ⟨e1, e2⟩ | ⟨e1, e2⟩ | ⟨e1, e2⟩ | ⟨e1, e2⟩ <;> (rw [e1, e2]; decide)
  obtain ⟨s1, s2, s3⟩ := hsi
  have hd := (h.2.1.2.2.1 g hg).2.2.2.2.2.2.1
  obtain ⟨st, t1, t2, t3, t4⟩ := out_st (rGl_G h) (rGl_O h) hg hd h.2.2.2.2.2.2.2.2.2.2
  obtain ⟨a, bb, c, d, e, f⟩ := q_out h hg hxe
  have hBd := out_B h hg
  have hcs : S2.cs = s := by rw [← hS2]; rfl
  have hca : S2.ca = al := by rw [← hS2]; rfl
  have hoA : S2.oA = (tc_out S g).2.2 := by rw [← hS2]; rfl
  have hhn : S2.hn = S.hn := by rw [← hS2]; rfl
  have hhy : S2.hy = S.hy := by rw [← hS2]; rfl
  have hce : S2.ce = tw_fl (kI 0) (al * al) 0 S.ce := by rw [← hS2]; rfl
  have hsz : (tc_out S g).1 ≤ 160 := by omega
  have hnc : (tc_out S g).2.1 ≤ 160 := by
    have : ∀ k, k ≤ (tc_out S g).2.1 → 3 * k ≤ st k := by
      intro k
      induction k with
      | zero => intro _; omega
      | succ k ih => intro hk; have := ih (by omega); have := (t4 k (by omega)).1; omega
    have := this _ (Nat.le_refl _)
    omega
  have hR0 : rG S2.ca S2.ce ((x0, y0, tw_fl (kI 0) (al * al) 0 (A 31)) : tm_D).2.2 := by
    rw [hca, hce]
    exact rG_0 al S.ce (A 31)
  have hH := h.2.2.1.2.2
  have hdr := draw_R (S := S2) (X2 := xe.1) (Y2 := xe.2.1) (O2 := xe.2.2.1) (Co := xe.2.2.2.1) (gM := A 29) (b := b) (st := st) (nc := (tc_out S g).2.1) (sz := (tc_out S g).1) (by rw [hca]; exact s3) (by rw [hcs]; omega) (by rw [hcs]; omega) (by rw [hhn, hhy]; exact hH) hsz (fun z hz => by rw [hoA]; exact t3 z hz) (fun z hz => (t4 z hz).1) t2 (fun z hz i q1 q2 => by
    have hzl := (t3 (z + 1) (by omega)).2
    rw [(f i (by omega)).2.2.2]
    exact (t4 z hz).2 i q1 q2) hnc (fun p hp => by rw [hoA]; exact hBd p hp) (fun p hp => by rw [hoA]; exact ⟨(f p hp).1, (f p hp).2.1, (f p hp).2.2.1⟩) (tc_out S g).2.1 0 (S2.pz, S2.px, S2.py) S2.ce (x0, y0, tw_fl (kI 0) (al * al) 0 (A 31)) (by omega) hR0
  rw [t1, hca, hcs, hhn, ← a, ← bb, ← hGD] at hdr
  have hgr := greys_eq (s := s) s1 s2 hdr
  rw [bb] at hgr
  have hdef : tc_draw S2 b (tc_out S g).2.1 = ((tw_gr S2.cs S2.ca S2.ca 0 (kI 0) (tc_drn S2 b (tc_out S g).2.1).2).1, tc_dr S2 (tc_drn S2 b (tc_out S g).2.1).1 (tw_gr S2.cs S2.ca S2.ca 0 (kI 0) (tc_drn S2 b (tc_out S g).2.1).2).2) := rfl
  have hdrn : tc_drn S2 b (tc_out S g).2.1 = tc_drw S2 b (tc_out S g).2.1 0 (S2.pz, S2.px, S2.py) S2.ce := rfl
  rw [hdef, hdrn, hcs, hca]
  refine ⟨hgr.1, ?_⟩
  generalize tc_drw S2 b (tc_out S g).2.1 0 (S2.pz, S2.px, S2.py) S2.ce = dw at hgr
  obtain ⟨hJ, hA⟩ := h4
  have hJ' : ∀ k, k ≠ 0 → k ≠ 23 → k ≠ 24 → k ≠ 27 → k ≠ 28 → k ≠ 32 → k ≠ 33 → k ≠ 34 → k ≠ 53 → k ≠ 54 → J3 k = J k := hJ
  have j1 := hJ 1 (by decide) (by decide) (by decide) (by decide) (by decide) (by decide) (by decide) (by decide) (by decide) (by decide)
  have j2 := hJ 2 (by decide) (by decide) (by decide) (by decide) (by decide) (by decide) (by decide) (by decide) (by decide) (by decide)
  have j17 := hJ 17 (by decide) (by decide) (by decide) (by decide) (by decide) (by decide) (by decide) (by decide) (by decide) (by decide)
  have j18 := hJ 18 (by decide) (by decide) (by decide) (by decide) (by decide) (by decide) (by decide) (by decide) (by decide) (by decide)
  have j30 := hJ 30 (by decide) (by decide) (by decide) (by decide) (by decide) (by decide) (by decide) (by decide) (by decide) (by decide)
  have j41 := hJ 41 (by decide) (by decide) (by decide) (by decide) (by decide) (by decide) (by decide) (by decide) (by decide) (by decide)
  have j47 := hJ 47 (by decide) (by decide) (by decide) (by decide) (by decide) (by decide) (by decide) (by decide) (by decide) (by decide)
  have j48 := hJ 48 (by decide) (by decide) (by decide) (by decide) (by decide) (by decide) (by decide) (by decide) (by decide) (by decide)
  have j50 := hJ 50 (by decide) (by decide) (by decide) (by decide) (by decide) (by decide) (by decide) (by decide) (by decide) (by decide)
  have j52 := hJ 52 (by decide) (by decide) (by decide) (by decide) (by decide) (by decide) (by decide) (by decide) (by decide) (by decide)
  have ha : ∀ k, k ≠ 19 ∧ k ≠ 20 ∧ k ≠ 21 ∧ k ≠ 22 ∧ k ≠ 25 ∧ k ≠ 26 ∧ k ≠ 31 → A3 k = A k := fun k q => hA k q.1 q.2.1 q.2.2.1 q.2.2.2.1 q.2.2.2.2.1 q.2.2.2.2.2.1 q.2.2.2.2.2.2
  have a3 := ha 3 (by decide)
  have a4 := ha 4 (by decide)
  have a5 := ha 5 (by decide)
  have a6 := ha 6 (by decide)
  have a7 := ha 7 (by decide)
  have a8 := ha 8 (by decide)
  have a9 := ha 9 (by decide)
  have a10 := ha 10 (by decide)
  have a11 := ha 11 (by decide)
  have a12 := ha 12 (by decide)
  have a13 := ha 13 (by decide)
  have a14 := ha 14 (by decide)
  have a15 := ha 15 (by decide)
  have a16 := ha 16 (by decide)
  have a29 := ha 29 (by decide)
  have a35 := ha 35 (by decide)
  have a36 := ha 36 (by decide)
  have a37 := ha 37 (by decide)
  have a38 := ha 38 (by decide)
  have a39 := ha 39 (by decide)
  have a40 := ha 40 (by decide)
  have a42 := ha 42 (by decide)
  have a43 := ha 43 (by decide)
  have a44 := ha 44 (by decide)
  have a46 := ha 46 (by decide)
  have a49 := ha 49 (by decide)
  have a51 := ha 51 (by decide)
  have h03 := q_out3 h hg
  obtain ⟨h1, ⟨g1, g2, g3, g4⟩, h3, h4, h5, h6, h7, h8, h9, h10, h11⟩ := h
  have hall : rBl S.mm S.u S.w (J3 1) (J3 17) (J3 18) ∧ rGl S (J3 2) A3 ∧ rH S.hn S.hy (J3 30) (A3 29) ∧ rC al (tw_gr s al al 0 (kI 0) dw.2).2 (J3 32) (A3 31) ∧ rK S.kl S.kr S.kc (A3 35) (A3 36) (A3 37) (A3 38) ∧ rP S.n S.kp S.kL S.kR S.kO (J3 41) (A3 39) (A3 40) ∧ rR S.n S.rn S.R (J3 47) (A3 42) (A3 43) (A3 44) (A3 46) R ∧ rT S.n S.ts S.tx (J3 50) (A3 49) ∧ rT S.n S.rs S.row (J3 52) (A3 51) ∧ J3 48 = S.pu ∧ (tc_out S g).2.2 3 0 = nI 0 := by
    rw [j1, j2, j17, j18, j30, h32, j41, j47, j48, j50, j52, a29, h31, a35, a36, a37, a38, a39, a40, a42, a43, a44, a46, a49, a51]
    refine ⟨h1, ⟨g1, g2, fun g hg => ?_, fun g q1 q2 => ?_⟩, h3, ⟨s3, rfl, fun r k hr hk => (hgr.2 r k hr hk).symm⟩, h5, h6, h7, h8, h9, h10, h03⟩
    · rw [a3, a4, a5, a6, a7, a8, a9, a10, a11, a12, a13, a14, a15, a16]; exact g3 g hg
    · rw [a5, a6, a7, a8, a9, a10, a11, a12]; exact g4 g q1 q2
  subst hS2
  exact hall
