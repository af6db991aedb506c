/-! draw: the greys, and all contours -/
def ism (v : Nat → Int32) : Nat → Int32
  | 0 => 0
  | n + 1 => ism v n + v n
theorem sm_congr {v u : Nat → Int32} : ∀ n, (∀ i, i < n → v i = u i) → ism v n = ism u n := by
  intro n
  induction n with
  | zero => intro _; rfl
  | succ n ih =>
    intro h
    show ism v n + v n = ism u n + u n
    rw [ih (fun i hi => h i (by omega)), h n (by omega)]
theorem sm_add (v : Nat → Int32) (b : Nat) : ∀ k, ism v (b + k) = ism v b + ism (fun c => v (b + c)) k := by
  intro k
  induction k with
  | zero => exact (Int32.add_zero _).symm
  | succ k ih =>
    show ism v (b + k) + v (b + k) = ism v b + (ism (fun c => v (b + c)) k + v (b + k))
    rw [ih, Int32.add_assoc]
theorem sfx_last (g : Nat → Int32) (b : Nat) : ∀ w k, sfx g b (w + 1) k = sfx g b w k + g (b + k + w) := by
  intro w
  induction w with
  | zero => intro k; rfl
  | succ w ih =>
    intro k
    show sfx g b (w + 1) (k + 1) + g (b + k) = sfx g b w (k + 1) + g (b + k) + g (b + k + (w + 1))
    rw [ih, show b + (k + 1) + w = b + k + (w + 1) by omega, Int32.add_assoc, Int32.add_assoc, Int32.add_comm (g (b + k))]
theorem tw_gr1_i (s : Int32) (b : Nat) : ∀ k cv su (g : Nat → Int32), (∀ i, (tw_gr1 s b k cv su g).2 i = if b ≤ i ∧ i < b + k then tw_grey s (cv + sfx g b (b + k - i) (i - b)) else g i) ∧ (tw_gr1 s b k cv su g).1 = su + ism (fun c => tw_grey s (cv + sfx g b (k - c) c)) k := by
  intro k
  induction k with
  | zero =>
    intro cv su g
    refine ⟨fun i => ?_, (Int32.add_zero _).symm⟩
    rw [if_neg (by omega)]
    rfl
  | succ k ih =>
    intro cv su g
    obtain ⟨h1, h2⟩ := ih (cv + g (b + k)) (su + upd g (b + k) (tw_grey s (cv + g (b + k))) (b + k)) (upd g (b + k) (tw_grey s (cv + g (b + k))))
    have hs : ∀ c, c ≤ k → cv + g (b + k) + sfx (upd g (b + k) (tw_grey s (cv + g (b + k)))) b (k - c) c = cv + sfx g b (k + 1 - c) c := by
      intro c hc
      rw [sfx_out _ _ (fun i q1 q2 => by omega), show k + 1 - c = (k - c) + 1 by omega, sfx_last, show b + c + (k - c) = b + k by omega, Int32.add_assoc, Int32.add_comm (g (b + k))]
    have hk0 : cv + g (b + k) = cv + sfx g b (k + 1 - k) k := by
      rw [show k + 1 - k = 1 by omega]
      show _ = cv + (0 + g (b + k))
      rw [Int32.zero_add]
    constructor
    · intro i
      show (tw_gr1 s b k (cv + g (b + k)) _ _).2 i = _
      rw [h1]
      by_cases c : b ≤ i ∧ i < b + k
      · rw [if_pos c, if_pos (by omega), show b + k - i = k - (i - b) by omega, hs (i - b) (by omega), show k + 1 - (i - b) = b + (k + 1) - i by omega]
      · rw [if_neg c]
        unfold upd
        by_cases c2 : i = b + k
        · subst c2
          rw [if_pos rfl, if_pos (by omega), hk0, show b + (k + 1) - (b + k) = k + 1 - k by omega, show b + k - b = k by omega]
        · rw [if_neg c2, if_neg (by omega)]
    · show (tw_gr1 s b k (cv + g (b + k)) _ _).1 = _
      rw [h2, sm_congr k (fun c hc => by rw [hs c (by omega)])]
      show su + upd g (b + k) _ (b + k) + _ = su + (ism (fun c => tw_grey s (cv + sfx g b (k + 1 - c) c)) k + tw_grey s (cv + sfx g b (k + 1 - k) k))
      unfold upd
      rw [if_pos rfl, hk0, Int32.add_assoc, Int32.add_comm (tw_grey s _)]
theorem tw_gr_i (s : Int32) (n : Nat) (v : Nat → Int32) : ∀ m r su (g : Nat → Int32), (∀ r2 k, r ≤ r2 → r2 < r + m → k < n → v (r2 * n + k) = tw_grey s (kI 0 + sfx g (r2 * n) (n - k) k)) → (∀ r2 k, k < n → (tw_gr s n m r su g).2 (r2 * n + k) = if r ≤ r2 ∧ r2 < r + m then v (r2 * n + k) else g (r2 * n + k)) ∧ (tw_gr s n m r su g).1 + ism v (r * n) = su + ism v ((r + m) * n) := by
  intro m
  induction m with
  | zero =>
    intro r su g _
    refine ⟨fun r2 k hk => ?_, rfl⟩
    rw [if_neg (by omega)]
    rfl
  | succ m ih =>
    intro r su g hv
    obtain ⟨a1, a2⟩ := tw_gr1_i s (r * n) n (kI 0) su g
    have hrow : ∀ r2 k, k < n → (tw_gr1 s (r * n) n (kI 0) su g).2 (r2 * n + k) = if r2 = r then v (r2 * n + k) else g (r2 * n + k) := by
      intro r2 k hk
      rw [a1]
      by_cases c : r2 = r
      · subst c
        rw [if_pos (by omega), if_pos rfl, hv r2 k (by omega) (by omega) hk, show r2 * n + n - (r2 * n + k) = n - k by omega, show r2 * n + k - r2 * n = k by omega]
      · rw [if_neg c, if_neg]
        rintro ⟨z1, z2⟩
        have e : ∃ k3, k3 < n ∧ n * r2 + k = n * r + k3 := ⟨r2 * n + k - r * n, by omega, by rw [Nat.mul_comm n, Nat.mul_comm n]; omega⟩
        obtain ⟨k3, h3, e3⟩ := e
        exact c ((al_inj hk h3).mp e3).1
    have hsf : ∀ r2 k, r2 ≠ r → k < n → sfx (tw_gr1 s (r * n) n (kI 0) su g).2 (r2 * n) (n - k) k = sfx g (r2 * n) (n - k) k := by
      intro r2 k hr hk
      have : ∀ w k, k + w ≤ n → sfx (tw_gr1 s (r * n) n (kI 0) su g).2 (r2 * n) w k = sfx g (r2 * n) w k := by
        intro w
        induction w with
        | zero => intro k _; rfl
        | succ w ih =>
          intro k hk
          show sfx _ (r2 * n) w (k + 1) + _ = sfx g (r2 * n) w (k + 1) + g (r2 * n + k)
          rw [ih (k + 1) (by omega), hrow r2 k (by omega), if_neg hr]
      exact this (n - k) k (by omega)
    obtain ⟨b1, b2⟩ := ih (r + 1) (tw_gr1 s (r * n) n (kI 0) su g).1 (tw_gr1 s (r * n) n (kI 0) su g).2 (fun r2 k q1 q2 hk => by rw [hsf r2 k (by omega) hk]; exact hv r2 k (by omega) (by omega) hk)
    constructor
    · intro r2 k hk
      show (tw_gr s n m (r + 1) _ _).2 (r2 * n + k) = _
      rw [b1 r2 k hk, hrow r2 k hk]
      by_cases c : r2 = r
      · rw [if_neg (by omega), if_pos c, if_pos (by omega)]
      · rw [if_neg c]
        by_cases c2 : r ≤ r2 ∧ r2 < r + (m + 1)
        · rw [if_pos (by omega), if_pos c2]
        · rw [if_neg (by omega), if_neg c2]
    · show (tw_gr s n m (r + 1) _ _).1 + _ = _
      have e1 : ism v ((r + 1) * n) = ism v (r * n) + ism (fun c => v (r * n + c)) n := by rw [Nat.add_mul, Nat.one_mul, sm_add]
      have e2 : ism (fun c => tw_grey s (kI 0 + sfx g (r * n) (n - c) c)) n = ism (fun c => v (r * n + c)) n := sm_congr n (fun c hc => (hv r c (by omega) (by omega) hc).symm)
      generalize (tw_gr s n m (r + 1) (tw_gr1 s (r * n) n (kI 0) su g).1 (tw_gr1 s (r * n) n (kI 0) su g).2).1 = z at b2 ⊢
      rw [e1, a2, e2, show r + 1 + m = r + (m + 1) by omega] at b2
      generalize ism (fun c => v (r * n + c)) n = q at b2
      generalize ism v (r * n) = p at b2 ⊢
      generalize ism v ((r + (m + 1)) * n) = t at b2 ⊢
      have b3 : z + p + q = su + t + q := by
        rw [Int32.add_assoc, b2, Int32.add_assoc, Int32.add_assoc, Int32.add_comm q]
      exact (Int32.add_left_inj q).mp b3
theorem tm_gs_i (s : Int32) : ∀ w k su (G : Nat → Int32), (∀ i, (tm_gs s w k su G).2 i = if k ≤ i ∧ i < k + w then tm_gy s (G i) else G i) ∧ (tm_gs s w k su G).1 + ism (fun i => tm_gy s (G i)) k = su + ism (fun i => tm_gy s (G i)) (k + w) := by
  intro w
  induction w with
  | zero => intro k su G; exact ⟨fun i => by rw [if_neg (by omega)]; rfl, rfl⟩
  | succ w ih =>
    intro k su G
    -- the sum speaks of the grid as it was
    have gen : ∀ w k su (G H : Nat → Int32), (∀ i, k ≤ i → G i = H i) → (tm_gs s w k su G).1 + ism (fun i => tm_gy s (H i)) k = su + ism (fun i => tm_gy s (H i)) (k + w) := by
      intro w
      induction w with
      | zero => intro k su G H _; rfl
      | succ w ih =>
        intro k su G H h
        have h2 := ih (k + 1) (su + tm_gy s (G k)) (upd G k (tm_gy s (G k))) H (fun i hi => by unfold upd; rw [if_neg (by omega)]; exact h i (by omega))
        show (tm_gs s w (k + 1) _ _).1 + _ = _
        rw [show ism (fun i => tm_gy s (H i)) (k + 1) = ism (fun i => tm_gy s (H i)) k + tm_gy s (H k) from rfl, h k (Nat.le_refl _), show k + 1 + w = k + (w + 1) by omega] at h2
        rw [h k (Nat.le_refl _)]
        generalize (tm_gs s w (k + 1) (su + tm_gy s (H k)) (upd G k (tm_gy s (H k)))).1 = z at h2 ⊢
        generalize ism (fun i => tm_gy s (H i)) k = p at h2 ⊢
        generalize ism (fun i => tm_gy s (H i)) (k + (w + 1)) = t at h2 ⊢
        generalize tm_gy s (H k) = q at h2
        have b3 : z + p + q = su + t + q := by
          rw [Int32.add_assoc, h2, Int32.add_assoc, Int32.add_assoc, Int32.add_comm q]
        exact (Int32.add_left_inj q).mp b3
    refine ⟨fun i => ?_, gen (w + 1) k su G G (fun _ _ => rfl)⟩
    show (tm_gs s w (k + 1) _ _).2 i = _
    rw [(ih (k + 1) _ _).1 i]
    unfold upd
    by_cases c : i = k
    · subst c
      rw [if_neg (by omega), if_pos rfl, if_pos (by omega)]
    · rw [if_neg c]
      by_cases c2 : k ≤ i ∧ i < k + (w + 1)
      · rw [if_pos (by omega), if_pos c2]
      · rw [if_neg (by omega), if_neg c2]
theorem grey_eq {s : Int32} (hs : 32 ≤ s.toInt) (hs2 : s.toInt ≤ 256) (v : Int32) : tw_grey s v = tm_gy s v := by
  have hq := mul_bd (n := 256) (by omega) (x := s.toInt) (y := s.toInt) (by omega) (by omega)
  have hq2 : 32 * 32 ≤ s.toInt * s.toInt := Int.mul_le_mul hs hs (by omega) (by omega)
  have v1 := v.le_toInt
  have v2 := v.toInt_lt
  have e255 : (255 : Int64).toInt = 255 := by decide
  have e2 : (2 : Int64).toInt = 2 := by decide
  have k2 : (kI 2).toInt = 2 := by decide
  have a1 : (255 * v.toInt64).toInt = 255 * v.toInt := by rw [i6_mul (by rw [e255, i6_of]; omega) (by rw [e255, i6_of]; omega), e255, i6_of]
  have b1 : (kI 2 * s).toInt = 2 * s.toInt := by rw [i3_mul (by rw [k2]; omega) (by rw [k2]; omega), k2]
  have b2 : (kI 2 * s * s).toInt = 2 * (s.toInt * s.toInt) := by rw [i3_mul (by rw [b1, Int.mul_assoc]; omega) (by rw [b1, Int.mul_assoc]; omega), b1, Int.mul_assoc]
  have c1 : (2 * s.toInt64).toInt = 2 * s.toInt := by rw [i6_mul (by rw [e2, i6_of]; omega) (by rw [e2, i6_of]; omega), e2, i6_of]
  have c2 : (2 * s.toInt64 * s.toInt64).toInt = 2 * (s.toInt * s.toInt) := by rw [i6_mul (by rw [c1, i6_of, Int.mul_assoc]; omega) (by rw [c1, i6_of, Int.mul_assoc]; omega), c1, i6_of, Int.mul_assoc]
  have hE : (kI 2 * s * s).toInt64 = 2 * s.toInt64 * s.toInt64 := i6_ext (by rw [i6_of, b2, c2])
  have hr : (tm_nr (255 * v.toInt64) (2 * s.toInt64 * s.toInt64)).toInt = iR (255 * v.toInt) (2 * (s.toInt * s.toInt)) := by rw [tm_nr_i (by rw [a1]; omega) (by rw [c2]; omega) (by rw [c2]; omega), a1, c2]
  have hlo : -2 ^ 30 ≤ iR (255 * v.toInt) (2 * (s.toInt * s.toInt)) := iR_lo (by omega) (by omega)
  have hhi : iR (255 * v.toInt) (2 * (s.toInt * s.toInt)) ≤ 2 ^ 30 := iR_hi (by omega) (by omega)
  unfold tw_grey tm_gy
  rw [hE, hvU_nr (by rw [c2]; omega) (by rw [c2]; omega)]
  generalize tm_nr (255 * v.toInt64) (2 * s.toInt64 * s.toInt64) = u at hr ⊢
  rw [← hr] at hlo hhi
  have hu : u.toInt32.toInt = u.toInt := i3_of (by omega) (by omega)
  have k255 : (kI 255).toInt = 255 := by decide
  have k0 : (kI 0).toInt = 0 := by decide
  have l0 := lg_cmp_0 u
  have l255 := lg_cmp_255 u
  by_cases h1 : u.toInt < 255
  · rw [if_pos (c := u.toInt32 < kI 255) (by rw [lt3, hu, k255]; exact h1)]
    by_cases h2 : 0 < u.toInt
    · rw [if_pos (by rw [lt3, hu, k0]; exact h2), if_pos (by rw [l0]; omega), if_pos (by rw [l255]; omega)]
    · rw [if_neg (by rw [lt3, hu, k0]; exact h2)]
      by_cases h3 : u.toInt < 0
      · rw [if_neg (by rw [l0]; omega)]
      · rw [if_pos (by rw [l0]; omega), if_pos (by rw [l255]; omega)]
        exact i3_ext (by rw [hu, k0]; omega)
  · rw [if_neg (c := u.toInt32 < kI 255) (by rw [lt3, hu, k255]; exact h1), if_pos (by decide), if_pos (by rw [l0]; omega)]
    by_cases h4 : u.toInt ≤ 255
    · rw [if_pos (by rw [l255]; exact h4)]
      exact i3_ext (by rw [hu, k255]; omega)
    · rw [if_neg (by rw [l255]; exact h4)]
theorem greys_eq {al : Nat} {s : Int32} (hs : 32 ≤ s.toInt) (hs2 : s.toInt ≤ 256) {g G : Nat → Int32} (h : rG al g G) : (tw_gr s al al 0 (kI 0) g).1 = (tm_gs s (al * al) 0 (kI 0) G).1 ∧ ∀ r k, r < al → k < al → (tw_gr s al al 0 (kI 0) g).2 (r * al + k) = (tm_gs s (al * al) 0 (kI 0) G).2 (al * r + k) := by
  obtain ⟨a1, a2⟩ := tm_gs_i s (al * al) 0 (kI 0) G
  obtain ⟨b1, b2⟩ := tw_gr_i s al (fun i => tm_gy s (G i)) al 0 (kI 0) g (fun r2 k _ q2 hk => by
    rw [grey_eq hs hs2, Nat.mul_comm r2, h r2 k (by omega) hk, Nat.mul_comm r2, show kI 0 = 0 from rfl, Int32.zero_add])
  constructor
  · rw [Nat.zero_mul, Nat.zero_add] at b2
    rw [Nat.zero_add] at a2
    have e : ∀ x : Int32, x + ism (fun i => tm_gy s (G i)) 0 = x := fun x => Int32.add_zero x
    rw [e] at a2 b2
    rw [a2, b2]
  · intro r k hr hk
    have hlt : r * al + k < al * al := by
      have := Nat.mul_le_mul_right al (show r + 1 ≤ al by omega)
      rw [Nat.add_mul, Nat.one_mul] at this
      omega
    rw [b1 r k hk, if_pos (by omega), a1, if_pos (by rw [Nat.mul_comm al r]; omega), Nat.mul_comm al r]
theorem tm_cnt_i {Co : Nat → Int32} {sz c fi e : Nat} (he : fi ≤ e) (hes : e ≤ sz) (hsz : sz ≤ 160) (hc : c ≤ 160) (h1 : ∀ i, fi ≤ i → i < e → Co i = nI c) (h2 : e < sz → ∃ c2, c2 ≤ 160 ∧ c2 ≠ c ∧ Co e = nI c2) : ∀ w n, fi + n ≤ e → sz - fi ≤ n + w → tm_cnt Co sz c fi w n = e - fi := by
  intro w
  induction w with
  | zero =>
    intro n q1 q2
    show n = e - fi
    omega
  | succ w ih =>
    intro n q1 q2
    by_cases c3 : fi + n < e
    · rw [show tm_cnt Co sz c fi (w + 1) n = tm_cnt Co sz c fi w (n + 1) from if_pos ⟨by omega, h1 _ (by omega) c3⟩]
      exact ih (n + 1) (by omega) (by omega)
    · have hn : fi + n = e := by omega
      rw [show tm_cnt Co sz c fi (w + 1) n = n from if_neg (by
        rintro ⟨z1, z2⟩
        rw [hn] at z1 z2
        obtain ⟨c2, d1, d2, d3⟩ := h2 z1
        rw [d3] at z2
        exact d2 ((nI_eq (by omega) (by omega)).mp z2))]
      omega
/-- all contours -/
theorem draw_R {S : tc_S} {X2 Y2 O2 Co gM : Nat → Int32} {b : Int32} {st : Nat → Nat} {nc sz : Nat} (hal : S.ca ≤ 64) (hs : 0 < S.cs.toInt) (hs2 : S.cs.toInt ≤ 256) (H : hgt S.hn S.hy gM) (hsz : sz ≤ 160) (hst : ∀ z, z ≤ nc → S.oA 3 z = nI (st z) ∧ st z ≤ sz) (hst3 : ∀ z, z < nc → st z + 3 ≤ st (z + 1)) (hnc : st nc = sz) (hco : ∀ z, z < nc → ∀ i, st z ≤ i → i < st (z + 1) → Co i = nI z) (hncb : nc ≤ 160) (hB : ∀ p, p < sz → iB 100000 (S.oA 0 p) ∧ iB 100000 (S.oA 1 p)) (hq : ∀ p, p < sz → X2 p = S.oA 0 p ∧ Y2 p = S.oA 1 p ∧ O2 p = S.oA 2 p) : ∀ m c (w : tw_PW) (g : Nat → Int32) (D : tm_D), c + m = nc → rG S.ca g D.2.2 → rG S.ca (tc_drw S b m c w g).2 (tm_drc X2 Y2 O2 Co (tm_fit b S.hn gM S.cs) S.ca S.cs 7 1 sz m c (st c) D).2.2 := by
  intro m
  induction m with
  | zero => intro c w g D _ h; exact h
  | succ m ih =>
    intro c w g D hc h
    obtain ⟨e1, l1⟩ := hst c (by omega)
    obtain ⟨e2, l2⟩ := hst (c + 1) (by omega)
    have l3 := hst3 c (by omega)
    have hcnt : tm_cnt Co sz c (st c) (sz - st c) 0 = st (c + 1) - st c := by
      refine tm_cnt_i (by omega) l2 hsz (by omega) (hco c (by omega)) (fun hlt => ?_) _ 0 (by omega) (by omega)
      have hcn : c + 1 < nc := by
        rcases Nat.lt_or_ge (c + 1) nc with z | z
        · exact z
        · have : c + 1 = nc := by omega
          rw [this] at hlt
          omega
      exact ⟨c + 1, by omega, by omega, hco (c + 1) hcn _ (Nat.le_refl _) (by have := hst3 (c + 1) hcn; omega)⟩
    show rG S.ca (tc_drw S b m (c + 1) (tc_fitw S b (tc_path S c w)) _).2 (tm_drc X2 Y2 O2 Co (tm_fit b S.hn gM S.cs) S.ca S.cs 7 1 sz m (c + 1) (st c + tm_cnt Co sz c (st c) (sz - st c) 0) (tm_ct X2 Y2 O2 (tm_fit b S.hn gM S.cs) S.ca S.cs 7 1 (st c) (tm_cnt Co sz c (st c) (sz - st c) 0) (tm_cnt Co sz c (st c) (sz - st c) 0) 0 D)).2.2
    rw [hcnt, show st c + (st (c + 1) - st c) = st (c + 1) by omega]
    refine ih (c + 1) _ _ _ (by omega) ?_
    obtain ⟨n, hn⟩ : ∃ n, st (c + 1) = st c + n := ⟨st (c + 1) - st c, by omega⟩
    rw [hn, show st c + n - st c = n by omega]
    refine contour_R hal hs hs2 (fun y hy => fit_B H hs hs2 hy) (by omega) (fun p hp => hB p (by omega)) (fun p hp => hq p (by omega)) (O := S.oA 2) ?_ h
    have hp : pl (tc_path S c w) (ctl (S.oA 0) (S.oA 1) (S.oA 2) 7 1 (st c) n n 0) := by
      unfold tc_path
      rw [e1, e2, nI_clamp (by omega), nI_clamp (by omega), hn, show st c + n - st c = n by omega]
      have := tw_fol_l (O := S.oA 2) (fi := st c) (n := n) (by omega) (fun p hp => hB p (by omega)) n 0 (0, w.2.1, w.2.2) [] (by omega) ⟨rfl, fun i c hc => by cases hc⟩
      rw [List.nil_append, Nat.add_zero] at this
      exact this
    unfold tc_fitw
    by_cases hb : b = 0
    · rw [if_pos hb]
      have : (fun c : Int32 × Int32 => (c.1, tm_fit b S.hn gM S.cs c.2)) = fun c => c := by
        funext c
        unfold tm_fit
        rw [if_pos (Or.inl hb)]
      rw [this, List.map_id']
      exact hp
    · rw [if_neg hb]
      have : (fun c : Int32 × Int32 => (c.1, tm_fit b S.hn gM S.cs c.2)) = fun c => (c.1, tw_fit S.hy c.2 S.cs S.hn) := by
        funext c
        rw [fit_eq H hs hs2 hb]
      rw [this]
      exact pl_fit hp S.hy S.hn S.cs
theorem tw_fl_i (x : Int32) : ∀ m k (g : Nat → Int32) i, tw_fl x m k g i = if k ≤ i ∧ i < k + m then x else g i := by
  intro m
  induction m with
  | zero => intro k g i; rw [if_neg (by omega)]; rfl
  | succ m ih =>
    intro k g i
    show tw_fl x m (k + 1) (upd g k x) i = _
    rw [ih]
    unfold upd
    by_cases c : i = k
    · subst c
      rw [if_neg (by omega), if_pos rfl, if_pos (by omega)]
    · rw [if_neg c]
      by_cases c2 : k ≤ i ∧ i < k + (m + 1)
      · rw [if_pos (by omega), if_pos c2]
      · rw [if_neg (by omega), if_neg c2]
theorem rG_0 (al : Nat) (g G : Nat → Int32) : rG al (tw_fl (kI 0) (al * al) 0 g) (tw_fl (kI 0) (al * al) 0 G) := by
  intro r k hr hk
  have hlt : r * al + al ≤ al * al := by
    have := Nat.mul_le_mul_right al (show r + 1 ≤ al by omega)
    rw [Nat.add_mul, Nat.one_mul] at this
    exact this
  rw [tw_fl_i, if_pos (by rw [Nat.mul_comm al r]; omega)]
  have : ∀ w k, k + w ≤ al → sfx (tw_fl (kI 0) (al * al) 0 g) (r * al) w k = kI 0 := by
    intro w
    induction w with
    | zero => intro k _; rfl
    | succ w ih =>
      intro k hk
      show sfx _ (r * al) w (k + 1) + tw_fl (kI 0) (al * al) 0 g (r * al + k) = kI 0
      rw [ih (k + 1) (by omega), tw_fl_i, if_pos (by omega)]
      rfl
  exact (this (al - k) k (by omega)).symm
