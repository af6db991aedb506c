/-! draw: contour by contour, and the greys -/
theorem qdl_B {a b x y x1 y1 : Int32} (ha : iB 100000 a) (hb : iB 100000 b) (hx : iB 100000 x) (hy : iB 100000 y) (hx1 : iB 100000 x1) (hy1 : iB 100000 y1) : ∀ w k, k + w ≤ 8 → ∀ c ∈ qdl a b x y x1 y1 w k, iB 100000 c.1 ∧ iB 100000 c.2 := by
  intro w
  induction w with
  | zero =>
    intro k _ c hc
    rw [show qdl a b x y x1 y1 0 k = [(x1, y1)] from rfl, List.mem_singleton] at hc
    rw [hc]
    exact ⟨hx1, hy1⟩
  | succ w ih =>
    intro k hk c hc
    rw [show qdl a b x y x1 y1 (w + 1) k = (tm_qp a x x1 (nI k), tm_qp b y y1 (nI k)) :: qdl a b x y x1 y1 w (k + 1) from rfl, List.mem_cons] at hc
    rcases hc with hc | hc
    · rw [hc]
      exact ⟨tm_qp_B (by omega) ha hx hx1, tm_qp_B (by omega) hb hy hy1⟩
    · exact ih (k + 1) (by omega) c hc
theorem crl_B {X Y O : Nat → Int32} {w0 k0 p e r : Nat} (hwk : k0 + w0 ≤ 8) (hp : iB 100000 (X p) ∧ iB 100000 (Y p)) (he : iB 100000 (X e) ∧ iB 100000 (Y e)) (hr : iB 100000 (X r) ∧ iB 100000 (Y r)) : ∀ c ∈ crl X Y O w0 k0 p e r, iB 100000 c.1 ∧ iB 100000 c.2 := by
  unfold crl
  by_cases h : O p = 0
  · rw [if_pos h]
    exact qdl_B (tm_e1_B hr.1 hp.1) (tm_e1_B hr.2 hp.2) hp.1 hp.2 (tm_e2_B hp.1 he.1) (tm_e2_B hp.2 he.2) w0 k0 hwk
  · rw [if_neg h]
    by_cases h2 : O e = 0
    · rw [if_pos h2]
      intro c hc
      cases hc
    · rw [if_neg h2]
      intro c hc
      rw [List.mem_singleton] at hc
      rw [hc]
      exact he
theorem ctl_B {X Y O : Nat → Int32} {w0 k0 fi n : Nat} (hwk : k0 + w0 ≤ 8) (hB : ∀ p, p < fi + n → iB 100000 (X p) ∧ iB 100000 (Y p)) : ∀ w k, k + w = n → ∀ c ∈ ctl X Y O w0 k0 fi n w k, iB 100000 c.1 ∧ iB 100000 c.2 := by
  intro w
  induction w with
  | zero => intro k _ c hc; cases hc
  | succ w ih =>
    intro k hk c hc
    rw [show ctl X Y O w0 k0 fi n (w + 1) k = crl X Y O w0 k0 (fi + k) (nxt fi n k) (prv fi n k) ++ ctl X Y O w0 k0 fi n w (k + 1) from rfl, List.mem_append] at hc
    rcases hc with hc | hc
    · exact crl_B hwk (hB _ (by omega)) (hB _ (by unfold nxt; have := Nat.mod_lt (k + 1) (show 0 < n by omega); omega)) (hB _ (by unfold prv; have := Nat.mod_lt (k + n - 1) (show 0 < n by omega); omega)) c hc
    · exact ih (k + 1) (by omega) c hc
theorem crl_congr {X Y O X2 Y2 O2 : Nat → Int32} {w0 k0 p e r : Nat} (hp : X p = X2 p ∧ Y p = Y2 p ∧ O p = O2 p) (he : X e = X2 e ∧ Y e = Y2 e ∧ O e = O2 e) (hr : X r = X2 r ∧ Y r = Y2 r ∧ O r = O2 r) : crl X Y O w0 k0 p e r = crl X2 Y2 O2 w0 k0 p e r := by
  unfold crl tm_e1 tm_e2
  rw [hp.1, hp.2.1, hp.2.2, he.1, he.2.1, he.2.2, hr.1, hr.2.1, hr.2.2]
theorem ctl_congr {X Y O X2 Y2 O2 : Nat → Int32} {w0 k0 fi n : Nat} (hq : ∀ p, p < fi + n → X p = X2 p ∧ Y p = Y2 p ∧ O p = O2 p) : ∀ w k, k + w = n → ctl X Y O w0 k0 fi n w k = ctl X2 Y2 O2 w0 k0 fi n w k := by
  intro w
  induction w with
  | zero => intro k _; rfl
  | succ w ih =>
    intro k hk
    rw [show ctl X Y O w0 k0 fi n (w + 1) k = crl X Y O w0 k0 (fi + k) (nxt fi n k) (prv fi n k) ++ ctl X Y O w0 k0 fi n w (k + 1) from rfl, ih (k + 1) (by omega), crl_congr (hq _ (by omega)) (hq _ (by unfold nxt; have := Nat.mod_lt (k + 1) (show 0 < n by omega); omega)) (hq _ (by unfold prv; have := Nat.mod_lt (k + n - 1) (show 0 < n by omega); omega))]
    rfl
/-- the cells hold the grid's differences -/
def rG (al : Nat) (g G : Nat → Int32) : Prop := ∀ r k, r < al → k < al → G (al * r + k) = sfx g (r * al) (al - k) k
def apl (s : Int32) (n : Nat) : tw_CL → Int32 × Int32 → (Nat → Int32) → Nat → Int32
  | [], _, g => g
  | c :: l, p, g => apl s n l c (tw_edge g s n p.1 p.2 c.1 c.2)
theorem apl_R {F : Int32 → Int32} {al : Nat} {s : Int32} (hal : al ≤ 64) (hs : 0 < s.toInt) (hs2 : s.toInt ≤ 256) (hF : ∀ y, iB 100000 y → iB 1000000 (F y)) : ∀ (l : tw_CL) (p : Int32 × Int32) (g G : Nat → Int32), (∀ c ∈ l, iB 100000 c.1 ∧ iB 100000 c.2) → iB 100000 p.1 ∧ iB 100000 p.2 → rG al g G → rG al (apl s al (l.map (fun c => (c.1, F c.2))) (p.1, F p.2) g) (lts F al s l (p.1, p.2, G)).2.2 := by
  intro l
  induction l with
  | nil => intro p g G _ _ h; exact h
  | cons c l ih =>
    intro p g G hl hp h
    have hc := hl c (List.mem_cons_self ..)
    refine ih c _ _ (fun e he => hl e (List.mem_cons_of_mem _ he)) hc ?_
    intro r k hr hk
    show tm_lin al s p.1 (F p.2) c.1 (F c.2) G (al * r + k) = sfx (tw_edge g s al p.1 (F p.2) c.1 (F c.2)) (r * al) (al - k) k
    rw [tm_lin_i hal hs hs2 (iB_w hp.1) (iB_w hc.1) (hF _ hp.2) (hF _ hc.2) hr hk G, tw_edge_i hal hs hs2 (iB_w hp.1) (hF _ hp.2) (iB_w hc.1) (hF _ hc.2) hr hk g, h r k hr hk]
theorem tw_apath_l {s : Int32} {n : Nat} {X Y : Nat → Int32} : ∀ (l : tw_CL) k e (g : Nat → Int32), (∀ i c, l[i]? = some c → X (k + i) = c.1 ∧ Y (k + i) = c.2) → tw_apath s n X Y l.length k e g = apl s n l (X e, Y e) g := by
  intro l
  induction l with
  | nil => intro k e g _; rfl
  | cons c l ih =>
    intro k e g h
    have h0 := h 0 c rfl
    rw [Nat.add_zero] at h0
    show tw_apath s n X Y l.length (k + 1) k (tw_edge g s n (X e) (Y e) (X k) (Y k)) = apl s n l c (tw_edge g s n (X e) (Y e) c.1 c.2)
    rw [ih (k + 1) k _ (fun i c hi => by have := h (i + 1) c hi; rw [show k + 1 + i = k + (i + 1) by omega]; exact this), h0.1, h0.2]
theorem lpen_last : ∀ (l : tw_CL) (c : Int32 × Int32) (i : Nat), i + 1 = l.length → l[i]? = some c → ∀ p, lpen l p = c := by
  intro l
  induction l with
  | nil => intro c i h; simp at h
  | cons a l ih =>
    intro c i hi hc p
    cases l with
    | nil =>
      have : i = 0 := by simp at hi; omega
      subst this
      exact Option.some.inj hc
    | cons b l =>
      cases i with
      | zero => simp at hi
      | succ i => exact ih c i (by simpa using hi) hc a
theorem tw_pfit_i {g : Nat → Int32} {h : Nat} {s : Int32} : ∀ m k (y : Nat → Int32) i, tw_pfit g h s m k y i = if k ≤ i ∧ i < k + m then tw_fit g (y i) s h else y i := by
  intro m
  induction m with
  | zero => intro k y i; rw [if_neg (by omega)]; rfl
  | succ m ih =>
    intro k y i
    show tw_pfit g h s m (k + 1) (upd y k (tw_fit g (y k) s h)) i = _
    rw [ih]
    unfold upd
    by_cases c : i = k
    · subst c
      rw [if_neg (by omega), if_pos rfl, if_pos (by omega)]
    · rw [if_neg c]
      by_cases c2 : k ≤ i ∧ i < k + (m + 1)
      · rw [if_pos (by omega), if_pos c2]
      · rw [if_neg (by omega), if_neg c2]
theorem pl_fit {w : tw_PW} {l : tw_CL} (h : pl w l) (g : Nat → Int32) (n : Nat) (s : Int32) : pl (w.1, w.2.1, tw_pfit g n s w.1 0 w.2.2) (l.map (fun c => (c.1, tw_fit g c.2 s n))) := by
  obtain ⟨h1, h2⟩ := h
  refine ⟨by rw [List.length_map]; exact h1, ?_⟩
  intro i c hc
  rw [List.getElem?_map] at hc
  cases hi : l[i]? with
  | none => rw [hi] at hc; cases hc
  | some e =>
    rw [hi] at hc
    have he := Option.some.inj hc
    have hlt : i < l.length := by
      rcases Nat.lt_or_ge i l.length with z | z
      · exact z
      · rw [List.getElem?_eq_none z] at hi; cases hi
    obtain ⟨a1, a2⟩ := h2 i e hi
    show w.2.1 i = c.1 ∧ tw_pfit g n s w.1 0 w.2.2 i = c.2
    rw [tw_pfit_i, if_pos (by omega), ← he, a1, a2]
    exact ⟨rfl, rfl⟩
/-- a whole contour -/
theorem contour_R {X Y O X2 Y2 O2 : Nat → Int32} {F : Int32 → Int32} {al : Nat} {s : Int32} (hal : al ≤ 64) (hs : 0 < s.toInt) (hs2 : s.toInt ≤ 256) (hF : ∀ y, iB 100000 y → iB 1000000 (F y)) {fi n : Nat} (hn0 : 0 < n) (hB : ∀ p, p < fi + n → iB 100000 (X p) ∧ iB 100000 (Y p)) (hq : ∀ p, p < fi + n → X2 p = X p ∧ Y2 p = Y p ∧ O2 p = O p) {w : tw_PW} (hw : pl w ((ctl X Y O 7 1 fi n n 0).map (fun c => (c.1, F c.2)))) {g : Nat → Int32} {D : tm_D} (h : rG al g D.2.2) : rG al (tw_apath s al w.2.1 w.2.2 w.1 0 (w.1 - 1) g) (tm_ct X2 Y2 O2 F al s 7 1 fi n n 0 D).2.2 := by
  obtain ⟨h1, h2⟩ := hw
  rw [tm_ct_l X2 Y2 O2 F al s 7 1 fi n n 0 D (by omega) hn0, ctl_congr hq n 0 (by omega)]
  rw [h1, tw_apath_l _ 0 _ g (fun i c hi => by rw [Nat.zero_add]; exact h2 i c hi)]
  have hst : stp X2 Y2 O2 (fi + 0) (prv fi n 0) = stp X Y O (fi + 0) (prv fi n 0) := by
    rw [(prv_0 hn0).1]
    unfold stp tm_e1
    obtain ⟨a1, a2, a3⟩ := hq (fi + 0) (by omega)
    obtain ⟨b1, b2, b3⟩ := hq (fi + (n - 1)) (by omega)
    rw [a1, a2, a3, b1, b2, b3]
  rw [hst]
  have hpe := ctl_pen X Y O 7 1 fi n n 0 (by omega) hn0
  have hstB : iB 100000 (stp X Y O (fi + 0) (prv fi n 0)).1 ∧ iB 100000 (stp X Y O (fi + 0) (prv fi n 0)).2 := by
    rw [(prv_0 hn0).1]
    have a := hB (fi + 0) (by omega)
    have b := hB (fi + (n - 1)) (by omega)
    unfold stp
    split
    · exact ⟨tm_e1_B b.1 a.1, tm_e1_B b.2 a.2⟩
    · exact a
  have hlB := ctl_B (O := O) (w0 := 7) (k0 := 1) (by omega) hB n 0 (by omega)
  rw [(prv_0 hn0).1, Nat.add_zero] at *
  generalize stp X Y O fi (fi + (n - 1)) = p at hpe hstB ⊢
  generalize hl : ctl X Y O 7 1 fi n n 0 = l at *
  have hgoal := apl_R hal hs hs2 hF l p g D.2.2 hlB hstB h
  cases hll : l with
  | nil => rw [hll] at hgoal; exact hgoal
  | cons a l3 =>
    have hlen : 0 < l.length := by rw [hll]; simp
    obtain ⟨c, hc⟩ : ∃ c, l[l.length - 1]? = some c := ⟨_, List.getElem?_eq_getElem (by omega)⟩
    have hcp : c = p := by
      rw [← lpen_last l c (l.length - 1) (by omega) hc p]
      exact hpe
    have hX := h2 (l.length - 1) (c.1, F c.2) (by rw [List.getElem?_map, hc]; rfl)
    rw [← hll, List.length_map, hX.1, hX.2, hcp]
    exact hgoal
