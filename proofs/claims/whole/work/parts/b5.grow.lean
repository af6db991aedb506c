/-! the class's world grows: a part, a rule, a glyph -/
def tc_compG (G H : tc_G) (j : Nat) (dx dy : Int32) (t : Nat) : tc_G := tc_G_mk G.X G.Y G.W G.O G.E G.pt G.ct (max G.dp (H.dp + 1)) G.lk G.cp (G.pc + 1) (G.pp + tc_op H) (G.ps + tc_oc H) (va_up G.src G.pc j) (upd G.dx G.pc dx) (upd G.dy G.pc dy) (va_up G.tu G.pc t)
def tc_lkG (G : tc_G) : tc_G := tc_G_mk G.X G.Y G.W G.O G.E G.pt G.ct G.dp true G.cp G.pc G.pp G.ps G.src G.dx G.dy G.tu
def tc_wT (S : tc_S) (n : Nat) (T : Nat → tc_G) : tc_S := tc_S_mk S.mm S.u S.w n T S.oc S.op S.oA S.pz S.px S.py S.hn S.hy S.cs S.ca S.ce S.kp S.kl S.kr S.kc S.kL S.kR S.kO S.row S.rs S.ts S.rn S.pu S.tx S.R
def tc_comp (i j : Nat) (dx dy : Int32) (t : Nat) (S : tc_S) : tc_S := tc_wT S S.n (va_up (va_up S.T i (tc_compG (S.T i) (S.T j) j dx dy t)) j (tc_lkG (S.T j)))
def tc_glyph (S : tc_S) : tc_S := tc_wT S (S.n + 1) (va_up S.T S.n tc_G0)
def tc_ruleS (lo : Int32) (be ip af : Int64) (ou : Int32) (S : tc_S) : tc_S := tc_S_mk S.mm S.u S.w S.n S.T S.oc S.op S.oA S.pz S.px S.py S.hn S.hy S.cs S.ca S.ce S.kp S.kl S.kr S.kc S.kL S.kR S.kO S.row S.rs S.ts (S.rn + 1) S.pu S.tx (va_up S.R S.rn (lo, be, ip, af, ou))
section
variable {q : Nat → ClassId} {ad : Nat → Nat} {S S1 : tc_S} {B : Nat → Prop} {L : List Nat} {f : tf_F}
theorem tc_uF_up {kn a : Nat} : ∀ (es : List (Nat × va_E)) (f : tf_F), (∀ p ∈ es, p.1 ≠ kn) → tc_uF (va_up ad kn a) f es = tc_uF ad f es := by
  intro es
  induction es with
  | nil => intro f _; rfl
  | cons p es ih =>
    intro f h
    show tc_uF (va_up ad kn a) (va_up f (va_up ad kn a p.1) p.2) es = tc_uF ad (va_up f (ad p.1) p.2) es
    rw [va_up_ne _ _ (h p List.mem_cons_self), ih _ (fun x hx => h x (List.mem_cons_of_mem _ hx))]
/-- one new cell, and new contents of old ones -/
theorem tc_grow (h : tc_at q ad S B L f) {kn a : Nat} (ea : va_E) (hkn : tc_E q ad S kn = none) (ha : a ∉ L) (hBL : ∀ z, B z → z ∈ L) (es : List (Nat × va_E)) (hl : ∀ p ∈ es, (tc_E q ad S p.1).isSome = true) (hE : ∀ k, tc_E q (va_up ad kn a) S1 k = tc_uE (va_up (tc_E q ad S) kn (some ea)) es k) : tc_at q (va_up ad kn a) S1 B (L ++ [a]) (tc_uF ad (va_up f a ea) es) ∧ ∀ z, B z → tc_uF ad (va_up f a ea) es z = f z := by
  have hne : ∀ p ∈ es, p.1 ≠ kn := fun p hp e => by
    have := hl p hp
    rw [e, hkn] at this
    cases this
  have hl2 : ∀ p ∈ es, (va_up (tc_E q ad S) kn (some ea) p.1).isSome = true := fun p hp => by rw [va_up_ne _ _ (hne p hp)]; exact hl p hp
  have h1 := tc_ups es (tc_new h.1 ea hkn ha) hl2
  rw [tc_uF_up es _ hne] at h1
  have e : tc_E q (va_up ad kn a) S1 = tc_uE (va_up (tc_E q ad S) kn (some ea)) es := funext hE
  refine ⟨⟨by rw [e]; exact h1, fun k hk => ?_⟩, fun z hz => ?_⟩
  · by_cases hkk : k = kn
    · rw [hkk, va_up_self]
      exact fun hb => ha (hBL a hb)
    · rw [va_up_ne _ _ hkk]
      rw [e] at hk
      have := tc_uE_is2 es hl2 hk
      rw [va_up_ne _ _ hkk] at this
      exact h.2 k this
  · have e1 : tc_uF ad (va_up f a ea) es z = va_up f a ea z := tc_uF_ne es (fun p hp e9 => h.2 p.1 (hl p hp) (e9 ▸ hz))
    rw [e1]
    exact va_up_ne _ _ (fun e9 => ha (e9 ▸ hBL z hz))
theorem tc_E_k {g c : Nat} (hc : c < 16) : tc_E q ad S (tc_k g c) = tc_gE q ad S g c := by
  have e1 : (tc_k g c - 80) / 16 = g := by unfold tc_k; omega
  have e2 : (tc_k g c - 80) % 16 = c := by unfold tc_k; omega
  rw [tc_E, if_neg (by unfold tc_k; omega), if_neg (by unfold tc_k; omega), e1, e2]
theorem key_cases (k : Nat) : k < 32 ∨ (32 ≤ k ∧ k < 80) ∨ ∃ g c, c < 16 ∧ k = tc_k g c := by
  rcases Nat.lt_or_ge k 32 with h | h
  · exact Or.inl h
  · rcases Nat.lt_or_ge k 80 with h2 | h2
    · exact Or.inr (Or.inl ⟨h, h2⟩)
    · exact Or.inr (Or.inr ⟨(k - 80) / 16, (k - 80) % 16, Nat.mod_lt _ (by decide), by unfold tc_k; omega⟩)
theorem tc_k_inj {g c g2 c2 : Nat} (hc : c < 16) (hc2 : c2 < 16) : tc_k g c = tc_k g2 c2 ↔ g = g2 ∧ c = c2 := by
  unfold tc_k
  constructor
  · intro h; omega
  · rintro ⟨rfl, rfl⟩; rfl
/-- a part more -/
theorem tc_addPart (h : tc_at q ad S B L f) (hcl : tc_cl S) {i j t a : Nat} {dx dy : Int32} (hi : i < S.n) (hj : j < S.n) (hij : i ≠ j) (hpc : (S.T i).pc < 4) (ha : a ∉ L) (hBL : ∀ z, B z → z ∈ L) (o1 o2 : va_E) (ho1 : (tc_gL q ad S.mm i (tc_compG (S.T i) (S.T j) j dx dy t))[0]? = some o1) (ho2 : (tc_gL q ad S.mm j (tc_lkG (S.T j)))[0]? = some o2) : tc_at q (va_up ad (tc_k i (8 + (S.T i).pc)) a) (tc_comp i j dx dy t S) B (L ++ [a]) (va_up (va_up (va_up (va_up f a (to 7 [.ref (ad (tc_k j 0)), .int dx, .int dy, .int (nI t)])) (ad (tc_k i 6)) (tr 6 q 4 (va_up (tc_pa ad i (S.T i).pc) (S.T i).pc (some a)))) (ad (tc_k i 0)) o1) (ad (tc_k j 0)) o2) ∧ ∀ z, B z → (va_up (va_up (va_up (va_up f a (to 7 [.ref (ad (tc_k j 0)), .int dx, .int dy, .int (nI t)])) (ad (tc_k i 6)) (tr 6 q 4 (va_up (tc_pa ad i (S.T i).pc) (S.T i).pc (some a)))) (ad (tc_k i 0)) o1) (ad (tc_k j 0)) o2) z = f z := by
  have hkn : tc_E q ad S (tc_k i (8 + (S.T i).pc)) = none := by
    rw [tc_E_k (by omega), tc_gE, if_pos hi, if_neg (by omega), if_neg (by omega)]
  refine tc_grow h (kn := tc_k i (8 + (S.T i).pc)) (S1 := tc_comp i j dx dy t S) (to 7 [.ref (ad (tc_k j 0)), .int dx, .int dy, .int (nI t)]) hkn ha hBL [(tc_k i 6, tr 6 q 4 (va_up (tc_pa ad i (S.T i).pc) (S.T i).pc (some a))), (tc_k i 0, o1), (tc_k j 0, o2)] (fun p hp => ?_) (fun k => ?_)
  · simp only [List.mem_cons, List.not_mem_nil, or_false] at hp
    rcases hp with rfl | rfl | rfl
    · exact tc_isG hi (by decide)
    · exact tc_isG hi (by decide)
    · exact tc_isG hj (by decide)
  · have hag : ∀ k, (tc_E q ad S k).isSome = true → va_up ad (tc_k i (8 + (S.T i).pc)) a k = ad k := fun k hk => va_up_ne _ _ (fun e => by rw [e, hkn] at hk; cases hk)
    have hcg := tc_congr (q := q) (ad := ad) (ad2 := va_up ad (tc_k i (8 + (S.T i).pc)) a) hcl hag
    rw [← hcg]
    generalize hA : va_up ad (tc_k i (8 + (S.T i).pc)) a = A at hag
    have A0 : ∀ g c, c < 8 → A (tc_k g c) = ad (tc_k g c) := fun g c hc => by
      rw [← hA]
      exact va_up_ne _ _ (fun e => by have := ((tc_k_inj (by omega) (by omega)).mp e).2; omega)
    have hAn : A (tc_k i (8 + (S.T i).pc)) = a := by rw [← hA]; exact va_up_self _ _ _
    have hAp : ∀ g z, ¬ (g = i ∧ z = (S.T i).pc) → z < 8 → A (tc_k g (8 + z)) = ad (tc_k g (8 + z)) := fun g z hz hz8 => by
      rw [← hA]
      exact va_up_ne _ _ (fun e => hz (by have := (tc_k_inj (by omega) (by omega)).mp e; exact ⟨this.1, by omega⟩))
    show tc_E q A (tc_comp i j dx dy t S) k = va_up (va_up (va_up (va_up (tc_E q A S) (tc_k i (8 + (S.T i).pc)) _) (tc_k i 6) _) (tc_k i 0) _) (tc_k j 0) _ k
    rcases key_cases k with hk | hk | ⟨g, c, hc, rfl⟩
    · rw [va_up_ne _ _ (by unfold tc_k; omega), va_up_ne _ _ (by unfold tc_k; omega), va_up_ne _ _ (by unfold tc_k; omega), va_up_ne _ _ (by unfold tc_k; omega), tc_E, tc_E, if_pos hk, if_pos hk]
      rfl
    · rw [va_up_ne _ _ (by unfold tc_k; omega), va_up_ne _ _ (by unfold tc_k; omega), va_up_ne _ _ (by unfold tc_k; omega), va_up_ne _ _ (by unfold tc_k; omega), tc_E, tc_E, if_neg (show ¬ k < 32 by omega), if_neg (show ¬ k < 32 by omega), if_pos hk.2, if_pos hk.2]
      rfl
    · have hT : (tc_comp i j dx dy t S).T = va_up (va_up S.T i (tc_compG (S.T i) (S.T j) j dx dy t)) j (tc_lkG (S.T j)) := rfl
      have hN : (tc_comp i j dx dy t S).n = S.n := rfl
      have hM : (tc_comp i j dx dy t S).mm = S.mm := rfl
      rw [tc_E_k hc]
      by_cases ej : g = j
      · subst ej
        by_cases ec : c = 0
        · subst ec
          rw [va_up_self, tc_gE, hN, if_pos hj, if_pos (by decide), hT, hM, va_up_self, ← ho2]
          unfold tc_gL
          rw [A0 g 1 (by decide), A0 g 2 (by decide), A0 g 3 (by decide), A0 g 4 (by decide), A0 g 5 (by decide), A0 g 6 (by decide)]
          rfl
        · rw [va_up_ne _ _ (fun e => ec ((tc_k_inj hc (by decide)).mp e).2), va_up_ne _ _ (fun e => hij ((tc_k_inj hc (by decide)).mp e).1.symm), va_up_ne _ _ (fun e => hij ((tc_k_inj hc (by decide)).mp e).1.symm), va_up_ne _ _ (fun e => hij ((tc_k_inj hc (by omega)).mp e).1.symm), tc_E_k hc, tc_gE, tc_gE, hN, if_pos hj, if_pos hj, hT, hM, va_up_self]
          by_cases c8 : c < 8
          · rw [if_pos c8, if_pos c8]
            rcases (show c = 1 ∨ c = 2 ∨ c = 3 ∨ c = 4 ∨ c = 5 ∨ c = 6 ∨ c = 7 by omega) with rfl | rfl | rfl | rfl | rfl | rfl | rfl <;> rfl
          · rw [if_neg c8, if_neg c8]
            rfl
      · rw [va_up_ne _ _ (fun e => ej ((tc_k_inj hc (by decide)).mp e).1)]
        by_cases ei : g = i
        · subst ei
          by_cases ec : c = 0
          · subst ec
            rw [va_up_self, tc_gE, hN, if_pos hi, if_pos (by decide), hT, hM, va_up_ne _ _ ej, va_up_self, ← ho1]
            unfold tc_gL
            rw [A0 g 1 (by decide), A0 g 2 (by decide), A0 g 3 (by decide), A0 g 4 (by decide), A0 g 5 (by decide), A0 g 6 (by decide)]
            rfl
          · rw [va_up_ne _ _ (fun e => ec ((tc_k_inj hc (by decide)).mp e).2)]
            by_cases e6 : c = 6
            · subst e6
              rw [va_up_self, tc_gE, hN, if_pos hi, if_pos (by decide), hT, hM, va_up_ne _ _ ej, va_up_self]
              show some (tr 6 q 4 (tc_pa A g ((S.T g).pc + 1))) = _
              have : tc_pa A g ((S.T g).pc + 1) = va_up (tc_pa ad g (S.T g).pc) (S.T g).pc (some a) := by
                funext z
                unfold tc_pa
                by_cases ez : z = (S.T g).pc
                · rw [ez, va_up_self, if_pos (by omega), hAn]
                · rw [va_up_ne _ _ ez]
                  by_cases hz : z < (S.T g).pc
                  · rw [if_pos (by omega), if_pos hz, hAp g z (fun q => ez q.2) (by omega)]
                  · rw [if_neg (by omega), if_neg hz]
              rw [this]
            · rw [va_up_ne _ _ (fun e => e6 ((tc_k_inj hc (by decide)).mp e).2)]
              by_cases en : c = 8 + (S.T g).pc
              · subst en
                rw [va_up_self, tc_gE, hN, if_pos hi, if_neg (by omega), hT, va_up_ne _ _ ej, va_up_self, if_pos (by show 8 + (S.T g).pc < 8 + ((S.T g).pc + 1); omega), Nat.add_sub_cancel_left]
                show some (to 7 [.ref (A (tc_k (va_up (S.T g).src (S.T g).pc j (S.T g).pc) 0)), .int (upd (S.T g).dx (S.T g).pc dx (S.T g).pc), .int (upd (S.T g).dy (S.T g).pc dy (S.T g).pc), .int (nI (va_up (S.T g).tu (S.T g).pc t (S.T g).pc))]) = _
                rw [va_up_self, va_up_self, A0 j 0 (by decide), show upd (S.T g).dx (S.T g).pc dx (S.T g).pc = dx from if_pos rfl, show upd (S.T g).dy (S.T g).pc dy (S.T g).pc = dy from if_pos rfl]
              · rw [va_up_ne _ _ (fun e => en ((tc_k_inj hc (by omega)).mp e).2), tc_E_k hc, tc_gE, tc_gE, hN, if_pos hi, if_pos hi, hT, hM, va_up_ne _ _ ej, va_up_self]
                by_cases c8 : c < 8
                · rw [if_pos c8, if_pos c8]
                  rcases (show c = 1 ∨ c = 2 ∨ c = 3 ∨ c = 4 ∨ c = 5 ∨ c = 7 by omega) with rfl | rfl | rfl | rfl | rfl | rfl <;> rfl
                · rw [if_neg c8, if_neg c8]
                  by_cases cp : c < 8 + (S.T g).pc
                  · rw [if_pos (show c < 8 + (tc_compG (S.T g) (S.T j) j dx dy t).pc from (show c < 8 + ((S.T g).pc + 1) by omega)), if_pos cp]
                    show some (to 7 [.ref (A (tc_k (va_up (S.T g).src (S.T g).pc j (c - 8)) 0)), .int (upd (S.T g).dx (S.T g).pc dx (c - 8)), .int (upd (S.T g).dy (S.T g).pc dy (c - 8)), .int (nI (va_up (S.T g).tu (S.T g).pc t (c - 8)))]) = _
                    rw [va_up_ne _ _ (show c - 8 ≠ (S.T g).pc by omega), va_up_ne _ _ (show c - 8 ≠ (S.T g).pc by omega), show upd (S.T g).dx (S.T g).pc dx (c - 8) = (S.T g).dx (c - 8) from if_neg (by omega), show upd (S.T g).dy (S.T g).pc dy (c - 8) = (S.T g).dy (c - 8) from if_neg (by omega)]
                    rfl
                  · rw [if_neg (show ¬ c < 8 + (tc_compG (S.T g) (S.T j) j dx dy t).pc from (show ¬ c < 8 + ((S.T g).pc + 1) by omega)), if_neg cp]
        · rw [va_up_ne _ _ (fun e => ei ((tc_k_inj hc (by decide)).mp e).1), va_up_ne _ _ (fun e => ei ((tc_k_inj hc (by decide)).mp e).1), va_up_ne _ _ (fun e => ei ((tc_k_inj hc (by omega)).mp e).1), tc_E_k hc, tc_gE, tc_gE, hN, hT, hM, va_up_ne _ _ ej, va_up_ne _ _ ei]
/-- a rule more -/
theorem tc_addRule (h : tc_at q ad S B L f) (hcl : tc_cl S) {a : Nat} {lo ou : Int32} {be ip af : Int64} (hrn : S.rn < 40) (ha : a ∉ L) (hBL : ∀ z, B z → z ∈ L) : tc_at q (va_up ad (32 + S.rn) a) (tc_ruleS lo be ip af ou S) B (L ++ [a]) (va_up (va_up (va_up f a (tw_rc (lo, be, ip, af, ou))) (ad 26) (tr 7 q 40 (va_up (tc_ra ad S.rn) S.rn (some a)))) (ad 23) (to 10 [.ref (ad 24), .int (nI S.rs), .int (nI S.ts), .int (nI (S.rn + 1)), .int S.pu, .ref (ad 25), .ref (ad 26)])) ∧ ∀ z, B z → (va_up (va_up (va_up f a (tw_rc (lo, be, ip, af, ou))) (ad 26) (tr 7 q 40 (va_up (tc_ra ad S.rn) S.rn (some a)))) (ad 23) (to 10 [.ref (ad 24), .int (nI S.rs), .int (nI S.ts), .int (nI (S.rn + 1)), .int S.pu, .ref (ad 25), .ref (ad 26)])) z = f z := by
  have hkn : tc_E q ad S (32 + S.rn) = none := by
    rw [tc_E, if_neg (by omega), if_pos (by omega), if_neg (by omega)]
  refine tc_grow h (kn := 32 + S.rn) (S1 := tc_ruleS lo be ip af ou S) (tw_rc (lo, be, ip, af, ou)) hkn ha hBL [(26, tr 7 q 40 (va_up (tc_ra ad S.rn) S.rn (some a))), (23, to 10 [.ref (ad 24), .int (nI S.rs), .int (nI S.ts), .int (nI (S.rn + 1)), .int S.pu, .ref (ad 25), .ref (ad 26)])] (fun p hp => ?_) (fun k => ?_)
  · simp only [List.mem_cons, List.not_mem_nil, or_false] at hp
    rcases hp with rfl | rfl
    · exact tc_isF (k := 26) (by omega)
    · exact tc_isF (k := 23) (by omega)
  · have hag : ∀ k, (tc_E q ad S k).isSome = true → va_up ad (32 + S.rn) a k = ad k := fun k hk => va_up_ne _ _ (fun e => by rw [e, hkn] at hk; cases hk)
    have hcg := tc_congr (q := q) (ad := ad) (ad2 := va_up ad (32 + S.rn) a) hcl hag
    rw [← hcg]
    generalize hA : va_up ad (32 + S.rn) a = A at hag
    have A0 : ∀ c, c < 32 → A c = ad c := fun c hc => by rw [← hA]; exact va_up_ne _ _ (by omega)
    have hAn : A (32 + S.rn) = a := by rw [← hA]; exact va_up_self _ _ _
    have hra : tc_ra A (S.rn + 1) = va_up (tc_ra ad S.rn) S.rn (some a) := by
      funext z
      unfold tc_ra
      by_cases ez : z = S.rn
      · rw [ez, va_up_self, if_pos (by omega), hAn]
      · rw [va_up_ne _ _ ez]
        by_cases hz : z < S.rn
        · rw [if_pos (by omega), if_pos hz, ← hA, va_up_ne _ _ (by omega)]
        · rw [if_neg (by omega), if_neg hz]
    show tc_E q A (tc_ruleS lo be ip af ou S) k = va_up (va_up (va_up (tc_E q A S) (32 + S.rn) _) 26 _) 23 _ k
    rcases key_cases k with hk | hk | ⟨g, c, hc, rfl⟩
    · by_cases e23 : k = 23
      · subst e23
        rw [va_up_self, tc_E, if_pos (by decide)]
        show some (to 10 [.ref (A 24), .int (nI S.rs), .int (nI S.ts), .int (nI (S.rn + 1)), .int S.pu, .ref (A 25), .ref (A 26)]) = _
        rw [A0 24 (by decide), A0 25 (by decide), A0 26 (by decide)]
      · rw [va_up_ne _ _ e23]
        by_cases e26 : k = 26
        · subst e26
          rw [va_up_self, tc_E, if_pos (by decide)]
          show some (tr 7 q 40 (tc_ra A (S.rn + 1))) = _
          rw [hra]
        · rw [va_up_ne _ _ e26, va_up_ne _ _ (by omega), tc_E, tc_E, if_pos hk, if_pos hk]
          rcases Nat.lt_or_ge k 27 with h27 | h27
          · rcases (show k = 0 ∨ k = 1 ∨ k = 2 ∨ k = 3 ∨ k = 4 ∨ k = 5 ∨ k = 6 ∨ k = 7 ∨ k = 8 ∨ k = 9 ∨ k = 10 ∨ k = 11 ∨ k = 12 ∨ k = 13 ∨ k = 14 ∨ k = 15 ∨ k = 16 ∨ k = 17 ∨ k = 18 ∨ k = 19 ∨ k = 20 ∨ k = 21 ∨ k = 22 ∨ k = 24 ∨ k = 25 by omega) with rfl | rfl | rfl | rfl | rfl | rfl | rfl | rfl | rfl | rfl | rfl | rfl | rfl | rfl | rfl | rfl | rfl | rfl | rfl | rfl | rfl | rfl | rfl | rfl | rfl <;> rfl
          · rw [List.getElem?_eq_none (show (tc_L q A (tc_ruleS lo be ip af ou S)).length ≤ k from h27), List.getElem?_eq_none (show (tc_L q A S).length ≤ k from h27)]
    · rw [va_up_ne _ _ (by omega), va_up_ne _ _ (by omega)]
      by_cases en : k = 32 + S.rn
      · subst en
        rw [va_up_self, tc_E, if_neg (by omega), if_pos (by omega), if_pos (show 32 + S.rn < 32 + (tc_ruleS lo be ip af ou S).rn from (show 32 + S.rn < 32 + (S.rn + 1) by omega)), Nat.add_sub_cancel_left]
        show some (tw_rc (va_up S.R S.rn (lo, be, ip, af, ou) S.rn)) = _
        rw [va_up_self]
      · rw [va_up_ne _ _ en, tc_E, tc_E, if_neg (show ¬ k < 32 by omega), if_neg (show ¬ k < 32 by omega), if_pos hk.2, if_pos hk.2]
        by_cases hr : k < 32 + S.rn
        · rw [if_pos (show k < 32 + (tc_ruleS lo be ip af ou S).rn from (show k < 32 + (S.rn + 1) by omega)), if_pos hr]
          show some (tw_rc (va_up S.R S.rn (lo, be, ip, af, ou) (k - 32))) = _
          rw [va_up_ne _ _ (by omega)]
        · rw [if_neg (show ¬ k < 32 + (tc_ruleS lo be ip af ou S).rn from (show ¬ k < 32 + (S.rn + 1) by omega)), if_neg hr]
    · rw [va_up_ne _ _ (by unfold tc_k; omega), va_up_ne _ _ (by unfold tc_k; omega), va_up_ne _ _ (by unfold tc_k; omega), tc_E_k hc, tc_E_k hc]
      rfl
/-- the addresses of a new glyph's cells -/
def tc_na (a : Nat) (r : Nat → Nat) (c : Nat) : Nat := if c = 0 then a else if c < 4 then r (c + 2) else r (c - 4)
def tc_ad2 (ad : Nat → Nat) (n a : Nat) (r : Nat → Nat) (k : Nat) : Nat := if 80 + 16 * n ≤ k ∧ k < 80 + 16 * n + 7 then tc_na a r (k - (80 + 16 * n)) else ad k
theorem tc_ad2_n {n a c : Nat} {r : Nat → Nat} (hc : c < 7) : tc_ad2 ad n a r (tc_k n c) = tc_na a r c := by
  unfold tc_ad2 tc_k
  rw [if_pos (by omega), Nat.add_sub_cancel_left]
theorem tc_ad2_o {n a k : Nat} {r : Nat → Nat} (h : ¬ (80 + 16 * n ≤ k ∧ k < 80 + 16 * n + 7)) : tc_ad2 ad n a r k = ad k := if_neg h
/-- a glyph more -/
theorem tc_addGlyph (h : tc_at q ad S B L f) (hcl : tc_cl S) {a : Nat} {r : Nat → Nat} {L2 : List Nat} {f1 : tf_F} (ha : a ∉ L) (hBL : ∀ z, B z → z ∈ L) (hmk : tf_mk (L ++ [a]) (va_up f a tw_ge) a (tw_g0 q S.mm r) (tw_go S.mm r) none L2 f1) : tc_at q (tc_ad2 ad S.n a r) (tc_glyph S) B L2 (va_up (va_up f1 (ad 2) (tr 5 q 40 (va_up (tc_ga ad S.n) S.n (some a)))) (ad 0) (to 0 [.ref (ad 1), .ref (ad 2), .ref (ad 3), .ref (ad 9), .ref (ad 12), .ref (ad 14), .ref (ad 16), .ref (ad 23), .int (nI S.n + kI 1)])) ∧ (∀ z, B z → (va_up (va_up f1 (ad 2) (tr 5 q 40 (va_up (tc_ga ad S.n) S.n (some a)))) (ad 0) (to 0 [.ref (ad 1), .ref (ad 2), .ref (ad 3), .ref (ad 9), .ref (ad 12), .ref (ad 14), .ref (ad 16), .ref (ad 23), .int (nI S.n + kI 1)])) z = f z) ∧ ∀ z ∈ L, z ∈ L2 := by
  obtain ⟨-, m1, m2, m3, m4, m5, m6⟩ := hmk
  simp only [List.forall_mem_cons, List.not_mem_nil, false_implies, implies_true, and_true] at m2 m5
  obtain ⟨v0, v1, v2, v3, v4, v5⟩ := m2
  obtain ⟨w0, w1, w2, w3, w4, w5⟩ := m5
  have hnd : [r 0, r 1, r 2, r 3, r 4, r 5].Nodup := m3
  have hL2 : L2 = L ++ [a] ++ [r 0, r 1, r 2, r 3, r 4, r 5] := m1
  have hLL : ∀ z ∈ L, z ∈ L2 := fun z hz => by rw [hL2]; exact List.mem_append_left _ (List.mem_append_left _ hz)
  have hnL : ∀ c, c < 7 → tc_na a r c ∉ L ∧ tc_na a r c ∈ L2 := by
    intro c hc
    rcases (show c = 0 ∨ c = 1 ∨ c = 2 ∨ c = 3 ∨ c = 4 ∨ c = 5 ∨ c = 6 by omega) with rfl | rfl | rfl | rfl | rfl | rfl | rfl
    · exact ⟨ha, by rw [hL2]; show a ∈ _; simp⟩
    · exact ⟨fun z => v3 (List.mem_append_left _ z), by rw [hL2]; show r 3 ∈ _; simp⟩
    · exact ⟨fun z => v4 (List.mem_append_left _ z), by rw [hL2]; show r 4 ∈ _; simp⟩
    · exact ⟨fun z => v5 (List.mem_append_left _ z), by rw [hL2]; show r 5 ∈ _; simp⟩
    · exact ⟨fun z => v0 (List.mem_append_left _ z), by rw [hL2]; show r 0 ∈ _; simp⟩
    · exact ⟨fun z => v1 (List.mem_append_left _ z), by rw [hL2]; show r 1 ∈ _; simp⟩
    · exact ⟨fun z => v2 (List.mem_append_left _ z), by rw [hL2]; show r 2 ∈ _; simp⟩
  have hfa : ∀ z ∈ L, f1 z = f z := fun z hz => by
    have hza : z ≠ a := fun e => ha (e ▸ hz)
    rw [m6 z (List.mem_append_left _ hz) hza]
    exact va_up_ne _ _ hza
  have va : ∀ x, x ∉ L ++ [a] → x ≠ a := fun x hx e => hx (by rw [e]; exact List.mem_append_right _ (List.mem_singleton.mpr rfl))
  have hni : ∀ c c2, c < 7 → c2 < 7 → tc_na a r c = tc_na a r c2 → c = c2 := by
    simp only [List.nodup_cons, List.mem_cons, List.not_mem_nil, or_false, not_or, not_false_eq_true, List.nodup_nil, and_true] at hnd
    obtain ⟨⟨n01, n02, n03, n04, n05⟩, ⟨n12, n13, n14, n15⟩, ⟨n23, n24, n25⟩, ⟨n34, n35⟩, n45⟩ := hnd
    have a0 := va _ v0
    have a1 := va _ v1
    have a2 := va _ v2
    have a3 := va _ v3
    have a4 := va _ v4
    have a5 := va _ v5
    intro c c2 hc hc2
    rcases (show c = 0 ∨ c = 1 ∨ c = 2 ∨ c = 3 ∨ c = 4 ∨ c = 5 ∨ c = 6 by omega) with rfl | rfl | rfl | rfl | rfl | rfl | rfl <;> rcases (show c2 = 0 ∨ c2 = 1 ∨ c2 = 2 ∨ c2 = 3 ∨ c2 = 4 ∨ c2 = 5 ∨ c2 = 6 by omega) with rfl | rfl | rfl | rfl | rfl | rfl | rfl <;> intro e <;> first | rfl | (exfalso; first | exact a0 e | exact a1 e | exact a2 e | exact a3 e | exact a4 e | exact a5 e | exact a0 e.symm | exact a1 e.symm | exact a2 e.symm | exact a3 e.symm | exact a4 e.symm | exact a5 e.symm | exact n01 e | exact n02 e | exact n03 e | exact n04 e | exact n05 e | exact n12 e | exact n13 e | exact n14 e | exact n15 e | exact n23 e | exact n24 e | exact n25 e | exact n34 e | exact n35 e | exact n45 e | exact n01 e.symm | exact n02 e.symm | exact n03 e.symm | exact n04 e.symm | exact n05 e.symm | exact n12 e.symm | exact n13 e.symm | exact n14 e.symm | exact n15 e.symm | exact n23 e.symm | exact n24 e.symm | exact n25 e.symm | exact n34 e.symm | exact n35 e.symm | exact n45 e.symm)
  obtain ⟨hw, hB⟩ := id h
  have hold : ∀ k, (tc_E q ad S k).isSome = true → ¬ (80 + 16 * S.n ≤ k ∧ k < 80 + 16 * S.n + 7) := by
    intro k hk hz
    obtain ⟨c, hc⟩ : ∃ c, k = tc_k S.n c := ⟨k - (80 + 16 * S.n), by unfold tc_k; omega⟩
    have hc7 : c < 16 := by unfold tc_k at hc; omega
    rw [hc, tc_E_k hc7, tc_gE, if_neg (Nat.lt_irrefl _)] at hk
    cases hk
  have hag : ∀ k, (tc_E q ad S k).isSome = true → tc_ad2 ad S.n a r k = ad k := fun k hk => tc_ad2_o (hold k hk)
  have hcg := tc_congr (q := q) (ad := ad) (ad2 := tc_ad2 ad S.n a r) hcl hag
  have hmem : ∀ k, (tc_E q ad S k).isSome = true → ad k ∈ L := fun k hk => by
    obtain ⟨e, he⟩ := Option.isSome_iff_exists.mp hk
    exact (hw.1 k e he).1
  generalize hA : tc_ad2 ad S.n a r = A at hag hcg
  have A0 : ∀ c, c < 32 → A c = ad c := fun c hc => by rw [← hA]; exact tc_ad2_o (by omega)
  have An : ∀ c, c < 7 → A (tc_k S.n c) = tc_na a r c := fun c hc => by rw [← hA]; exact tc_ad2_n hc
  have hga : tc_ga A (S.n + 1) = va_up (tc_ga ad S.n) S.n (some a) := by
    funext z
    unfold tc_ga
    by_cases ez : z = S.n
    · rw [ez, va_up_self, if_pos (by omega), An 0 (by decide)]; rfl
    · rw [va_up_ne _ _ ez]
      by_cases hz : z < S.n
      · rw [if_pos (by omega), if_pos hz, hag _ (tc_isG hz (by decide))]
      · rw [if_neg (by omega), if_neg hz]
  -- the cells of the new state
  have hE : ∀ k e, tc_E q A (tc_glyph S) k = some e → (∃ c, c < 7 ∧ k = tc_k S.n c ∧ f1 (tc_na a r c) = e) ∨ ((tc_E q ad S k).isSome = true ∧ (k = 0 ∧ e = to 0 [.ref (ad 1), .ref (ad 2), .ref (ad 3), .ref (ad 9), .ref (ad 12), .ref (ad 14), .ref (ad 16), .ref (ad 23), .int (nI S.n + kI 1)] ∨ k = 2 ∧ e = tr 5 q 40 (va_up (tc_ga ad S.n) S.n (some a)) ∨ (k ≠ 0 ∧ k ≠ 2 ∧ tc_E q ad S k = some e))) := by
    intro k e he
    rcases key_cases k with hk | hk | ⟨g, c, hc, rfl⟩
    · right
      by_cases e0 : k = 0
      · subst e0
        refine ⟨tc_isF (k := 0) (by omega), Or.inl ⟨rfl, ?_⟩⟩
        rw [tc_E, if_pos (by decide)] at he
        have he2 : some (to 0 [.ref (A 1), .ref (A 2), .ref (A 3), .ref (A 9), .ref (A 12), .ref (A 14), .ref (A 16), .ref (A 23), .int (nI (S.n + 1))]) = some e := he
        rw [← Option.some.inj he2, A0 1 (by decide), A0 2 (by decide), A0 3 (by decide), A0 9 (by decide), A0 12 (by decide), A0 14 (by decide), A0 16 (by decide), A0 23 (by decide), nI_succ]
        rfl
      by_cases e2 : k = 2
      · subst e2
        refine ⟨tc_isF (k := 2) (by omega), Or.inr (Or.inl ⟨rfl, ?_⟩)⟩
        rw [tc_E, if_pos (by decide)] at he
        have he2 : some (tr 5 q 40 (tc_ga A (S.n + 1))) = some e := he
        rw [← Option.some.inj he2, hga]
      have hsame : tc_E q A (tc_glyph S) k = tc_E q A S k := by
        rw [tc_E, tc_E, if_pos hk, if_pos hk]
        rcases Nat.lt_or_ge k 27 with h27 | h27
        · rcases (show k = 1 ∨ k = 3 ∨ k = 4 ∨ k = 5 ∨ k = 6 ∨ k = 7 ∨ k = 8 ∨ k = 9 ∨ k = 10 ∨ k = 11 ∨ k = 12 ∨ k = 13 ∨ k = 14 ∨ k = 15 ∨ k = 16 ∨ k = 17 ∨ k = 18 ∨ k = 19 ∨ k = 20 ∨ k = 21 ∨ k = 22 ∨ k = 23 ∨ k = 24 ∨ k = 25 ∨ k = 26 by omega) with rfl | rfl | rfl | rfl | rfl | rfl | rfl | rfl | rfl | rfl | rfl | rfl | rfl | rfl | rfl | rfl | rfl | rfl | rfl | rfl | rfl | rfl | rfl | rfl | rfl <;> rfl
        · rw [List.getElem?_eq_none (show (tc_L q A (tc_glyph S)).length ≤ k from h27), List.getElem?_eq_none (show (tc_L q A S).length ≤ k from h27)]
      rw [hsame, hcg] at he
      exact ⟨by rw [he]; rfl, Or.inr (Or.inr ⟨e0, e2, he⟩)⟩
    · right
      have hsame : tc_E q A (tc_glyph S) k = tc_E q A S k := by
        rw [tc_E, tc_E, if_neg (show ¬ k < 32 by omega), if_neg (show ¬ k < 32 by omega), if_pos hk.2, if_pos hk.2]
        rfl
      rw [hsame, hcg] at he
      exact ⟨by rw [he]; rfl, Or.inr (Or.inr ⟨by omega, by omega, he⟩)⟩
    · by_cases eg : g = S.n
      · subst eg
        left
        rw [tc_E_k hc, tc_gE, if_pos (show S.n < (tc_glyph S).n from Nat.lt_succ_self _)] at he
        have hT : (tc_glyph S).T S.n = tc_G0 := va_up_self _ _ _
        rw [hT] at he
        by_cases c8 : c < 8
        · rw [if_pos c8] at he
          have hc7 : c ≠ 7 := fun z => by subst z; cases he
          refine ⟨c, by omega, rfl, ?_⟩
          have hL7 : (tc_gL q A S.mm S.n tc_G0)[c]? = some e := he
          unfold tc_gL at hL7
          rw [An 1 (by decide), An 2 (by decide), An 3 (by decide), An 4 (by decide), An 5 (by decide), An 6 (by decide)] at hL7
          have hpa : tc_pa A S.n tc_G0.pc = fun _ => none := by funext z; exact if_neg (Nat.not_lt_zero _)
          rw [hpa] at hL7
          rcases (show c = 0 ∨ c = 1 ∨ c = 2 ∨ c = 3 ∨ c = 4 ∨ c = 5 ∨ c = 6 by omega) with rfl | rfl | rfl | rfl | rfl | rfl | rfl
          · rw [← Option.some.inj hL7]; exact m4
          · rw [← Option.some.inj hL7]; exact w3
          · rw [← Option.some.inj hL7]; exact w4
          · rw [← Option.some.inj hL7]; exact w5
          · rw [← Option.some.inj hL7]; exact w0
          · rw [← Option.some.inj hL7]; exact w1
          · rw [← Option.some.inj hL7]; exact w2
        · rw [if_neg c8, if_neg (show ¬ c < 8 + tc_G0.pc from c8)] at he
          cases he
      · right
        have hsame : tc_E q A (tc_glyph S) (tc_k g c) = tc_E q A S (tc_k g c) := by
          rw [tc_E_k hc, tc_E_k hc, tc_gE, tc_gE, show (tc_glyph S).T g = S.T g from va_up_ne _ _ eg, show (tc_glyph S).mm = S.mm from rfl]
          by_cases hg : g < S.n
          · rw [if_pos (show g < (tc_glyph S).n from Nat.lt_succ_of_lt hg), if_pos hg]
          · rw [if_neg (show ¬ g < (tc_glyph S).n from (show ¬ g < S.n + 1 by omega)), if_neg hg]
        rw [hsame, hcg] at he
        exact ⟨by rw [he]; rfl, Or.inr (Or.inr ⟨by unfold tc_k; omega, by unfold tc_k; omega, he⟩)⟩
  have n02 : ad 0 ≠ ad 2 := tc_neF h (by decide) (by decide) (by decide)
  have m0 := hmem 0 (tc_isF (k := 0) (by omega))
  have m2' := hmem 2 (tc_isF (k := 2) (by omega))
  have hA2 : ∀ k, (tc_E q A (tc_glyph S) k).isSome = true → (∃ c, c < 7 ∧ k = tc_k S.n c ∧ A k = tc_na a r c) ∨ ((tc_E q ad S k).isSome = true ∧ A k = ad k) := fun k hk => by
    obtain ⟨e, he⟩ := Option.isSome_iff_exists.mp hk
    rcases hE k e he with ⟨c, c1, c2, _⟩ | ⟨c1, _⟩
    · exact Or.inl ⟨c, c1, c2, by rw [c2]; exact An c c1⟩
    · exact Or.inr ⟨c1, hag k c1⟩
  refine ⟨⟨⟨fun k e he => ?_, fun i j hi hj hij => ?_⟩, fun k hk => ?_⟩, fun z hz => ?_, hLL⟩
  · rcases hE k e he with ⟨c, c1, c2, c3⟩ | ⟨c1, c2⟩
    · rw [c2, An c c1]
      refine ⟨(hnL c c1).2, ?_⟩
      have q0 : tc_na a r c ≠ ad 0 := fun z => (hnL c c1).1 (by rw [z]; exact m0)
      have q2 : tc_na a r c ≠ ad 2 := fun z => (hnL c c1).1 (by rw [z]; exact m2')
      rw [va_up_ne _ _ q0, va_up_ne _ _ q2]
      exact c3
    · rw [hag k c1]
      refine ⟨hLL _ (hmem k c1), ?_⟩
      rcases c2 with ⟨c2, c3⟩ | ⟨c2, c3⟩ | ⟨c2, c3, c4⟩
      · rw [c2, va_up_self, c3]
      · rw [c2, va_up_ne _ _ (Ne.symm n02), va_up_self, c3]
      · rw [va_up_ne _ _ (fun z => c2 (hw.2 k 0 c1 (tc_isF (k := 0) (by omega)) z)), va_up_ne _ _ (fun z => c3 (hw.2 k 2 c1 (tc_isF (k := 2) (by omega)) z)), hfa _ (hmem k c1)]
        exact (hw.1 k e c4).2
  · rcases hA2 i hi with ⟨c, c1, c2, c3⟩ | ⟨c1, c2⟩
    · rcases hA2 j hj with ⟨c', d1, d2, d3⟩ | ⟨d1, d2⟩
      · rw [c3, d3] at hij
        rw [c2, d2, hni c c' c1 d1 hij]
      · rw [c3, d2] at hij
        exact absurd (hmem j d1) (by rw [← hij]; exact (hnL c c1).1)
    · rcases hA2 j hj with ⟨c', d1, d2, d3⟩ | ⟨d1, d2⟩
      · rw [c2, d3] at hij
        exact absurd (hmem i c1) (by rw [hij]; exact (hnL c' d1).1)
      · rw [c2, d2] at hij
        exact hw.2 i j c1 d1 hij
  · rcases hA2 k hk with ⟨c, c1, c2, c3⟩ | ⟨c1, c2⟩
    · rw [c3]
      exact fun hb => (hnL c c1).1 (hBL _ hb)
    · rw [c2]
      exact hB k c1
  · have z0 : z ≠ ad 0 := fun e => hB 0 (tc_isF (k := 0) (by omega)) (e ▸ hz)
    have z2 : z ≠ ad 2 := fun e => hB 2 (tc_isF (k := 2) (by omega)) (e ▸ hz)
    rw [va_up_ne _ _ z0, va_up_ne _ _ z2, hfa _ (hBL z hz)]
end
