/-! outlines as lists: what the reference tells is what the class gathers -/
/-- what the reference knows of the class's glyphs, as far as outlines go -/
def oRel (S : tc_S) (J : Nat → Int32) (A : Nat → Nat → Int32) (Pn : Nat → Nat) (Pc tr : Nat → Nat → Nat) (Kc Cc : Nat → Nat) : Prop :=
  (∀ g, g < S.n → Pn g = (S.T g).pc) ∧
  (∀ g, g < S.n → ∀ k, k < (S.T g).pc → Pc g k = (S.T g).src k ∧ tr g k = (S.T g).tu k ∧ A 14 (4 * g + k) = (S.T g).dx k ∧ A 15 (4 * g + k) = (S.T g).dy k) ∧
  (∀ g, g < S.n → Kc g = (S.T g).cp ∧ Cc g = (S.T g).ct) ∧
  (∀ g, g < S.n → ∀ i, i < (S.T g).cp → tm_pnt J (A 3) (40 * g + i) = (tw_X (nI S.mm) S.u S.w (S.T g).X i, tw_X (nI S.mm) S.u S.w (S.T g).Y i) ∧ tm_mo (A 4 (40 * g + i)) = (S.T g).O i) ∧
  (∀ g, g < S.n → ∀ c, c < (S.T g).ct → ∀ k, k < (S.T g).cp → (tm_mc (A 4 (40 * g + k)) = nI c ↔ (∀ c0, c0 + 1 = c → tc_e (S.T g) c0 ≤ k) ∧ k < tc_e (S.T g) c))
theorem oRel.hPn {S : tc_S} {J : Nat → Int32} {A : Nat → Nat → Int32} {Pn : Nat → Nat} {Pc tr : Nat → Nat → Nat} {Kc Cc : Nat → Nat} (h : oRel S J A Pn Pc tr Kc Cc) : ∀ g, g < S.n → Pn g = (S.T g).pc := h.1
theorem oRel.hPc {S : tc_S} {J : Nat → Int32} {A : Nat → Nat → Int32} {Pn : Nat → Nat} {Pc tr : Nat → Nat → Nat} {Kc Cc : Nat → Nat} (h : oRel S J A Pn Pc tr Kc Cc) : ∀ g, g < S.n → ∀ k, k < (S.T g).pc → Pc g k = (S.T g).src k ∧ tr g k = (S.T g).tu k ∧ A 14 (4 * g + k) = (S.T g).dx k ∧ A 15 (4 * g + k) = (S.T g).dy k := h.2.1
theorem oRel.hKc {S : tc_S} {J : Nat → Int32} {A : Nat → Nat → Int32} {Pn : Nat → Nat} {Pc tr : Nat → Nat → Nat} {Kc Cc : Nat → Nat} (h : oRel S J A Pn Pc tr Kc Cc) : ∀ g, g < S.n → Kc g = (S.T g).cp ∧ Cc g = (S.T g).ct := h.2.2.1
theorem oRel.hpt {S : tc_S} {J : Nat → Int32} {A : Nat → Nat → Int32} {Pn : Nat → Nat} {Pc tr : Nat → Nat → Nat} {Kc Cc : Nat → Nat} (h : oRel S J A Pn Pc tr Kc Cc) : ∀ g, g < S.n → ∀ i, i < (S.T g).cp → tm_pnt J (A 3) (40 * g + i) = (tw_X (nI S.mm) S.u S.w (S.T g).X i, tw_X (nI S.mm) S.u S.w (S.T g).Y i) ∧ tm_mo (A 4 (40 * g + i)) = (S.T g).O i := h.2.2.2.1
theorem oRel.hmk {S : tc_S} {J : Nat → Int32} {A : Nat → Nat → Int32} {Pn : Nat → Nat} {Pc tr : Nat → Nat → Nat} {Kc Cc : Nat → Nat} (h : oRel S J A Pn Pc tr Kc Cc) : ∀ g, g < S.n → ∀ c, c < (S.T g).ct → ∀ k, k < (S.T g).cp → (tm_mc (A 4 (40 * g + k)) = nI c ↔ (∀ c0, c0 + 1 = c → tc_e (S.T g) c0 ≤ k) ∧ k < tc_e (S.T g) c) := h.2.2.2.2
theorem tm_tc_l {S : tc_S} {J : Nat → Int32} {A : Nat → Nat → Int32} {Pn : Nat → Nat} {Pc tr : Nat → Nat → Nat} {Kc Cc : Nat → Nat} (hR : oRel S J A Pn Pc tr Kc Cc) (hG : tc_GI S) (hO : oOK S) (n : Nat) (pg np : Nat → Nat) (hg : pg n < S.n) (x : tm_OU) : (tm_tc J A tr Kc Cc n pg np x).2.2.2.2.1 = x.2.2.2.2.1 + olen (oownG S (pg n)) ∧ (tm_tc J A tr Kc Cc n pg np x).2.2.2.2.2 = x.2.2.2.2.2 + (oownG S (pg n)).length ∧ rq (tm_tc J A tr Kc Cc n pg np x) x.2.2.2.2.1 x.2.2.2.2.2 ((oownG S (pg n)).map (stkc (A 14) (A 15) pg np (fun e => tr (pg e) (np e)) n)) ∧ kq x.2.2.2.2.1 x (tm_tc J A tr Kc Cc n pg np x) := by
  obtain ⟨g1, _⟩ := hG _ hg
  obtain ⟨f1, f2, f3, f4, f5, f6, f7⟩ := g1
  obtain ⟨k1, k2⟩ := hR.hKc _ hg
  have hl := tcc_l (tm_pp J A pg np (fun e => tr (pg e) (np e)) n) (A 4) (pg n) (Kc (pg n)) (tm_bk (fun e => tr (pg e) (np e)) n 0 false) (Cc (pg n)) 0 x
  have he : tlc (tm_pp J A pg np (fun e => tr (pg e) (np e)) n) (A 4) (pg n) (Kc (pg n)) (tm_bk (fun e => tr (pg e) (np e)) n 0 false) (Cc (pg n)) 0 = (oownG S (pg n)).map (stkc (A 14) (A 15) pg np (fun e => tr (pg e) (np e)) n) := by
    rw [k1, k2]
    exact tlc_own (F := stk (A 14) (A 15) pg np (fun e => tr (pg e) (np e)) n) (N := (S.T (pg n)).ct) (fun i hi => by
      obtain ⟨a, b⟩ := hR.hpt _ hg i hi
      unfold stk tm_pp
      rw [a, b]) f2 (by omega) (fun c hc k hk => hR.hmk _ hg c hc k hk) (fun c hc => (f3 c hc).2) (fun c hc => by have := f7 c hc; omega) (S.T (pg n)).ct 0 0 (by omega) (fun _ => rfl) (fun c0 h => by omega)
  rw [he] at hl
  rw [olen_map (stkc_len _ _ _ _ _ _), List.length_map] at hl
  exact hl
theorem fold_l {h : Nat → tm_OU → tm_OU} {rl : Nat → oC} {N : Nat} (hh : ∀ k x, k < N → (h k x).2.2.2.2.1 = x.2.2.2.2.1 + olen (rl k) ∧ (h k x).2.2.2.2.2 = x.2.2.2.2.2 + (rl k).length ∧ rq (h k x) x.2.2.2.2.1 x.2.2.2.2.2 (rl k) ∧ kq x.2.2.2.2.1 x (h k x)) {cat : Nat → Nat → oC} (c0 : ∀ k, cat 0 k = []) (c1 : ∀ w k, cat (w + 1) k = rl k ++ cat w (k + 1)) : ∀ w k (x : tm_OU), k + w = N → (tm_fold h w k x).2.2.2.2.1 = x.2.2.2.2.1 + olen (cat w k) ∧ (tm_fold h w k x).2.2.2.2.2 = x.2.2.2.2.2 + (cat w k).length ∧ rq (tm_fold h w k x) x.2.2.2.2.1 x.2.2.2.2.2 (cat w k) ∧ kq x.2.2.2.2.1 x (tm_fold h w k x) := by
  intro w
  induction w with
  | zero => intro k x _; rw [c0]; exact ⟨rfl, rfl, trivial, kq.rf _ _⟩
  | succ w ih =>
    intro k x hk
    rw [c1, show tm_fold h (w + 1) k x = tm_fold h w (k + 1) (h k x) from rfl]
    obtain ⟨a1, a2, a3, a4⟩ := hh k x (by omega)
    obtain ⟨b1, b2, b3, b4⟩ := ih (k + 1) (h k x) (by omega)
    rw [a1] at b1 b3 b4
    rw [a2] at b2 b3
    refine ⟨by rw [b1, olen_app]; omega, by rw [b2, List.length_append]; omega, rq_app (rq_kq a3 b4 (Nat.le_refl _)) b3, a4.tr b4 (by omega)⟩
theorem tm_sub_l {S : tc_S} {J : Nat → Int32} {A : Nat → Nat → Int32} {Pn : Nat → Nat} {Pc tr : Nat → Nat → Nat} {Kc Cc : Nat → Nat} (hR : oRel S J A Pn Pc tr Kc Cc) (hG : tc_GI S) (hO : oOK S) : ∀ F n (pg np : Nat → Nat) (x : tm_OU), pg n < S.n → (S.T (pg n)).dp ≤ F → (tm_sub Pn Pc (tm_tc J A tr Kc Cc) (F + 1) n pg np x).2.2.2.2.1 = x.2.2.2.2.1 + olen (oL S F (pg n)) ∧ (tm_sub Pn Pc (tm_tc J A tr Kc Cc) (F + 1) n pg np x).2.2.2.2.2 = x.2.2.2.2.2 + (oL S F (pg n)).length ∧ rq (tm_sub Pn Pc (tm_tc J A tr Kc Cc) (F + 1) n pg np x) x.2.2.2.2.1 x.2.2.2.2.2 ((oL S F (pg n)).map (stkc (A 14) (A 15) pg np (fun e => tr (pg e) (np e)) n)) ∧ kq x.2.2.2.2.1 x (tm_sub Pn Pc (tm_tc J A tr Kc Cc) (F + 1) n pg np x) := by
  intro F
  induction F with
  | zero =>
    intro n pg np x hg hd
    obtain ⟨_, g2⟩ := hG _ hg
    have hp := tc_pc0 g2 (by omega)
    have h := tm_tc_l hR hG hO n pg np hg x
    rw [show tm_sub Pn Pc (tm_tc J A tr Kc Cc) (0 + 1) n pg np x = tm_fold (fun k y => tm_sub Pn Pc (tm_tc J A tr Kc Cc) 0 (n + 1) (va_up pg (n + 1) (Pc (pg n) k)) (va_up np n k) y) (Pn (pg n)) 0 (tm_tc J A tr Kc Cc n pg np x) from rfl, hR.hPn _ hg, hp]
    exact h
  | succ F ih =>
    intro n pg np x hg hd
    obtain ⟨_, g2⟩ := hG _ hg
    obtain ⟨p1, p2, _, _, _⟩ := g2
    obtain ⟨a1, a2, a3, a4⟩ := tm_tc_l hR hG hO n pg np hg x
    have eq : oL S (F + 1) (pg n) = oownG S (pg n) ++ oparts (oL S F) (S.T (pg n)) (S.T (pg n)).pc 0 := rfl
    rw [show tm_sub Pn Pc (tm_tc J A tr Kc Cc) (F + 1 + 1) n pg np x = tm_fold (fun k y => tm_sub Pn Pc (tm_tc J A tr Kc Cc) (F + 1) (n + 1) (va_up pg (n + 1) (Pc (pg n) k)) (va_up np n k) y) (Pn (pg n)) 0 (tm_tc J A tr Kc Cc n pg np x) from rfl, hR.hPn _ hg]
    generalize tm_tc J A tr Kc Cc n pg np x = y at a1 a2 a3 a4 ⊢
    have hh : ∀ k (z : tm_OU), k < (S.T (pg n)).pc → (tm_sub Pn Pc (tm_tc J A tr Kc Cc) (F + 1) (n + 1) (va_up pg (n + 1) (Pc (pg n) k)) (va_up np n k) z).2.2.2.2.1 = z.2.2.2.2.1 + olen (((oL S F ((S.T (pg n)).src k)).map (tpc ((S.T (pg n)).tu k) ((S.T (pg n)).dx k) ((S.T (pg n)).dy k))).map (stkc (A 14) (A 15) pg np (fun e => tr (pg e) (np e)) n)) ∧ (tm_sub Pn Pc (tm_tc J A tr Kc Cc) (F + 1) (n + 1) (va_up pg (n + 1) (Pc (pg n) k)) (va_up np n k) z).2.2.2.2.2 = z.2.2.2.2.2 + (((oL S F ((S.T (pg n)).src k)).map (tpc ((S.T (pg n)).tu k) ((S.T (pg n)).dx k) ((S.T (pg n)).dy k))).map (stkc (A 14) (A 15) pg np (fun e => tr (pg e) (np e)) n)).length ∧ rq (tm_sub Pn Pc (tm_tc J A tr Kc Cc) (F + 1) (n + 1) (va_up pg (n + 1) (Pc (pg n) k)) (va_up np n k) z) z.2.2.2.2.1 z.2.2.2.2.2 (((oL S F ((S.T (pg n)).src k)).map (tpc ((S.T (pg n)).tu k) ((S.T (pg n)).dx k) ((S.T (pg n)).dy k))).map (stkc (A 14) (A 15) pg np (fun e => tr (pg e) (np e)) n)) ∧ kq z.2.2.2.2.1 z (tm_sub Pn Pc (tm_tc J A tr Kc Cc) (F + 1) (n + 1) (va_up pg (n + 1) (Pc (pg n) k)) (va_up np n k) z) := by
      intro k z hk
      obtain ⟨c1, c2, c3, c4⟩ := hR.hPc _ hg k hk
      obtain ⟨d1, d2, d3⟩ := p2 k hk
      have hpn : va_up pg (n + 1) (Pc (pg n) k) (n + 1) = (S.T (pg n)).src k := by rw [va_up_self, c1]
      have h := ih (n + 1) (va_up pg (n + 1) (Pc (pg n) k)) (va_up np n k) z (by rw [hpn]; exact d1) (by rw [hpn]; omega)
      rw [hpn] at h
      have hst : ∀ l, stkc (A 14) (A 15) (va_up pg (n + 1) (Pc (pg n) k)) (va_up np n k) (fun e => tr (va_up pg (n + 1) (Pc (pg n) k) e) (va_up np n k e)) (n + 1) l = stkc (A 14) (A 15) pg np (fun e => tr (pg e) (np e)) n (tpc ((S.T (pg n)).tu k) ((S.T (pg n)).dx k) ((S.T (pg n)).dy k) l) := by
        intro l
        rw [stkc_succ]
        have e1 : va_up pg (n + 1) (Pc (pg n) k) n = pg n := va_up_ne _ _ (by omega)
        have e2 : va_up np n k n = k := va_up_self _ _ _
        rw [e1, e2, c2, c3, c4]
        have hlow : ∀ e, e < n → va_up pg (n + 1) (Pc (pg n) k) e = pg e ∧ va_up np n k e = np e := fun e he => ⟨va_up_ne _ _ (by omega), va_up_ne _ _ (by omega)⟩
        have hs : stk (A 14) (A 15) (va_up pg (n + 1) (Pc (pg n) k)) (va_up np n k) (fun e => tr (va_up pg (n + 1) (Pc (pg n) k) e) (va_up np n k e)) n = stk (A 14) (A 15) pg np (fun e => tr (pg e) (np e)) n := by
          funext q
          unfold stk
          rw [tm_trn_congr (tn := fun e => tr (pg e) (np e)) n _ (fun e he => ⟨(hlow e he).1, (hlow e he).2, by show tr _ _ = tr _ _; rw [(hlow e he).1, (hlow e he).2]⟩)]
        unfold stkc
        rw [hs, tm_bk_congr (tn := fun e => tr (pg e) (np e)) n 0 false (fun z _ hz => by show tr _ _ = tr _ _; rw [(hlow z (by omega)).1, (hlow z (by omega)).2])]
      rw [List.map_map, show (stkc (A 14) (A 15) pg np (fun e => tr (pg e) (np e)) n) ∘ (tpc ((S.T (pg n)).tu k) ((S.T (pg n)).dx k) ((S.T (pg n)).dy k)) = stkc (A 14) (A 15) (va_up pg (n + 1) (Pc (pg n) k)) (va_up np n k) (fun e => tr (va_up pg (n + 1) (Pc (pg n) k) e) (va_up np n k e)) (n + 1) from funext (fun l => (hst l).symm), olen_map (stkc_len _ _ _ _ _ _), List.length_map]
      exact h
    have hf := fold_l (N := (S.T (pg n)).pc) hh (cat := fun w k => (oparts (oL S F) (S.T (pg n)) w k).map (stkc (A 14) (A 15) pg np (fun e => tr (pg e) (np e)) n)) (fun k => rfl) (fun w k => by
      show List.map _ (_ ++ _) = _
      rw [List.map_append]) (S.T (pg n)).pc 0 y (by omega)
    obtain ⟨b1, b2, b3, b4⟩ := hf
    rw [a1] at b1 b3 b4
    rw [a2] at b2 b3
    rw [olen_map (stkc_len _ _ _ _ _ _)] at b1
    rw [List.length_map] at b2
    rw [eq, olen_app, List.length_append, List.map_append]
    refine ⟨by rw [b1]; omega, by rw [b2]; omega, rq_app (rq_kq a3 b4 ?_) ?_, a4.tr b4 (by omega)⟩
    · rw [olen_map (stkc_len _ _ _ _ _ _)]; exact Nat.le_refl _
    · rw [olen_map (stkc_len _ _ _ _ _ _), List.length_map]; exact b3
/-- both hold the same points -/
theorem rp_rq {A : Nat → Nat → Int32} {x : tm_OU} : ∀ {L : oC} {p C : Nat}, rp A p C L → rq x p C L → ∀ z, p ≤ z → z < p + olen L → x.1 z = A 0 z ∧ x.2.1 z = A 1 z ∧ x.2.2.1 z = A 2 z ∧ x.2.2.2.1 z = A 4 z
  | [], p, C, _, _, z, h1, h2 => by have e : olen ([] : oC) = 0 := rfl; omega
  | l :: L, p, C, h, k, z, h1, h2 => by
    have e : olen (l :: L) = l.length + olen L := rfl
    by_cases c : z < p + l.length
    · obtain ⟨i, hi⟩ : ∃ i, z = p + i := ⟨z - p, by omega⟩
      subst hi
      have hq := List.getElem?_eq_getElem (show i < l.length by omega)
      obtain ⟨a0, a1, a2, a4⟩ := h.2.1 i _ hq
      obtain ⟨b0, b1, b2, b4⟩ := k.1 i _ hq
      rw [a0, a1, a2, a4, b0, b1, b2, b4]
      exact ⟨rfl, rfl, rfl, rfl⟩
    · exact rp_rq h.2.2 k.2 z (by omega) (by omega)
/-- where contours begin -/
theorem rp_st {A : Nat → Nat → Int32} : ∀ {L : oC} {p C : Nat}, (∀ l ∈ L, 3 ≤ l.length) → rp A p C L → ∃ st : Nat → Nat, st C = p ∧ st (C + L.length) = p + olen L ∧ (∀ z, C ≤ z → z ≤ C + L.length → A 3 z = nI (st z) ∧ st z ≤ p + olen L) ∧ (∀ z, C ≤ z → z < C + L.length → st z + 3 ≤ st (z + 1) ∧ ∀ i, st z ≤ i → i < st (z + 1) → A 4 i = nI z)
  | [], p, C, _, h => ⟨fun _ => p, rfl, rfl, fun z h1 h2 => ⟨by rw [show z = C by have e : List.length ([] : oC) = 0 := rfl; omega]; exact h, Nat.le_add_right _ _⟩, fun z h1 h2 => by have e : List.length ([] : oC) = 0 := rfl; omega⟩
  | l :: L, p, C, hl, h => by
    obtain ⟨st, s1, s2, s3, s4⟩ := rp_st (fun l2 h2 => hl l2 (List.mem_cons_of_mem _ h2)) h.2.2
    have e : olen (l :: L) = l.length + olen L := rfl
    have el : (l :: L).length = L.length + 1 := List.length_cons
    have hl0 := hl l (List.mem_cons_self ..)
    have un : ∀ z, z ≠ C → va_up st C p z = st z := fun z hz => va_up_ne _ _ hz
    refine ⟨va_up st C p, va_up_self _ _ _, ?_, fun z h1 h2 => ?_, fun z h1 h2 => ?_⟩
    · rw [un _ (by omega), show C + (l :: L).length = C + 1 + L.length by omega, s2, e]; omega
    · by_cases c : z = C
      · rw [c, va_up_self]; exact ⟨h.1, by omega⟩
      · rw [un _ c]
        obtain ⟨a, b⟩ := s3 z (by omega) (by omega)
        exact ⟨a, by omega⟩
    · by_cases c : z = C
      · subst c
        rw [va_up_self, un _ (by omega), s1]
        refine ⟨by omega, fun i q1 q2 => ?_⟩
        obtain ⟨j, hj⟩ : ∃ j, i = p + j := ⟨i - p, by omega⟩
        subst hj
        exact (h.2.1 j _ (List.getElem?_eq_getElem (show j < l.length by omega))).2.2.2
      · rw [un _ c, un _ (by omega)]
        exact s4 z (by omega) (by omega)
/-- .. of what the class has gathered -/
theorem out_st {S : tc_S} (hG : tc_GI S) (hO : oOK S) {g : Nat} (hg : g < S.n) (hd : (S.T g).dp ≤ 4) (h0 : S.oA 3 0 = nI 0) : ∃ st : Nat → Nat, st 0 = 0 ∧ st (tc_out S g).2.1 = (tc_out S g).1 ∧ (∀ z, z ≤ (tc_out S g).2.1 → (tc_out S g).2.2 3 z = nI (st z) ∧ st z ≤ (tc_out S g).1) ∧ ∀ z, z < (tc_out S g).2.1 → st z + 3 ≤ st (z + 1) ∧ ∀ i, st z ≤ i → i < st (z + 1) → (tc_out S g).2.2 4 i = nI z := by
  obtain ⟨o1, o2, o3⟩ := oL_i hG hO 4 g hg hd
  obtain ⟨g1, g2⟩ := hG g hg
  have hb : tc_op (S.T g) ≤ 160 := by
    have := g1.2.1
    have := g2.2.2.2.2
    unfold tc_op
    omega
  obtain ⟨a1, a2, a3, a4⟩ := tw_gat_l hG hO 4 g 0 0 S.oA hg hd h0 (by omega)
  have t1 : (tc_out S g).1 = 0 + olen (oL S 4 g) := a1
  have t2 : (tc_out S g).2.1 = 0 + (oL S 4 g).length := a2
  obtain ⟨st, s1, s2, s3, s4⟩ := rp_st (fun l hl => (o1 l hl).1) a3
  rw [← t1, ← t2] at s2 s3
  rw [← t2] at s4
  exact ⟨st, s1, s2, fun z hz => s3 z (Nat.zero_le _) hz, fun z hz => s4 z (Nat.zero_le _) hz⟩
/-- THE OUTLINE: the reference's is the class's -/
theorem out_eq {S : tc_S} {J : Nat → Int32} {A : Nat → Nat → Int32} {Pn : Nat → Nat} {Pc tr : Nat → Nat → Nat} {Kc Cc : Nat → Nat} (hR : oRel S J A Pn Pc tr Kc Cc) (hG : tc_GI S) (hO : oOK S) {g : Nat} (hg : g < S.n) (hd : (S.T g).dp ≤ 4) (h0 : S.oA 3 0 = nI 0) (x0 : tm_OU) (hx0 : x0.2.2.2.2.1 = 0 ∧ x0.2.2.2.2.2 = 0) : (tm_sub Pn Pc (tm_tc J A tr Kc Cc) 5 0 (fun _ => g) (fun _ => 0) x0).2.2.2.2.1 = (tc_out S g).1 ∧ (tm_sub Pn Pc (tm_tc J A tr Kc Cc) 5 0 (fun _ => g) (fun _ => 0) x0).2.2.2.2.2 = (tc_out S g).2.1 ∧ (tc_out S g).1 = tc_op (S.T g) ∧ (tc_out S g).2.1 = tc_oc (S.T g) ∧ ∀ z, z < (tc_out S g).1 → (tm_sub Pn Pc (tm_tc J A tr Kc Cc) 5 0 (fun _ => g) (fun _ => 0) x0).1 z = (tc_out S g).2.2 0 z ∧ (tm_sub Pn Pc (tm_tc J A tr Kc Cc) 5 0 (fun _ => g) (fun _ => 0) x0).2.1 z = (tc_out S g).2.2 1 z ∧ (tm_sub Pn Pc (tm_tc J A tr Kc Cc) 5 0 (fun _ => g) (fun _ => 0) x0).2.2.1 z = (tc_out S g).2.2 2 z ∧ (tm_sub Pn Pc (tm_tc J A tr Kc Cc) 5 0 (fun _ => g) (fun _ => 0) x0).2.2.2.1 z = (tc_out S g).2.2 4 z := by
  obtain ⟨o1, o2, o3⟩ := oL_i hG hO 4 g hg hd
  obtain ⟨g1, g2⟩ := hG g hg
  have hb : tc_op (S.T g) ≤ 160 := by
    have := g1.2.1
    have := g2.2.2.2.2
    unfold tc_op
    omega
  obtain ⟨a1, a2, a3, a4⟩ := tw_gat_l hG hO 4 g 0 0 S.oA hg hd h0 (by omega)
  obtain ⟨b1, b2, b3, b4⟩ := tm_sub_l hR hG hO 4 0 (fun _ => g) (fun _ => 0) x0 hg hd
  have hst : stkc (A 14) (A 15) (fun _ => g) (fun _ => 0) (fun e => tr ((fun _ => g) e) ((fun _ => 0) e)) 0 = id := by
    funext l
    have hs : stk (A 14) (A 15) (fun _ => g) (fun _ => 0) (fun e => tr ((fun _ => g) e) ((fun _ => 0) e)) 0 = id := rfl
    unfold stkc
    rw [hs, List.map_id]
    rfl
  rw [hst, List.map_id, hx0.1, hx0.2] at b3
  rw [hx0.1] at b1
  rw [hx0.2] at b2
  have t1 : (tc_out S g).1 = 0 + olen (oL S 4 g) := a1
  have t2 : (tc_out S g).2.1 = 0 + (oL S 4 g).length := a2
  refine ⟨b1.trans t1.symm, b2.trans t2.symm, by rw [t1, o2, Nat.zero_add], by rw [t2, o3, Nat.zero_add], fun z hz => ?_⟩
  exact rp_rq a3 b3 z (Nat.zero_le _) (by rw [← t1]; exact hz)
