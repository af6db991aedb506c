/-! the class's world: a state, and its cells by their keys: 0-26 the fixed ones, 32+r rule r, tc_k i k cell k of glyph i (8+j: its part j) -/
def tc_G : Type := (Nat → Int32) × (Nat → Int32) × (Nat → Int32) × (Nat → Int32) × (Nat → Int32) × (Nat) × (Nat) × (Nat) × (Bool) × (Nat) × (Nat) × (Nat) × (Nat) × (Nat → Nat) × (Nat → Int32) × (Nat → Int32) × (Nat → Nat)
def tc_G.X (x : tc_G) : Nat → Int32 := x.1
def tc_G.Y (x : tc_G) : Nat → Int32 := x.2.1
def tc_G.W (x : tc_G) : Nat → Int32 := x.2.2.1
def tc_G.O (x : tc_G) : Nat → Int32 := x.2.2.2.1
def tc_G.E (x : tc_G) : Nat → Int32 := x.2.2.2.2.1
def tc_G.pt (x : tc_G) : Nat := x.2.2.2.2.2.1
def tc_G.ct (x : tc_G) : Nat := x.2.2.2.2.2.2.1
def tc_G.dp (x : tc_G) : Nat := x.2.2.2.2.2.2.2.1
def tc_G.lk (x : tc_G) : Bool := x.2.2.2.2.2.2.2.2.1
def tc_G.cp (x : tc_G) : Nat := x.2.2.2.2.2.2.2.2.2.1
def tc_G.pc (x : tc_G) : Nat := x.2.2.2.2.2.2.2.2.2.2.1
def tc_G.pp (x : tc_G) : Nat := x.2.2.2.2.2.2.2.2.2.2.2.1
def tc_G.ps (x : tc_G) : Nat := x.2.2.2.2.2.2.2.2.2.2.2.2.1
def tc_G.src (x : tc_G) : Nat → Nat := x.2.2.2.2.2.2.2.2.2.2.2.2.2.1
def tc_G.dx (x : tc_G) : Nat → Int32 := x.2.2.2.2.2.2.2.2.2.2.2.2.2.2.1
def tc_G.dy (x : tc_G) : Nat → Int32 := x.2.2.2.2.2.2.2.2.2.2.2.2.2.2.2.1
def tc_G.tu (x : tc_G) : Nat → Nat := x.2.2.2.2.2.2.2.2.2.2.2.2.2.2.2.2
def tc_G_mk (X : Nat → Int32) (Y : Nat → Int32) (W : Nat → Int32) (O : Nat → Int32) (E : Nat → Int32) (pt : Nat) (ct : Nat) (dp : Nat) (lk : Bool) (cp : Nat) (pc : Nat) (pp : Nat) (ps : Nat) (src : Nat → Nat) (dx : Nat → Int32) (dy : Nat → Int32) (tu : Nat → Nat) : tc_G := (X, Y, W, O, E, pt, ct, dp, lk, cp, pc, pp, ps, src, dx, dy, tu)
def tc_S : Type := (Nat) × (Int32) × (Int32) × (Nat) × (Nat → tc_G) × (Int32) × (Int32) × (Nat → Nat → Int32) × (Nat) × (Nat → Int32) × (Nat → Int32) × (Nat) × (Nat → Int32) × (Int32) × (Nat) × (Nat → Int32) × (Nat) × (Nat → Int32) × (Nat → Int32) × (Nat → Int32) × (Nat → Int32) × (Nat → Int32) × (Nat → Int32) × (Nat → Int32) × (Nat) × (Nat) × (Nat) × (Int32) × (Nat → Int32) × (Nat → tw_RL)
def tc_S.mm (x : tc_S) : Nat := x.1
def tc_S.u (x : tc_S) : Int32 := x.2.1
def tc_S.w (x : tc_S) : Int32 := x.2.2.1
def tc_S.n (x : tc_S) : Nat := x.2.2.2.1
def tc_S.T (x : tc_S) : Nat → tc_G := x.2.2.2.2.1
def tc_S.oc (x : tc_S) : Int32 := x.2.2.2.2.2.1
def tc_S.op (x : tc_S) : Int32 := x.2.2.2.2.2.2.1
def tc_S.oA (x : tc_S) : Nat → Nat → Int32 := x.2.2.2.2.2.2.2.1
def tc_S.pz (x : tc_S) : Nat := x.2.2.2.2.2.2.2.2.1
def tc_S.px (x : tc_S) : Nat → Int32 := x.2.2.2.2.2.2.2.2.2.1
def tc_S.py (x : tc_S) : Nat → Int32 := x.2.2.2.2.2.2.2.2.2.2.1
def tc_S.hn (x : tc_S) : Nat := x.2.2.2.2.2.2.2.2.2.2.2.1
def tc_S.hy (x : tc_S) : Nat → Int32 := x.2.2.2.2.2.2.2.2.2.2.2.2.1
def tc_S.cs (x : tc_S) : Int32 := x.2.2.2.2.2.2.2.2.2.2.2.2.2.1
def tc_S.ca (x : tc_S) : Nat := x.2.2.2.2.2.2.2.2.2.2.2.2.2.2.1
def tc_S.ce (x : tc_S) : Nat → Int32 := x.2.2.2.2.2.2.2.2.2.2.2.2.2.2.2.1
def tc_S.kp (x : tc_S) : Nat := x.2.2.2.2.2.2.2.2.2.2.2.2.2.2.2.2.1
def tc_S.kl (x : tc_S) : Nat → Int32 := x.2.2.2.2.2.2.2.2.2.2.2.2.2.2.2.2.2.1
def tc_S.kr (x : tc_S) : Nat → Int32 := x.2.2.2.2.2.2.2.2.2.2.2.2.2.2.2.2.2.2.1
def tc_S.kc (x : tc_S) : Nat → Int32 := x.2.2.2.2.2.2.2.2.2.2.2.2.2.2.2.2.2.2.2.1
def tc_S.kL (x : tc_S) : Nat → Int32 := x.2.2.2.2.2.2.2.2.2.2.2.2.2.2.2.2.2.2.2.2.1
def tc_S.kR (x : tc_S) : Nat → Int32 := x.2.2.2.2.2.2.2.2.2.2.2.2.2.2.2.2.2.2.2.2.2.1
def tc_S.kO (x : tc_S) : Nat → Int32 := x.2.2.2.2.2.2.2.2.2.2.2.2.2.2.2.2.2.2.2.2.2.2.1
def tc_S.row (x : tc_S) : Nat → Int32 := x.2.2.2.2.2.2.2.2.2.2.2.2.2.2.2.2.2.2.2.2.2.2.2.1
def tc_S.rs (x : tc_S) : Nat := x.2.2.2.2.2.2.2.2.2.2.2.2.2.2.2.2.2.2.2.2.2.2.2.2.1
def tc_S.ts (x : tc_S) : Nat := x.2.2.2.2.2.2.2.2.2.2.2.2.2.2.2.2.2.2.2.2.2.2.2.2.2.1
def tc_S.rn (x : tc_S) : Nat := x.2.2.2.2.2.2.2.2.2.2.2.2.2.2.2.2.2.2.2.2.2.2.2.2.2.2.1
def tc_S.pu (x : tc_S) : Int32 := x.2.2.2.2.2.2.2.2.2.2.2.2.2.2.2.2.2.2.2.2.2.2.2.2.2.2.2.1
def tc_S.tx (x : tc_S) : Nat → Int32 := x.2.2.2.2.2.2.2.2.2.2.2.2.2.2.2.2.2.2.2.2.2.2.2.2.2.2.2.2.1
def tc_S.R (x : tc_S) : Nat → tw_RL := x.2.2.2.2.2.2.2.2.2.2.2.2.2.2.2.2.2.2.2.2.2.2.2.2.2.2.2.2.2
def tc_S_mk (mm : Nat) (u : Int32) (w : Int32) (n : Nat) (T : Nat → tc_G) (oc : Int32) (op : Int32) (oA : Nat → Nat → Int32) (pz : Nat) (px : Nat → Int32) (py : Nat → Int32) (hn : Nat) (hy : Nat → Int32) (cs : Int32) (ca : Nat) (ce : Nat → Int32) (kp : Nat) (kl : Nat → Int32) (kr : Nat → Int32) (kc : Nat → Int32) (kL : Nat → Int32) (kR : Nat → Int32) (kO : Nat → Int32) (row : Nat → Int32) (rs : Nat) (ts : Nat) (rn : Nat) (pu : Int32) (tx : Nat → Int32) (R : Nat → tw_RL) : tc_S := (mm, u, w, n, T, oc, op, oA, pz, px, py, hn, hy, cs, ca, ce, kp, kl, kr, kc, kL, kR, kO, row, rs, ts, rn, pu, tx, R)
def tc_k (i k : Nat) : Nat := 80 + 16 * i + k
def tc_ga (ad : Nat → Nat) (n i : Nat) : Option Nat := if i < n then some (ad (tc_k i 0)) else none
def tc_ra (ad : Nat → Nat) (n i : Nat) : Option Nat := if i < n then some (ad (32 + i)) else none
def tc_pa (ad : Nat → Nat) (g n j : Nat) : Option Nat := if j < n then some (ad (tc_k g (8 + j))) else none
def tc_L (q : Nat → ClassId) (ad : Nat → Nat) (S : tc_S) : List va_E := [to 0 [.ref (ad 1), .ref (ad 2), .ref (ad 3), .ref (ad 9), .ref (ad 12), .ref (ad 14), .ref (ad 16), .ref (ad 23), .int (nI S.n)], to 1 [.int (nI S.mm), .int S.u, .int S.w], tr 5 q 40 (tc_ga ad S.n), to 6 [.ref (ad 4), .ref (ad 5), .ref (ad 6), .ref (ad 7), .int S.oc, .ref (ad 8), .int S.op], ti q 160 (S.oA 0), ti q 160 (S.oA 1), tz q 160 (S.oA 2), ti q 54 (S.oA 3), ti q 160 (S.oA 4), to 8 [.ref (ad 10), .ref (ad 11), .int (nI S.pz)], ti q 320 S.px, ti q 320 S.py, to 4 [.int (nI S.hn), .ref (ad 13)], ti q 8 S.hy, to 2 [.ref (ad 15), .int S.cs, .int (nI S.ca)], ti q 4096 S.ce, to 5 [.int (nI S.kp), .ref (ad 17), .ref (ad 18), .ref (ad 19), .ref (ad 20), .ref (ad 21), .ref (ad 22)], ti q 40 S.kl, ti q 40 S.kr, ti q 256 S.kc, ti q 40 S.kL, ti q 40 S.kR, ti q 40 S.kO, to 10 [.ref (ad 24), .int (nI S.rs), .int (nI S.ts), .int (nI S.rn), .int S.pu, .ref (ad 25), .ref (ad 26)], ti q 60 S.row, ti q 60 S.tx, tr 7 q 40 (tc_ra ad S.rn)]
def tc_gL (q : Nat → ClassId) (ad : Nat → Nat) (mm i : Nat) (G : tc_G) : List va_E := [to 3 [.ref (ad (tc_k i 1)), .ref (ad (tc_k i 2)), .ref (ad (tc_k i 3)), .ref (ad (tc_k i 4)), .ref (ad (tc_k i 5)), .ref (ad (tc_k i 6)), .int (nI G.pt), .int (nI G.ct), .int (nI G.dp), .int (bI G.lk), .int (nI mm), .int (nI G.cp), .int (nI G.pc), .int (nI G.pp), .int (nI G.ps)], ti q (40 * mm) G.X, ti q (40 * mm) G.Y, ti q mm G.W, tz q 40 G.O, ti q 13 G.E, tr 6 q 4 (tc_pa ad i G.pc)]
def tc_pt (ad : Nat → Nat) (G : tc_G) (j : Nat) : va_E := to 7 [.ref (ad (tc_k (G.src j) 0)), .int (G.dx j), .int (G.dy j), .int (nI (G.tu j))]
def tc_gE (q : Nat → ClassId) (ad : Nat → Nat) (S : tc_S) (i k : Nat) : Option va_E :=
  if i < S.n then if k < 8 then (tc_gL q ad S.mm i (S.T i))[k]? else if k < 8 + (S.T i).pc then some (tc_pt ad (S.T i) (k - 8)) else none else none
def tc_E (q : Nat → ClassId) (ad : Nat → Nat) (S : tc_S) (k : Nat) : Option va_E :=
  if k < 32 then (tc_L q ad S)[k]? else if k < 80 then if k < 32 + S.rn then some (tw_rc (S.R (k - 32))) else none else tc_gE q ad S ((k - 80) / 16) ((k - 80) % 16)
def tc_w (ad : Nat → Nat) (E : Nat → Option va_E) (L : List Nat) (f : tf_F) : Prop :=
  (∀ k e, E k = some e → ad k ∈ L ∧ f (ad k) = e) ∧ ∀ i j, (E i).isSome = true → (E j).isSome = true → ad i = ad j → i = j
def tc_at (q : Nat → ClassId) (ad : Nat → Nat) (S : tc_S) (B : Nat → Prop) (L : List Nat) (f : tf_F) : Prop :=
  tc_w ad (tc_E q ad S) L f ∧ ∀ k, (tc_E q ad S k).isSome = true → ¬ B (ad k)
def tc_uE (E : Nat → Option va_E) : List (Nat × va_E) → Nat → Option va_E
  | [] => E
  | p :: es => tc_uE (va_up E p.1 (some p.2)) es
def tc_uF (ad : Nat → Nat) (f : tf_F) : List (Nat × va_E) → tf_F
  | [] => f
  | p :: es => tc_uF ad (va_up f (ad p.1) p.2) es
def tc_uL (l : List va_E) : List (Nat × va_E) → List va_E
  | [] => l
  | p :: es => tc_uL (l.set p.1 p.2) es
theorem tc_up {ad : Nat → Nat} {E : Nat → Option va_E} {L : List Nat} {f : tf_F} (h : tc_w ad E L f) {k : Nat} (hk : (E k).isSome = true) (e : va_E) : tc_w ad (va_up E k (some e)) L (va_up f (ad k) e) := by
  have hs : ∀ j, (va_up E k (some e) j).isSome = true → (E j).isSome = true := by
    intro j hj
    by_cases hjk : j = k
    · rw [hjk]; exact hk
    · rw [va_up_ne _ _ hjk] at hj; exact hj
  refine ⟨fun j e2 hj => ?_, fun i j hi hj hij => h.2 i j (hs i hi) (hs j hj) hij⟩
  obtain ⟨e3, he3⟩ := Option.isSome_iff_exists.mp (hs j (by rw [hj]; rfl))
  refine ⟨(h.1 j e3 he3).1, ?_⟩
  by_cases hjk : j = k
  · subst hjk
    rw [va_up_self] at hj ⊢
    exact Option.some.inj hj
  · rw [va_up_ne _ _ hjk] at hj
    rw [va_up_ne _ _ (fun z => hjk (h.2 j k (by rw [hj]; rfl) hk z))]
    exact (h.1 j e2 hj).2
theorem tc_ups {ad : Nat → Nat} {L : List Nat} : ∀ (es : List (Nat × va_E)) {E : Nat → Option va_E} {f : tf_F}, tc_w ad E L f → (∀ p ∈ es, (E p.1).isSome = true) → tc_w ad (tc_uE E es) L (tc_uF ad f es) := by
  intro es
  induction es with
  | nil => intro E f h _; exact h
  | cons p es ih =>
    intro E f h hl
    refine ih (tc_up h (hl p List.mem_cons_self) p.2) (fun x hx => ?_)
    by_cases e : x.1 = p.1
    · rw [e, va_up_self]; rfl
    · rw [va_up_ne _ _ e]; exact hl x (List.mem_cons_of_mem _ hx)
theorem tc_uF_ne {ad : Nat → Nat} {z : Nat} : ∀ (es : List (Nat × va_E)) {f : tf_F}, (∀ p ∈ es, z ≠ ad p.1) → tc_uF ad f es z = f z := by
  intro es
  induction es with
  | nil => intro f _; rfl
  | cons p es ih =>
    intro f h
    refine (ih (fun x hx => h x (List.mem_cons_of_mem _ hx))).trans ?_
    exact va_up_ne _ _ (h p List.mem_cons_self)
theorem tc_uE_ne {k : Nat} : ∀ (es : List (Nat × va_E)) {E : Nat → Option va_E}, (∀ p ∈ es, k ≠ p.1) → tc_uE E es k = E k := by
  intro es
  induction es with
  | nil => intro E _; rfl
  | cons p es ih =>
    intro E h
    refine (ih (fun x hx => h x (List.mem_cons_of_mem _ hx))).trans ?_
    exact va_up_ne _ _ (h p List.mem_cons_self)
theorem tc_uE_is {k : Nat} : ∀ (es : List (Nat × va_E)) {E : Nat → Option va_E}, (E k).isSome = true → (tc_uE E es k).isSome = true := by
  intro es
  induction es with
  | nil => intro E h; exact h
  | cons p es ih =>
    intro E h
    refine ih ?_
    by_cases e : k = p.1
    · rw [e, va_up_self]; rfl
    · rw [va_up_ne _ _ e]; exact h
theorem tc_uE_is2 {k : Nat} : ∀ (es : List (Nat × va_E)) {E : Nat → Option va_E}, (∀ p ∈ es, (E p.1).isSome = true) → (tc_uE E es k).isSome = true → (E k).isSome = true := by
  intro es
  induction es with
  | nil => intro E _ h; exact h
  | cons p es ih =>
    intro E hl h
    have h2 : (va_up E p.1 (some p.2) k).isSome = true := ih (fun x hx => by
      by_cases e : x.1 = p.1
      · rw [e, va_up_self]; rfl
      · rw [va_up_ne _ _ e]; exact hl x (List.mem_cons_of_mem _ hx)) h
    by_cases e : k = p.1
    · rw [e]; exact hl p List.mem_cons_self
    · rw [va_up_ne _ _ e] at h2; exact h2
section
variable {q : Nat → ClassId} {ad : Nat → Nat} {S S2 : tc_S} {B : Nat → Prop} {L : List Nat} {f : tf_F}
/-- cells of the state get new contents -/
theorem tc_go (h : tc_at q ad S B L f) (es : List (Nat × va_E)) (hl : ∀ p ∈ es, (tc_E q ad S p.1).isSome = true) (hE : ∀ k, tc_E q ad S2 k = tc_uE (tc_E q ad S) es k) : tc_at q ad S2 B L (tc_uF ad f es) ∧ ∀ z, B z → tc_uF ad f es z = f z := by
  have e : tc_E q ad S2 = tc_uE (tc_E q ad S) es := funext hE
  refine ⟨⟨by rw [e]; exact tc_ups es h.1 hl, fun k hk => h.2 k ?_⟩, fun z hz => tc_uF_ne es (fun p hp e9 => h.2 p.1 (hl p hp) (e9 ▸ hz))⟩
  rw [e] at hk
  exact tc_uE_is2 es hl hk
theorem tc_uL_get {k : Nat} : ∀ (es : List (Nat × va_E)) (l : List va_E) (E : Nat → Option va_E), (∀ p ∈ es, p.1 < l.length) → E k = l[k]? → tc_uE E es k = (tc_uL l es)[k]? := by
  intro es
  induction es with
  | nil => intro l E _ h; exact h
  | cons p es ih =>
    intro l E hl h
    refine ih (l.set p.1 p.2) _ (fun x hx => by rw [List.length_set]; exact hl x (List.mem_cons_of_mem _ hx)) ?_
    by_cases e : k = p.1
    · rw [e, va_up_self, List.getElem?_set_self (hl p List.mem_cons_self)]
    · rw [va_up_ne _ _ e, h, List.getElem?_set_ne (fun z => e z.symm)]
/-- fixed cells get new contents -/
theorem tc_goF (h : tc_at q ad S B L f) (es : List (Nat × va_E)) (hl : ∀ p ∈ es, p.1 < 27) (hL : tc_L q ad S2 = tc_uL (tc_L q ad S) es) (hn : S2.n = S.n) (hT : S2.T = S.T) (hm : S2.mm = S.mm) (hr : S2.rn = S.rn) (hR : S2.R = S.R) : tc_at q ad S2 B L (tc_uF ad f es) ∧ ∀ z, B z → tc_uF ad f es z = f z := by
  refine tc_go h es (fun p hp => ?_) (fun k => ?_)
  · have h9 := hl p hp
    rw [tc_E, if_pos (by omega)]
    exact Option.isSome_iff_exists.mpr ⟨_, List.getElem?_eq_getElem (show p.1 < (tc_L q ad S).length from h9)⟩
  · by_cases hk : k < 32
    · rw [tc_uL_get es (tc_L q ad S) (tc_E q ad S) hl (by rw [tc_E, if_pos hk]), tc_E, if_pos hk, hL]
    · rw [tc_uE_ne es (fun p hp => by have := hl p hp; omega), tc_E, tc_E, if_neg hk, if_neg hk, hr, hR]
      split
      · rfl
      · unfold tc_gE
        rw [hn, hT, hm]
theorem tc_cell (h : tc_at q ad S B L f) (k : Nat) {e : va_E} (hk : tc_E q ad S k = some e) : ad k ∈ L ∧ f (ad k) = e := h.1.1 k e hk
theorem tc_ne (h : tc_at q ad S B L f) {i j : Nat} (hi : (tc_E q ad S i).isSome = true) (hj : (tc_E q ad S j).isSome = true) (hij : i ≠ j) : ad i ≠ ad j := fun e => hij (h.1.2 i j hi hj e)
theorem tc_neF (h : tc_at q ad S B L f) {i j : Nat} (hi : i < 27) (hj : j < 27) (hij : i ≠ j) : ad i ≠ ad j := by
  have e : ∀ k, k < 27 → (tc_E q ad S k).isSome = true := fun k hk => by
    rw [tc_E, if_pos (by omega)]
    exact Option.isSome_iff_exists.mpr ⟨_, List.getElem?_eq_getElem (show k < (tc_L q ad S).length from hk)⟩
  exact tc_ne h (e i hi) (e j hj) hij
theorem tc_c0 (h : tc_at q ad S B L f) : ad 0 ∈ L ∧ f (ad 0) = to 0 [.ref (ad 1), .ref (ad 2), .ref (ad 3), .ref (ad 9), .ref (ad 12), .ref (ad 14), .ref (ad 16), .ref (ad 23), .int (nI S.n)] := tc_cell h 0 rfl
theorem tc_c1 (h : tc_at q ad S B L f) : ad 1 ∈ L ∧ f (ad 1) = to 1 [.int (nI S.mm), .int S.u, .int S.w] := tc_cell h 1 rfl
theorem tc_c2 (h : tc_at q ad S B L f) : ad 2 ∈ L ∧ f (ad 2) = tr 5 q 40 (tc_ga ad S.n) := tc_cell h 2 rfl
theorem tc_c3 (h : tc_at q ad S B L f) : ad 3 ∈ L ∧ f (ad 3) = to 6 [.ref (ad 4), .ref (ad 5), .ref (ad 6), .ref (ad 7), .int S.oc, .ref (ad 8), .int S.op] := tc_cell h 3 rfl
theorem tc_c4 (h : tc_at q ad S B L f) : ad 4 ∈ L ∧ f (ad 4) = ti q 160 (S.oA 0) := tc_cell h 4 rfl
theorem tc_c5 (h : tc_at q ad S B L f) : ad 5 ∈ L ∧ f (ad 5) = ti q 160 (S.oA 1) := tc_cell h 5 rfl
theorem tc_c6 (h : tc_at q ad S B L f) : ad 6 ∈ L ∧ f (ad 6) = tz q 160 (S.oA 2) := tc_cell h 6 rfl
theorem tc_c7 (h : tc_at q ad S B L f) : ad 7 ∈ L ∧ f (ad 7) = ti q 54 (S.oA 3) := tc_cell h 7 rfl
theorem tc_c8 (h : tc_at q ad S B L f) : ad 8 ∈ L ∧ f (ad 8) = ti q 160 (S.oA 4) := tc_cell h 8 rfl
theorem tc_c9 (h : tc_at q ad S B L f) : ad 9 ∈ L ∧ f (ad 9) = to 8 [.ref (ad 10), .ref (ad 11), .int (nI S.pz)] := tc_cell h 9 rfl
theorem tc_c10 (h : tc_at q ad S B L f) : ad 10 ∈ L ∧ f (ad 10) = ti q 320 S.px := tc_cell h 10 rfl
theorem tc_c11 (h : tc_at q ad S B L f) : ad 11 ∈ L ∧ f (ad 11) = ti q 320 S.py := tc_cell h 11 rfl
theorem tc_c12 (h : tc_at q ad S B L f) : ad 12 ∈ L ∧ f (ad 12) = to 4 [.int (nI S.hn), .ref (ad 13)] := tc_cell h 12 rfl
theorem tc_c13 (h : tc_at q ad S B L f) : ad 13 ∈ L ∧ f (ad 13) = ti q 8 S.hy := tc_cell h 13 rfl
theorem tc_c14 (h : tc_at q ad S B L f) : ad 14 ∈ L ∧ f (ad 14) = to 2 [.ref (ad 15), .int S.cs, .int (nI S.ca)] := tc_cell h 14 rfl
theorem tc_c15 (h : tc_at q ad S B L f) : ad 15 ∈ L ∧ f (ad 15) = ti q 4096 S.ce := tc_cell h 15 rfl
theorem tc_c16 (h : tc_at q ad S B L f) : ad 16 ∈ L ∧ f (ad 16) = to 5 [.int (nI S.kp), .ref (ad 17), .ref (ad 18), .ref (ad 19), .ref (ad 20), .ref (ad 21), .ref (ad 22)] := tc_cell h 16 rfl
theorem tc_c17 (h : tc_at q ad S B L f) : ad 17 ∈ L ∧ f (ad 17) = ti q 40 S.kl := tc_cell h 17 rfl
theorem tc_c18 (h : tc_at q ad S B L f) : ad 18 ∈ L ∧ f (ad 18) = ti q 40 S.kr := tc_cell h 18 rfl
theorem tc_c19 (h : tc_at q ad S B L f) : ad 19 ∈ L ∧ f (ad 19) = ti q 256 S.kc := tc_cell h 19 rfl
theorem tc_c20 (h : tc_at q ad S B L f) : ad 20 ∈ L ∧ f (ad 20) = ti q 40 S.kL := tc_cell h 20 rfl
theorem tc_c21 (h : tc_at q ad S B L f) : ad 21 ∈ L ∧ f (ad 21) = ti q 40 S.kR := tc_cell h 21 rfl
theorem tc_c22 (h : tc_at q ad S B L f) : ad 22 ∈ L ∧ f (ad 22) = ti q 40 S.kO := tc_cell h 22 rfl
theorem tc_c23 (h : tc_at q ad S B L f) : ad 23 ∈ L ∧ f (ad 23) = to 10 [.ref (ad 24), .int (nI S.rs), .int (nI S.ts), .int (nI S.rn), .int S.pu, .ref (ad 25), .ref (ad 26)] := tc_cell h 23 rfl
theorem tc_c24 (h : tc_at q ad S B L f) : ad 24 ∈ L ∧ f (ad 24) = ti q 60 S.row := tc_cell h 24 rfl
theorem tc_c25 (h : tc_at q ad S B L f) : ad 25 ∈ L ∧ f (ad 25) = ti q 60 S.tx := tc_cell h 25 rfl
theorem tc_c26 (h : tc_at q ad S B L f) : ad 26 ∈ L ∧ f (ad 26) = tr 7 q 40 (tc_ra ad S.rn) := tc_cell h 26 rfl
theorem tc_E_g {i k : Nat} (hi : i < S.n) (hk : k < 7) : tc_E q ad S (tc_k i k) = (tc_gL q ad S.mm i (S.T i))[k]? := by
  have e1 : (tc_k i k - 80) / 16 = i := by unfold tc_k; omega
  have e2 : (tc_k i k - 80) % 16 = k := by unfold tc_k; omega
  have e3 : ¬ tc_k i k < 32 := by unfold tc_k; omega
  have e4 : ¬ tc_k i k < 80 := by unfold tc_k; omega
  rw [tc_E, if_neg e3, if_neg e4, e1, e2, tc_gE, if_pos hi, if_pos (by omega)]
theorem tc_E_p {i j : Nat} (hi : i < S.n) (hj : j < (S.T i).pc) (h4 : (S.T i).pc ≤ 4) : tc_E q ad S (tc_k i (8 + j)) = some (tc_pt ad (S.T i) j) := by
  have e1 : (tc_k i (8 + j) - 80) / 16 = i := by unfold tc_k; omega
  have e2 : (tc_k i (8 + j) - 80) % 16 = 8 + j := by unfold tc_k; omega
  have e3 : ¬ tc_k i (8 + j) < 32 := by unfold tc_k; omega
  have e4 : ¬ tc_k i (8 + j) < 80 := by unfold tc_k; omega
  rw [tc_E, if_neg e3, if_neg e4, e1, e2, tc_gE, if_pos hi, if_neg (by omega), if_pos (by omega), Nat.add_sub_cancel_left]
theorem tc_E_r {r : Nat} (hr : r < S.rn) (h40 : S.rn ≤ 40) : tc_E q ad S (32 + r) = some (tw_rc (S.R r)) := by
  rw [tc_E, if_neg (by omega), if_pos (by omega), if_pos (by omega), Nat.add_sub_cancel_left]
theorem tc_g0 (h : tc_at q ad S B L f) {i : Nat} (hi : i < S.n) : ad (tc_k i 0) ∈ L ∧ f (ad (tc_k i 0)) = to 3 [.ref (ad (tc_k i 1)), .ref (ad (tc_k i 2)), .ref (ad (tc_k i 3)), .ref (ad (tc_k i 4)), .ref (ad (tc_k i 5)), .ref (ad (tc_k i 6)), .int (nI (S.T i).pt), .int (nI (S.T i).ct), .int (nI (S.T i).dp), .int (bI (S.T i).lk), .int (nI S.mm), .int (nI (S.T i).cp), .int (nI (S.T i).pc), .int (nI (S.T i).pp), .int (nI (S.T i).ps)] := tc_cell h (tc_k i 0) (tc_E_g hi (by decide))
theorem tc_g1 (h : tc_at q ad S B L f) {i : Nat} (hi : i < S.n) : ad (tc_k i 1) ∈ L ∧ f (ad (tc_k i 1)) = ti q (40 * S.mm) (S.T i).X := tc_cell h (tc_k i 1) (tc_E_g hi (by decide))
theorem tc_g2 (h : tc_at q ad S B L f) {i : Nat} (hi : i < S.n) : ad (tc_k i 2) ∈ L ∧ f (ad (tc_k i 2)) = ti q (40 * S.mm) (S.T i).Y := tc_cell h (tc_k i 2) (tc_E_g hi (by decide))
theorem tc_g3 (h : tc_at q ad S B L f) {i : Nat} (hi : i < S.n) : ad (tc_k i 3) ∈ L ∧ f (ad (tc_k i 3)) = ti q S.mm (S.T i).W := tc_cell h (tc_k i 3) (tc_E_g hi (by decide))
theorem tc_g4 (h : tc_at q ad S B L f) {i : Nat} (hi : i < S.n) : ad (tc_k i 4) ∈ L ∧ f (ad (tc_k i 4)) = tz q 40 (S.T i).O := tc_cell h (tc_k i 4) (tc_E_g hi (by decide))
theorem tc_g5 (h : tc_at q ad S B L f) {i : Nat} (hi : i < S.n) : ad (tc_k i 5) ∈ L ∧ f (ad (tc_k i 5)) = ti q 13 (S.T i).E := tc_cell h (tc_k i 5) (tc_E_g hi (by decide))
theorem tc_g6 (h : tc_at q ad S B L f) {i : Nat} (hi : i < S.n) : ad (tc_k i 6) ∈ L ∧ f (ad (tc_k i 6)) = tr 6 q 4 (tc_pa ad i (S.T i).pc) := tc_cell h (tc_k i 6) (tc_E_g hi (by decide))
theorem tc_part (h : tc_at q ad S B L f) {i j : Nat} (hi : i < S.n) (hj : j < (S.T i).pc) (h4 : (S.T i).pc ≤ 4) : ad (tc_k i (8 + j)) ∈ L ∧ f (ad (tc_k i (8 + j))) = tc_pt ad (S.T i) j := tc_cell h _ (tc_E_p hi hj h4)
theorem tc_rule (h : tc_at q ad S B L f) {r : Nat} (hr : r < S.rn) (h40 : S.rn ≤ 40) : ad (32 + r) ∈ L ∧ f (ad (32 + r)) = tw_rc (S.R r) := tc_cell h _ (tc_E_r hr h40)
/-- glyph i's own cells get new contents -/
theorem tc_goG2 (h : tc_at q ad S B L f) {i : Nat} (hi : i < S.n) (G : tc_G) (es : List (Nat × va_E)) (hl : ∀ p ∈ es, p.1 < 7) (hL : tc_gL q ad S.mm i G = tc_uL (tc_gL q ad S.mm i (S.T i)) es) (hc : G.pc = (S.T i).pc) (hs : G.src = (S.T i).src) (hx : G.dx = (S.T i).dx) (hy : G.dy = (S.T i).dy) (ht : G.tu = (S.T i).tu) (hn2 : S2.n = S.n) (hT2 : S2.T = va_up S.T i G) (hm2 : S2.mm = S.mm) (hr2 : S2.rn = S.rn) (hR2 : S2.R = S.R) (hF2 : tc_L q ad S2 = tc_L q ad S) : tc_at q ad S2 B L (tc_uF ad f (es.map (fun p => (tc_k i p.1, p.2)))) ∧ ∀ z, B z → tc_uF ad f (es.map (fun p => (tc_k i p.1, p.2))) z = f z := by
  have hmem : ∀ p ∈ es.map (fun p => (tc_k i p.1, p.2)), ∃ x ∈ es, p.1 = tc_k i x.1 := fun p hp => by
    obtain ⟨x, hx1, hx2⟩ := List.mem_map.mp hp
    exact ⟨x, hx1, by rw [← hx2]⟩
  refine tc_go h _ (fun p hp => ?_) (fun k => ?_)
  · obtain ⟨x, hx1, hx2⟩ := hmem p hp
    rw [hx2, tc_E_g hi (hl x hx1)]
    exact Option.isSome_iff_exists.mpr ⟨_, List.getElem?_eq_getElem (show x.1 < (tc_gL q ad S.mm i (S.T i)).length from hl x hx1)⟩
  · by_cases hk : ∃ j, j < 8 ∧ k = tc_k i j
    · obtain ⟨j, hj, rfl⟩ := hk
      have e1 : (tc_k i j - 80) / 16 = i := by unfold tc_k; omega
      have e2 : (tc_k i j - 80) % 16 = j := by unfold tc_k; omega
      have e3 : ¬ tc_k i j < 32 := by unfold tc_k; omega
      have e4 : ¬ tc_k i j < 80 := by unfold tc_k; omega
      have e5 : ∀ (es : List (Nat × va_E)) (E : Nat → Option va_E), tc_uE E (es.map (fun p => (tc_k i p.1, p.2))) (tc_k i j) = tc_uE (fun z => E (tc_k i z)) es j := by
        intro es
        induction es with
        | nil => intro E; rfl
        | cons p es ih =>
          intro E
          refine (ih (va_up E (tc_k i p.1) (some p.2))).trans ?_
          have e9 : (fun z => va_up E (tc_k i p.1) (some p.2) (tc_k i z)) = va_up (fun z => E (tc_k i z)) p.1 (some p.2) := by
            funext z
            by_cases hz : z = p.1
            · rw [hz, va_up_self, va_up_self]
            · rw [va_up_ne _ _ hz, va_up_ne _ _ (fun z9 => hz (by unfold tc_k at z9; omega))]
          rw [e9]
          rfl
      rw [e5, tc_uL_get es (tc_gL q ad S.mm i (S.T i)) (fun z => tc_E q ad S (tc_k i z)) hl (by
        show tc_E q ad S (tc_k i j) = _
        rw [tc_E, if_neg e3, if_neg e4, e1, e2, tc_gE, if_pos hi, if_pos hj]), tc_E, if_neg e3, if_neg e4, e1, e2, tc_gE, hn2, if_pos hi, if_pos hj, hm2, hT2, va_up_self, hL]
    · rw [tc_uE_ne _ (fun p hp e9 => by
        obtain ⟨x, hx1, hx2⟩ := hmem p hp
        have := hl x hx1
        exact hk ⟨x.1, by omega, e9.trans hx2⟩)]
      unfold tc_E
      rw [hF2, hr2, hR2]
      split
      · rfl
      · split
        · rfl
        · unfold tc_gE
          rw [hn2, hm2, hT2]
          split
          · by_cases hz : (k - 80) / 16 = i
            · have h8 : ¬ (k - 80) % 16 < 8 := fun h9 => hk ⟨(k - 80) % 16, h9, by unfold tc_k; omega⟩
              rw [if_neg h8, if_neg h8, hz, va_up_self, hc]
              unfold tc_pt
              rw [hs, hx, hy, ht]
            · rw [va_up_ne _ _ hz]
          · rfl
theorem tc_goG (h : tc_at q ad S B L f) {i : Nat} (hi : i < S.n) (G : tc_G) (es : List (Nat × va_E)) (hl : ∀ p ∈ es, p.1 < 7) (hL : tc_gL q ad S.mm i G = tc_uL (tc_gL q ad S.mm i (S.T i)) es) (hc : G.pc = (S.T i).pc) (hs : G.src = (S.T i).src) (hx : G.dx = (S.T i).dx) (hy : G.dy = (S.T i).dy) (ht : G.tu = (S.T i).tu) : tc_at q ad (tc_S_mk S.mm S.u S.w S.n (va_up S.T i G) S.oc S.op S.oA S.pz S.px S.py S.hn S.hy S.cs S.ca S.ce S.kp S.kl S.kr S.kc S.kL S.kR S.kO S.row S.rs S.ts S.rn S.pu S.tx S.R) B L (tc_uF ad f (es.map (fun p => (tc_k i p.1, p.2)))) ∧ ∀ z, B z → tc_uF ad f (es.map (fun p => (tc_k i p.1, p.2))) z = f z :=
  tc_goG2 h hi G es hl hL hc hs hx hy ht rfl rfl rfl rfl rfl rfl
end
