/-! the class's world: new cells -/
section
variable {q : Nat → ClassId} {ad ad2 : Nat → Nat} {S S2 : tc_S} {B : Nat → Prop} {L : List Nat} {f : tf_F}
theorem tc_isF {k : Nat} (hk : k < 27) : (tc_E q ad S k).isSome = true := by
  rw [tc_E, if_pos (by omega)]
  exact Option.isSome_iff_exists.mpr ⟨_, List.getElem?_eq_getElem (show k < (tc_L q ad S).length from hk)⟩
theorem tc_isG {i k : Nat} (hi : i < S.n) (hk : k < 7) : (tc_E q ad S (tc_k i k)).isSome = true := by
  rw [tc_E_g hi hk]
  exact Option.isSome_iff_exists.mpr ⟨_, List.getElem?_eq_getElem (show k < (tc_gL q ad S.mm i (S.T i)).length from hk)⟩
theorem tc_isP {i j : Nat} (hi : i < S.n) (hj : j < (S.T i).pc) (h4 : (S.T i).pc ≤ 4) : (tc_E q ad S (tc_k i (8 + j))).isSome = true := by
  rw [tc_E_p hi hj h4]; rfl
theorem tc_isR {r : Nat} (hr : r < S.rn) (h40 : S.rn ≤ 40) : (tc_E q ad S (32 + r)).isSome = true := by
  rw [tc_E_r hr h40]; rfl
/-- the parts of every glyph are of glyphs that are there -/
def tc_cl (S : tc_S) : Prop := S.rn ≤ 40 ∧ ∀ i, i < S.n → (S.T i).pc ≤ 4 ∧ ∀ j, j < (S.T i).pc → (S.T i).src j < S.n
set_option maxHeartbeats 2000000 in
/-- the cells of a state name live keys alone -/
theorem tc_congr (hc : tc_cl S) (hag : ∀ k, (tc_E q ad S k).isSome = true → ad2 k = ad k) : tc_E q ad2 S = tc_E q ad S := by
  have g0 : ∀ k, k < 27 → ad2 k = ad k := fun k hk => hag k (tc_isF hk)
  have e1 : tc_ga ad2 S.n = tc_ga ad S.n := by
    funext i
    unfold tc_ga
    split
    · rename_i hi
      rw [hag _ (tc_isG hi (by decide))]
    · rfl
  have e2 : tc_ra ad2 S.rn = tc_ra ad S.rn := by
    funext i
    unfold tc_ra
    split
    · rename_i hi
      rw [hag _ (tc_isR hi hc.1)]
    · rfl
  have eL : tc_L q ad2 S = tc_L q ad S := by
    unfold tc_L
    simp only [e1, e2, g0 1 (by decide), g0 2 (by decide), g0 3 (by decide), g0 4 (by decide), g0 5 (by decide), g0 6 (by decide), g0 7 (by decide), g0 8 (by decide), g0 9 (by decide), g0 10 (by decide), g0 11 (by decide), g0 12 (by decide), g0 13 (by decide), g0 14 (by decide), g0 15 (by decide), g0 16 (by decide), g0 17 (by decide), g0 18 (by decide), g0 19 (by decide), g0 20 (by decide), g0 21 (by decide), g0 22 (by decide), g0 23 (by decide), g0 24 (by decide), g0 25 (by decide), g0 26 (by decide)]
  funext k
  unfold tc_E
  rw [eL]
  split
  · rfl
  split
  · rfl
  unfold tc_gE
  split
  · rename_i hi
    obtain ⟨h4, hs⟩ := hc.2 _ hi
    have gi : ∀ c, c < 7 → ad2 (tc_k ((k - 80) / 16) c) = ad (tc_k ((k - 80) / 16) c) := fun c h => hag _ (tc_isG hi h)
    have ep : tc_pa ad2 ((k - 80) / 16) (S.T ((k - 80) / 16)).pc = tc_pa ad ((k - 80) / 16) (S.T ((k - 80) / 16)).pc := by
      funext j
      unfold tc_pa
      split
      · rename_i hj
        rw [hag _ (tc_isP hi hj h4)]
      · rfl
    have egl : tc_gL q ad2 S.mm ((k - 80) / 16) (S.T ((k - 80) / 16)) = tc_gL q ad S.mm ((k - 80) / 16) (S.T ((k - 80) / 16)) := by
      unfold tc_gL
      simp only [ep, gi 1 (by decide), gi 2 (by decide), gi 3 (by decide), gi 4 (by decide), gi 5 (by decide), gi 6 (by decide)]
    rw [egl]
    split
    · rfl
    split
    · rename_i h8 hp
      unfold tc_pt
      rw [hag _ (tc_isG (hs ((k - 80) % 16 - 8) (by omega)) (by decide))]
    · rfl
  · rfl
/-- one more cell -/
theorem tc_new {E : Nat → Option va_E} (h : tc_w ad E L f) {k a : Nat} (e : va_E) (hk : E k = none) (ha : a ∉ L) : tc_w (va_up ad k a) (va_up E k (some e)) (L ++ [a]) (va_up f a e) := by
  have hne : ∀ j, (E j).isSome = true → j ≠ k := fun j hj z => by rw [z, hk] at hj; cases hj
  have hL : ∀ j, (E j).isSome = true → ad j ∈ L := fun j hj => by
    obtain ⟨e9, he⟩ := Option.isSome_iff_exists.mp hj
    exact (h.1 j e9 he).1
  refine ⟨fun j e2 hj => ?_, fun i j hi hj hij => ?_⟩
  · by_cases hjk : j = k
    · subst hjk
      rw [va_up_self] at hj ⊢
      rw [va_up_self]
      exact ⟨List.mem_append_right _ (List.mem_singleton.mpr rfl), Option.some.inj hj⟩
    · rw [va_up_ne _ _ hjk] at hj ⊢
      have h9 := h.1 j e2 hj
      exact ⟨List.mem_append_left _ h9.1, (va_up_ne _ _ (fun z => ha (by rw [← z]; exact h9.1))).trans h9.2⟩
  · by_cases hik : i = k
    · by_cases hjk : j = k
      · rw [hik, hjk]
      · rw [va_up_ne _ _ hjk] at hj hij
        rw [hik, va_up_self] at hij
        exact absurd (hij ▸ hL j hj) ha
    · rw [va_up_ne _ _ hik] at hi hij
      by_cases hjk : j = k
      · rw [hjk, va_up_self] at hij
        exact absurd (hij ▸ hL i hi) ha
      · rw [va_up_ne _ _ hjk] at hj hij
        exact h.2 i j hi hj hij
/-- cells that nobody of the state names may come -/
theorem tc_more (h : tc_at q ad S B L f) {L2 : List Nat} {f2 : tf_F} (hL : ∀ z ∈ L, z ∈ L2) (hf : ∀ z ∈ L, f2 z = f z) : tc_at q ad S B L2 f2 :=
  ⟨⟨fun k e hk => ⟨hL _ (h.1.1 k e hk).1, (hf _ (h.1.1 k e hk).1).trans (h.1.1 k e hk).2⟩, h.1.2⟩, h.2⟩
end
