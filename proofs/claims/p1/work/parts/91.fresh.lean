/-! new objects: the class's, the reference's -/
def tc_G0 : tc_G := tc_G_mk (fun _ => 0) (fun _ => 0) (fun _ => 0) (fun _ => 0) (fun _ => 0) (0) (0) (0) (false) (0) (0) (0) (0) (fun _ => 0) (fun _ => 0) (fun _ => 0) (fun _ => 0)
def tc_S0 (c : Nat) : tc_S := tc_S_mk (c) (0) (0) (0) (fun _ => tc_G0) (0) (0) (fun _ _ => 0) (0) (fun _ => 0) (fun _ => 0) (0) (fun _ => 0) (kI 32) (0) (fun _ => 0) (0) (fun _ => 0) (fun _ => 0) (fun _ => 0) (fun _ => 0) (fun _ => 0) (fun _ => 0) (fun _ => 0) (0) (0) (0) (0) (fun _ => 0) (fun _ => (0, 0, 0, 0, 0))
theorem tf_nd (g : Nat → Nat) : ∀ l : List Nat, (l.map g).Nodup → ∀ i ∈ l, ∀ j ∈ l, g i = g j → i = j := by
  intro l
  induction l with
  | nil => intro _ i hi; cases hi
  | cons a l ih =>
    intro h
    rw [List.map_cons, List.nodup_cons] at h
    intro i hi j hj e
    rcases List.mem_cons.mp hi with hi | hi
    · rcases List.mem_cons.mp hj with hj | hj
      · rw [hi, hj]
      · rw [hi] at e
        exact absurd (by rw [e]; exact List.mem_map.mpr ⟨j, hj, rfl⟩) h.1
    · rcases List.mem_cons.mp hj with hj | hj
      · rw [hj] at e
        exact absurd (by rw [← e]; exact List.mem_map.mpr ⟨i, hi, rfl⟩) h.1
      · exact ih h.2 i hi j hj e
theorem tw_ms_n (k : Int32) : ∃ c, tc_mm c ∧ tw_ms k = nI c := by
  unfold tw_ms
  split
  · rename_i h
    rcases h with h | h
    · exact ⟨2, Or.inr (Or.inl rfl), h⟩
    · exact ⟨4, Or.inr (Or.inr rfl), h⟩
  · exact ⟨1, Or.inl rfl, rfl⟩
section
variable {q : Nat → ClassId} {ad : Nat → Nat} {B : Nat → Prop} {L L2 : List Nat} {f f2 : tf_F} {x c : Nat}
theorem tc_ga0 (ad : Nat → Nat) : tc_ga ad 0 = fun _ => none := by funext i; exact if_neg (Nat.not_lt_zero i)
theorem tc_ra0 (ad : Nat → Nat) : tc_ra ad 0 = fun _ => none := by funext i; exact if_neg (Nat.not_lt_zero i)
set_option maxRecDepth 100000 in
set_option maxHeartbeats 2000000 in
theorem tc_new0_of : tf_new0 q (nI c) ad = (List.range' 1 26).map (fun k => (ad k, (tc_L q (va_up ad 0 x) (tc_S0 c)).getD k (to 0 []))) := by
  unfold tc_L
  rw [show (tc_S0 c).n = 0 from rfl, show (tc_S0 c).rn = 0 from rfl, tc_ga0, tc_ra0]
  rfl
theorem tc_S0_E {k : Nat} {e : va_E} (h : tc_E q ad (tc_S0 c) k = some e) : k < 27 ∧ (tc_L q ad (tc_S0 c)).getD k (to 0 []) = e := by
  unfold tc_E at h
  split at h
  · have h1 := List.getElem?_eq_some_iff.mp h
    obtain ⟨h2, h3⟩ := h1
    exact ⟨h2, by rw [List.getD_eq_getElem?_getD, h]; rfl⟩
  · split at h
    · split at h
      · rename_i z1 z2 z3
        exact absurd (show k < 32 from z3) z1
      · cases h
    · unfold tc_gE at h
      rw [if_neg (show ¬ (k - 80) / 16 < (tc_S0 c).n from Nat.not_lt_zero _)] at h
      cases h
theorem tc_fresh (hx : x ∈ L) (hE : tf_E x L f (tf_new0 q (nI c) ad) L2 f2) (fx : f2 x = tf_ob0 ad) (hB : ∀ z, B z → z ∈ L ∧ z ≠ x) : tc_at q (va_up ad 0 x) (tc_S0 c) B L2 f2 ∧ ∀ z, B z → f2 z = f z := by
  rw [tc_new0_of (x := x)] at hE
  obtain ⟨h1, h2, h3, h4, h5⟩ := hE
  have hin : ∀ k, k < 27 → k ≠ 0 → (ad k, (tc_L q (va_up ad 0 x) (tc_S0 c)).getD k (to 0 [])) ∈ (List.range' 1 26).map (fun k => (ad k, (tc_L q (va_up ad 0 x) (tc_S0 c)).getD k (to 0 []))) := fun k hk h0 => List.mem_map.mpr ⟨k, List.mem_range'_1.mpr ⟨by omega, by omega⟩, rfl⟩
  have hnL : ∀ k, k < 27 → k ≠ 0 → ad k ∉ L := fun k hk h0 => h2 _ (hin k hk h0)
  have hxL : x ∈ L2 := by rw [h1]; exact List.mem_append_left _ hx
  refine ⟨⟨⟨fun k e hk => ?_, fun i j hi hj hij => ?_⟩, fun k hk hb => ?_⟩, fun z hz => h5 z (hB z hz).1 (hB z hz).2⟩
  · obtain ⟨k1, k2⟩ := tc_S0_E hk
    by_cases h0 : k = 0
    · subst h0
      rw [va_up_self, fx, ← k2]
      exact ⟨hxL, rfl⟩
    · rw [va_up_ne _ _ h0]
      have hm := hin k k1 h0
      refine ⟨?_, (h4 _ hm).trans k2⟩
      rw [h1]
      exact List.mem_append_right _ (List.mem_map.mpr ⟨_, hm, rfl⟩)
  · obtain ⟨e1, he1⟩ := Option.isSome_iff_exists.mp hi
    obtain ⟨e2, he2⟩ := Option.isSome_iff_exists.mp hj
    have i1 := (tc_S0_E he1).1
    have j1 := (tc_S0_E he2).1
    by_cases hi0 : i = 0
    · by_cases hj0 : j = 0
      · rw [hi0, hj0]
      · rw [hi0, va_up_self, va_up_ne _ _ hj0] at hij
        exact absurd (hij ▸ hx) (hnL j j1 hj0)
    · by_cases hj0 : j = 0
      · rw [hj0, va_up_self, va_up_ne _ _ hi0] at hij
        exact absurd (hij ▸ hx) (hnL i i1 hi0)
      · rw [va_up_ne _ _ hi0, va_up_ne _ _ hj0] at hij
        rw [List.map_map] at h3
        exact tf_nd ad (List.range' 1 26) h3 i (List.mem_range'_1.mpr ⟨by omega, by omega⟩) j (List.mem_range'_1.mpr ⟨by omega, by omega⟩) hij
  · obtain ⟨e1, he1⟩ := Option.isSome_iff_exists.mp hk
    have k1 := (tc_S0_E he1).1
    obtain ⟨b1, b2⟩ := hB _ hb
    by_cases h0 : k = 0
    · subst h0
      exact b2 (va_up_self _ _ _)
    · rw [va_up_ne _ _ h0] at b1
      exact hnL k k1 h0 b1
theorem tm_ord_all : ∀ k, (tm_kd k).1 ≠ 9 → k ∈ tm_ord := by
  intro k hk
  by_cases h : k < 55
  · exact (by decide +kernel : ∀ k, k < 55 → (tm_kd k).1 ≠ 9 → k ∈ tm_ord) k h hk
  · refine absurd ?_ hk
    unfold tm_kd
    rw [List.getD_eq_getElem?_getD, List.getElem?_eq_none (by show 55 ≤ k; omega)]
    rfl
theorem tm_fresh {m : Nat} {J : Nat → Int32} (hm : m ∈ L) (hE : tf_E m L f (tm_new0 q ad) L2 f2) (fm : f2 m = to 11 (tm_F ad J)) : tm_ok q ad m J (fun _ _ => 0) (fun _ => 0) L2 f2 ∧ (∀ k, (tm_kd k).1 ≠ 9 → ad k ∉ L) ∧ (∀ z ∈ L, z ∈ L2) ∧ ∀ z ∈ L, z ≠ m → f2 z = f z := by
  obtain ⟨h1, h2, h3, h4, h5⟩ := hE
  have hin : ∀ k, (tm_kd k).1 ≠ 9 → (ad k, tm_ar q k (fun _ => 0) (fun _ => 0)) ∈ tm_new0 q ad := fun k hk => List.mem_map.mpr ⟨k, tm_ord_all k hk, rfl⟩
  have hL : ∀ z ∈ L, z ∈ L2 := fun z hz => by rw [h1]; exact List.mem_append_left _ hz
  refine ⟨⟨hL m hm, fm, fun k hk => ⟨?_, h4 _ (hin k hk)⟩, fun i j hi hj hij => ?_⟩, fun k hk => h2 _ (hin k hk), hL, h5⟩
  · rw [h1]
    exact List.mem_append_right _ (List.mem_map.mpr ⟨_, hin k hk, rfl⟩)
  · unfold tm_new0 at h3
    rw [List.map_map] at h3
    exact tf_nd ad tm_ord h3 i (tm_ord_all i hi) j (tm_ord_all j hj) hij
end
