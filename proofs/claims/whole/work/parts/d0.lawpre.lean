/-! the law over both states: helpers -/
abbrev i_Law_law : tf_I := (x, code, maxLocals, ret)
def lw_B (adm : Nat → Nat) (m ou : Nat) : Nat → Prop := fun z => tm_own adm m z ∨ z = ou
def tm_Jz (c : Nat) : Nat → Int32 := upd (fun _ => 0) 1 (nI c)
theorem tm_mv9 {q : Nat → ClassId} {ad : Nat → Nat} {m : Nat} {J : Nat → Int32} {A : Nat → Nat → Int32} {R : Nat → Int64} {L L2 : List Nat} {f f2 : tf_F} (h : tm_ok q ad m J A R L f) (hL : ∀ z ∈ L, z ∈ L2) (hf : ∀ z, z ∈ L → tm_own ad m z → f2 z = f z) : tm_at q ad m f2 L2 J A R f2 :=
  ⟨⟨hL _ h.1, (hf m h.1 (Or.inl rfl)).trans h.2.1, fun k hk => ⟨hL _ (h.2.2.1 k hk).1, (hf _ (h.2.2.1 k hk).1 (Or.inr ⟨k, hk, rfl⟩)).trans (h.2.2.1 k hk).2⟩, h.2.2.2⟩, fun _ _ => rfl⟩
section
variable {q : Nat → ClassId} {ad adm : Nat → Nat} {m ou : Nat} {S : tc_S} {J : Nat → Int32} {A : Nat → Nat → Int32} {R : Nat → Int64} {L : List Nat} {f f1 f2 : tf_F}
theorem lw_BL (h : tm_ok q adm m J A R L f) (hou : ou ∈ L) : ∀ z, lw_B adm m ou z → z ∈ L := by
  rintro z ((rfl | ⟨k, hk, rfl⟩) | rfl)
  · exact h.1
  · exact (h.2.2.1 k hk).1
  · exact hou
theorem lw_cl (hR : RR S J A R) : tc_cl S := ⟨hR.2.2.2.2.2.2.1.1, fun i hi => ⟨(hR.2.1.2.2.1 i hi).2.2.2.2.2.1.1, fun j hj => ((hR.2.1.2.2.1 i hi).2.2.2.2.2.1.2.1 j hj).1⟩⟩
theorem lw_cS (h : tc_at q ad S (lw_B adm m ou) L f1) (hT : tm_at q adm m f1 L J A R f2) : tc_at q ad S (lw_B adm m ou) L f2 :=
  ⟨⟨fun k e hk => ⟨(h.1.1 k e hk).1, (hT.2 _ (fun z => h.2 k (by rw [hk]; rfl) (Or.inl z))).trans (h.1.1 k e hk).2⟩, h.1.2⟩, h.2⟩
theorem lw_cO (h : tc_at q ad S (lw_B adm m ou) L f1) (e0 : va_E) : tc_at q ad S (lw_B adm m ou) L (va_up f1 ou e0) :=
  ⟨⟨fun k e hk => ⟨(h.1.1 k e hk).1, (va_up_ne _ _ (fun z => h.2 k (by rw [hk]; rfl) (Or.inr z))).trans (h.1.1 k e hk).2⟩, h.1.2⟩, h.2⟩
theorem lw_vg (hR : RR S J A R) (g : Int32) (h : ¬ bI (tm_isG (tm_J0 J) g) = 0) : vp_in g 40 := by
  obtain ⟨i, hi, e⟩ := (tm_isG_nI (J := tm_J0 J) hR.2.1.1 hR.2.1.2.1 g).mp (bI_t h)
  rw [e]
  have := hR.2.1.1
  exact vp_in_nI (by omega) (by omega)
theorem lw_va (hR : RR S J A R) (g x : Int32) (h : ¬ bI (tm_isG (tm_J0 J) g) = 0) (h1 : ¬ x < 0) (h2 : ¬ tm_J0 J 1 ≤ x) : vp_in (kI 4 * g + x) 160 := by
  obtain ⟨i, hi, e⟩ := (tm_isG_nI (J := tm_J0 J) hR.2.1.1 hR.2.1.2.1 g).mp (bI_t h)
  obtain ⟨k, hk, ek⟩ := nI_of h1
  have := hR.2.1.1
  have h3 : ¬ nI S.mm ≤ x := by rw [← hR.1.2.1]; exact h2
  rw [ek, nI_leI (by rcases hR.1.1 with z | z | z <;> omega) hk] at h3
  rw [e, ek, show kI 4 = nI 4 from rfl, nI_mul, nI_add]
  exact vp_in_nI (by rcases hR.1.1 with z | z | z <;> omega) (by omega)
theorem lw_kv {u v : Int32} (h1 : ¬ u < kI 1) (h2 : ¬ kI 15 < u) (h3 : ¬ v < kI 1) (h4 : ¬ kI 15 < v) : vp_in (kI 16 * u + v) 256 := by
  rw [lt3, k1_i] at h1 h3
  rw [lt3, show (kI 15).toInt = 15 by decide] at h2 h4
  rw [nI_tie (x := u) (k := u.toInt.toNat) (by omega) (by omega), nI_tie (x := v) (k := v.toInt.toNat) (by omega) (by omega), show kI 16 = nI 16 from rfl, nI_mul, nI_add]
  exact vp_in_nI (by omega) (by omega)
theorem lw_ca {n : Nat} (hn : n ≤ 64) {i j : Nat} (hi : i < n) (hj : j < n) : j * n + i < 4096 := by
  have := Nat.mul_le_mul (show j + 1 ≤ n by omega) hn
  rw [Nat.add_mul, Nat.one_mul] at this
  omega
theorem lw_vp1 (hR : RR S J A R) (i j : Int32) (h1 : tw_in i (kI 0) (nI S.ca - kI 1) = true) (h2 : tw_in j (kI 0) (nI S.ca - kI 1) = true) : vp_in (j * nI S.ca + i) 4096 := by
  have hc := hR.2.2.2.1.1
  obtain ⟨a, ha, ea⟩ := tw_inN (by omega) h1
  obtain ⟨b, hb, eb⟩ := tw_inN (by omega) h2
  rw [ea, eb, nI_mul, nI_add]
  exact vp_in_nI (lw_ca hc ha hb) (by omega)
theorem lw_vp2 (hR : RR S J A R) (x y : Int32) (h1 : ¬ x < 0) (h2 : ¬ y < 0) (h3 : ¬ tm_J0 J 32 ≤ x) (h4 : y < tm_J0 J 32) : vp_in (tm_J0 J 32 * y + x) 4096 := by
  have hc := hR.2.2.2.1.1
  have e : tm_J0 J 32 = nI S.ca := hR.2.2.2.1.2.1
  rw [e] at h3 h4 ⊢
  obtain ⟨a, ha, ea⟩ := nI_of h1
  obtain ⟨b, hb, eb⟩ := nI_of h2
  rw [ea, nI_leI (by omega) ha] at h3
  rw [eb, nI_ltI hb (by omega)] at h4
  rw [ea, eb, nI_mul, nI_add, Nat.mul_comm]
  exact vp_in_nI (lw_ca hc (by omega) h4) (by omega)
theorem lw_vt (hR : RR S J A R) (h : ¬ tm_J0 J 50 = kI 60) : vp_in (tm_J0 J 50) 60 := by
  have e : tm_J0 J 50 = nI S.ts := hR.2.2.2.2.2.2.2.1.2.1
  have h60 := hR.2.2.2.2.2.2.2.1.1
  rw [e] at h ⊢
  have h3 : ¬ S.ts = 60 := fun z => h (by rw [z]; rfl)
  exact vp_in_nI (by omega) (by omega)
theorem lw_cmp0 {g1 : Nat → Int64} {a b : Int32} (h : a = b) : lg_cmp (va_upJ g1 a (kI 0).toNatClampNeg) b.toInt64 = 0 := by
  have e1 : va_upJ g1 a (kI 0).toNatClampNeg = a.toInt64 := by simp [va_upJ, vp_updL]
  rw [e1, h]
  unfold lg_cmp
  rw [if_neg (by intro z; have z2 : b.toInt64 < b.toInt64 := z; rw [Int64.lt_iff_toInt_lt] at z2; omega), if_pos rfl]
theorem lw_pt (hR : RR S J A R) {i : Nat} (hi : i < S.n) : (S.T i).cp ≤ (S.T i).pt ∧ (S.T i).pt ≤ 40 ∧ 3 * (S.T i).ct ≤ (S.T i).cp := ⟨(hR.2.1.2.2.1 i hi).1.2.1, (hR.2.1.2.2.1 i hi).1.1, own_3 (hR.2.1.2.2.1 i hi).2.2.2.2.1⟩
theorem lw_mm (hR : RR S J A R) : S.mm ≤ 4 := by rcases hR.1.1 with z | z | z <;> omega
theorem lw_G (hR : RR S J A R) {g : Nat} (hg : g < S.n) : tm_isG J (nI g) = true := (tm_isG_nI hR.2.1.1 hR.2.1.2.1 _).mpr ⟨g, hg, rfl⟩
theorem lw_Gn (hR : RR S J A R) {g : Int32} (hg : ∀ i, i < S.n → g ≠ nI i) : tm_isG J g = false := (tm_isG_no hR.2.1.1 hR.2.1.2.1 _).mpr hg
end
