/-! the law over both states: the step, the loop -/
section
variable (l : Launch) (D : va_G) (q : Nat → ClassId) (d : Nat) (L : List Nat) (f : tf_F)
end
theorem tw_out19 (k : Int32) (h0 : ¬ k = kI 0) (h1 : ¬ k = kI 1) (h2 : ¬ k = kI 2) (h3 : ¬ k = kI 3) (h4 : ¬ k = kI 4) (h5 : ¬ k = kI 5) (h6 : ¬ k = kI 6) (h7 : ¬ k = kI 7) (h8 : ¬ k = kI 8) (h9 : ¬ k = kI 9) (h10 : ¬ k = kI 10) (h11 : ¬ k = kI 11) (h12 : ¬ k = kI 12) (h13 : ¬ k = kI 13) (h14 : ¬ k = kI 14) (h15 : ¬ k = kI 15) (h16 : ¬ k = kI 16) (h17 : ¬ k = kI 17) (h18 : ¬ k = kI 18) : k.toInt < 0 ∨ 18 < k.toInt := by
  have e : ∀ n : Int, 0 ≤ n → n ≤ 18 → k.toInt = n → k = kI n := fun n a b h => by
    apply Int32.toInt_inj.mp
    rw [h, Int32.toInt_ofInt]
    simp only [Int.bmod, Int32.size]
    omega
  by_cases a : k.toInt < 0
  · exact Or.inl a
  · refine Or.inr ?_
    by_cases a0 : k.toInt = 0
    · exact absurd (e 0 (by decide) (by decide) a0) h0
    by_cases a1 : k.toInt = 1
    · exact absurd (e 1 (by decide) (by decide) a1) h1
    by_cases a2 : k.toInt = 2
    · exact absurd (e 2 (by decide) (by decide) a2) h2
    by_cases a3 : k.toInt = 3
    · exact absurd (e 3 (by decide) (by decide) a3) h3
    by_cases a4 : k.toInt = 4
    · exact absurd (e 4 (by decide) (by decide) a4) h4
    by_cases a5 : k.toInt = 5
    · exact absurd (e 5 (by decide) (by decide) a5) h5
    by_cases a6 : k.toInt = 6
    · exact absurd (e 6 (by decide) (by decide) a6) h6
    by_cases a7 : k.toInt = 7
    · exact absurd (e 7 (by decide) (by decide) a7) h7
    by_cases a8 : k.toInt = 8
    · exact absurd (e 8 (by decide) (by decide) a8) h8
    by_cases a9 : k.toInt = 9
    · exact absurd (e 9 (by decide) (by decide) a9) h9
    by_cases a10 : k.toInt = 10
    · exact absurd (e 10 (by decide) (by decide) a10) h10
    by_cases a11 : k.toInt = 11
    · exact absurd (e 11 (by decide) (by decide) a11) h11
    by_cases a12 : k.toInt = 12
    · exact absurd (e 12 (by decide) (by decide) a12) h12
    by_cases a13 : k.toInt = 13
    · exact absurd (e 13 (by decide) (by decide) a13) h13
    by_cases a14 : k.toInt = 14
    · exact absurd (e 14 (by decide) (by decide) a14) h14
    by_cases a15 : k.toInt = 15
    · exact absurd (e 15 (by decide) (by decide) a15) h15
    by_cases a16 : k.toInt = 16
    · exact absurd (e 16 (by decide) (by decide) a16) h16
    by_cases a17 : k.toInt = 17
    · exact absurd (e 17 (by decide) (by decide) a17) h17
    by_cases a18 : k.toInt = 18
    · exact absurd (e 18 (by decide) (by decide) a18) h18
    omega
theorem lw_cmp {N i : Nat} (hN : N ≤ 5000) (hi : i ≤ 5010) : nI N - kI 9 < nI i ↔ N < i + 9 := by
  rw [Int32.lt_iff_toInt_lt, nI_toInt (by omega), show kI 9 = nI 9 from rfl, Int32.toInt_sub, nI_toInt (by omega), nI_toInt (by omega)]
  simp only [Int.bmod]
  omega
def lw_QB : tf_B := fun below args s mc ms A t => ∃ o, t.status = .running ∧ Ended t below o ∧ o = .returned (some (.int 1)) ∧ Framed s o t [] mc ms
theorem lw_fin {l : Launch} {D : va_G} {q : Nat → ClassId} {d b N : Nat} {xs : Nat → Int32} {lv : tf_V} {L : List Nat} {f : tf_F} {kc ks : Nat} : tf_W l (tf_H D q) (tl_EX b N xs) lw_QB d i_Law_law 1300 lv [.int (kI 1)] L f kc ks := by
  rw [show kI 1 = 1 from rfl]
  intro p e R s m args below meth c H locs cells slots ls A mc ms hM hE hR hl hP
  obtain ⟨hx, hb, hml, hown, hts, hret, hlk, hnw, hnm, hK, hnd⟩ := id hM
  obtain ⟨hPP, hD, hS, hA⟩ := id hP
  have r1 := hR.2.2.1
  have r2 := hR.2.2.2.1
  refine va_forget (fun z hz => hE.2.2 _ (hS.2.2 z hz)) ?_
  refine W.widen (k := mc) (n := ms) (by omega) (by omega) ?_
  intro T hT X
  have hr : meth.sig.returnType = ret := hret
  obtain ⟨fs, hret2, hrun, hended, hW, hframe⟩ := X.leave (v := some (.int 1)) (hlocks := hlk) (fun h => by rw [hr] at h; cases h)
  have hmeth2 : T.vm.method? m = some meth := X.method'
  have hb2 : c.code = code := hb
  refine ⟨T.setFrames fs, ?_, .returned (some (.int 1)), hrun, hended, rfl, ⟨_, rfl⟩, hW, hframe⟩
  have hdg : decode code 1300 = .ok (.ireturn, 1) := d_Law_law_1300
  jvm_step X.here [X.here.top, hx, hb2, hdg, hmeth2, hr, ret, narrow_b1]
  (try refine ⟨rfl, ?_⟩); (try refine ⟨rfl, ?_⟩)
  first | (intro acts; rw [hret2 _ acts rfl rfl rfl]) | rw [hret2 _ _ rfl rfl rfl]
  exact Steps.refl _
section
variable (l : Launch) (D : va_G) (q : Nat → ClassId) (d : Nat) (L : List Nat) (f : tf_F)
end
theorem lw_vin {i N : Nat} (j : Nat) (hj : j < 9) (h : i + 9 ≤ N) (hN : N ≤ 5000) : vp_in (nI i + nI j) N := by
  rw [nI_add]
  exact vp_in_nI (by omega) (by omega)
theorem lw_v0 {i N : Nat} (h : i + 9 ≤ N) (hN : N ≤ 5000) : vp_in (nI i) N := vp_in_nI (by omega) (by omega)
section
variable (l : Launch) (D : va_G) (q : Nat → ClassId) (d : Nat) (L : List Nat) (f : tf_F)
set_option maxHeartbeats 4000000 in
set_option maxRecDepth 100000 in
theorem lw_step {QB : tf_B} {kc ks K KS : Nat} (hk1 : kc + 20 ≤ K) (hk2 : ks + 1000 ≤ KS) {m ou b N i : Nat} {xs : Nat → Int32} {ad adm : Nat → Nat} {S : tc_S} {J : Nat → Int32} {A : Nat → Nat → Int32} {R : Nat → Int64} {g : Nat → Int64} (hl : l.stackTraces = false) (hd : 14 ≤ d) (hS : tc_at q ad S (lw_B adm m ou) L f) (hM : tm_ok q adm m J A R L f) (hR : RR S J A R) (hou : ou ∈ L) (fou : f ou = tj q 1 g) (hno : ¬ tm_own adm m ou) (hK : ∀ (ad2 : Nat → Nat) (S2 : tc_S) (J2 : Nat → Int32) (A2 : Nat → Nat → Int32) (R2 : Nat → Int64) (L2 : List Nat) (f2 : tf_F) (g2 : Nat → Int64), ad2 0 = ad 0 → tc_at q ad2 S2 (lw_B adm m ou) L2 f2 → tm_ok q adm m J2 A2 R2 L2 f2 → RR S2 J2 A2 R2 → ou ∈ L2 → f2 ou = tj q 1 g2 → tf_W l (tf_H D q) (tl_EX b N xs) QB d i_Law_law 1293 [(0, .ref b), (1, .ref (ad 0)), (2, .ref m), (3, .ref ou), (4, .int (nI i))] [] L2 f2 kc ks) (hv0 : vp_in (nI i) N) (hv1 : vp_in (nI i + kI 1) N) (hv2 : vp_in (nI i + kI 2) N) (hv3 : vp_in (nI i + kI 3) N) (hv4 : vp_in (nI i + kI 4) N) (hv5 : vp_in (nI i + kI 5) N) (hv6 : vp_in (nI i + kI 6) N) (hv7 : vp_in (nI i + kI 7) N) (hv8 : vp_in (nI i + kI 8) N) : tf_W l (tf_H D q) (tl_EX b N xs) QB d i_Law_law 43 [(0, .ref b), (1, .ref (ad 0)), (2, .ref m), (3, .ref ou), (4, .int (nI i))] [] L f K KS := by
  refine tf_blk _ b_Law_law_43 rfl ?_
  refine tl_sld (fun _ _ h => h.2.1) 47 d_Law_law_46 rfl (hv0) ?_
  refine tf_blk _ b_Law_law_47 rfl ?_
  by_cases s50_0 : (xs (nI i).toNatClampNeg &&& kI 31) = kI 0
  · refine tf_tabIn 140 d_Law_law_50 (by rw [s50_0]; decide) (by rw [s50_0]; decide) (by rw [s50_0]; rfl) rfl ?_
    exact lw_k0 l D q d L f hk1 hk2 hl hd hS hM hR hou fou hno hK hv0 hv1 hv2 hv3 hv4 hv5 hv6 hv7 hv8
  by_cases s50_1 : (xs (nI i).toNatClampNeg &&& kI 31) = kI 1
  · refine tf_tabIn 184 d_Law_law_50 (by rw [s50_1]; decide) (by rw [s50_1]; decide) (by rw [s50_1]; rfl) rfl ?_
    exact lw_k1 l D q d L f hk1 hk2 hl hd hS hM hR hou fou hno hK hv0 hv1 hv2 hv3 hv4 hv5 hv6 hv7 hv8
  by_cases s50_2 : (xs (nI i).toNatClampNeg &&& kI 31) = kI 2
  · refine tf_tabIn 292 d_Law_law_50 (by rw [s50_2]; decide) (by rw [s50_2]; decide) (by rw [s50_2]; rfl) rfl ?_
    exact lw_k2 l D q d L f hk1 hk2 hl hd hS hM hR hou fou hno hK hv0 hv1 hv2 hv3 hv4 hv5 hv6 hv7 hv8
  by_cases s50_3 : (xs (nI i).toNatClampNeg &&& kI 31) = kI 3
  · refine tf_tabIn 317 d_Law_law_50 (by rw [s50_3]; decide) (by rw [s50_3]; decide) (by rw [s50_3]; rfl) rfl ?_
    exact lw_k3 l D q d L f hk1 hk2 hl hd hS hM hR hou fou hno hK hv0 hv1 hv2 hv3 hv4 hv5 hv6 hv7 hv8
  by_cases s50_4 : (xs (nI i).toNatClampNeg &&& kI 31) = kI 4
  · refine tf_tabIn 401 d_Law_law_50 (by rw [s50_4]; decide) (by rw [s50_4]; decide) (by rw [s50_4]; rfl) rfl ?_
    exact lw_k4 l D q d L f hk1 hk2 hl hd hS hM hR hou fou hno hK hv0 hv1 hv2 hv3 hv4 hv5 hv6 hv7 hv8
  by_cases s50_5 : (xs (nI i).toNatClampNeg &&& kI 31) = kI 5
  · refine tf_tabIn 485 d_Law_law_50 (by rw [s50_5]; decide) (by rw [s50_5]; decide) (by rw [s50_5]; rfl) rfl ?_
    exact lw_k5 l D q d L f hk1 hk2 hl hd hS hM hR hou fou hno hK hv0 hv1 hv2 hv3 hv4 hv5 hv6 hv7 hv8
  by_cases s50_6 : (xs (nI i).toNatClampNeg &&& kI 31) = kI 6
  · refine tf_tabIn 534 d_Law_law_50 (by rw [s50_6]; decide) (by rw [s50_6]; decide) (by rw [s50_6]; rfl) rfl ?_
    exact lw_k6 l D q d L f hk1 hk2 hl hd hS hM hR hou fou hno hK hv0 hv1 hv2 hv3 hv4 hv5 hv6 hv7 hv8
  by_cases s50_7 : (xs (nI i).toNatClampNeg &&& kI 31) = kI 7
  · refine tf_tabIn 571 d_Law_law_50 (by rw [s50_7]; decide) (by rw [s50_7]; decide) (by rw [s50_7]; rfl) rfl ?_
    exact lw_k7 l D q d L f hk1 hk2 hl hd hS hM hR hou fou hno hK hv0 hv1 hv2 hv3 hv4 hv5 hv6 hv7 hv8
  by_cases s50_8 : (xs (nI i).toNatClampNeg &&& kI 31) = kI 8
  · refine tf_tabIn 651 d_Law_law_50 (by rw [s50_8]; decide) (by rw [s50_8]; decide) (by rw [s50_8]; rfl) rfl ?_
    exact lw_k8 l D q d L f hk1 hk2 hl hd hS hM hR hou fou hno hK hv0 hv1 hv2 hv3 hv4 hv5 hv6 hv7 hv8
  by_cases s50_9 : (xs (nI i).toNatClampNeg &&& kI 31) = kI 9
  · refine tf_tabIn 676 d_Law_law_50 (by rw [s50_9]; decide) (by rw [s50_9]; decide) (by rw [s50_9]; rfl) rfl ?_
    exact lw_k9 l D q d L f hk1 hk2 hl hd hS hM hR hou fou hno hK hv0 hv1 hv2 hv3 hv4 hv5 hv6 hv7 hv8
  by_cases s50_10 : (xs (nI i).toNatClampNeg &&& kI 31) = kI 10
  · refine tf_tabIn 772 d_Law_law_50 (by rw [s50_10]; decide) (by rw [s50_10]; decide) (by rw [s50_10]; rfl) rfl ?_
    exact lw_k10 l D q d L f hk1 hk2 hl hd hS hM hR hou fou hno hK hv0 hv1 hv2 hv3 hv4 hv5 hv6 hv7 hv8
  by_cases s50_11 : (xs (nI i).toNatClampNeg &&& kI 31) = kI 11
  · refine tf_tabIn 809 d_Law_law_50 (by rw [s50_11]; decide) (by rw [s50_11]; decide) (by rw [s50_11]; rfl) rfl ?_
    exact lw_k11 l D q d L f hk1 hk2 hl hd hS hM hR hou fou hno hK hv0 hv1 hv2 hv3 hv4 hv5 hv6 hv7 hv8
  by_cases s50_12 : (xs (nI i).toNatClampNeg &&& kI 31) = kI 12
  · refine tf_tabIn 858 d_Law_law_50 (by rw [s50_12]; decide) (by rw [s50_12]; decide) (by rw [s50_12]; rfl) rfl ?_
    exact lw_k12 l D q d L f hk1 hk2 hl hd hS hM hR hou fou hno hK hv0 hv1 hv2 hv3 hv4 hv5 hv6 hv7 hv8
  by_cases s50_13 : (xs (nI i).toNatClampNeg &&& kI 31) = kI 13
  · refine tf_tabIn 907 d_Law_law_50 (by rw [s50_13]; decide) (by rw [s50_13]; decide) (by rw [s50_13]; rfl) rfl ?_
    exact lw_k13 l D q d L f hk1 hk2 hl hd hS hM hR hou fou hno hK hv0 hv1 hv2 hv3 hv4 hv5 hv6 hv7 hv8
  by_cases s50_14 : (xs (nI i).toNatClampNeg &&& kI 31) = kI 14
  · refine tf_tabIn 956 d_Law_law_50 (by rw [s50_14]; decide) (by rw [s50_14]; decide) (by rw [s50_14]; rfl) rfl ?_
    exact lw_k14 l D q d L f hk1 hk2 hl hd hS hM hR hou fou hno hK hv0 hv1 hv2 hv3 hv4 hv5 hv6 hv7 hv8
  by_cases s50_15 : (xs (nI i).toNatClampNeg &&& kI 31) = kI 15
  · refine tf_tabIn 1162 d_Law_law_50 (by rw [s50_15]; decide) (by rw [s50_15]; decide) (by rw [s50_15]; rfl) rfl ?_
    exact lw_k15 l D q d L f hk1 hk2 hl hd hS hM hR hou fou hno hK hv0 hv1 hv2 hv3 hv4 hv5 hv6 hv7 hv8
  by_cases s50_16 : (xs (nI i).toNatClampNeg &&& kI 31) = kI 16
  · refine tf_tabIn 1187 d_Law_law_50 (by rw [s50_16]; decide) (by rw [s50_16]; decide) (by rw [s50_16]; rfl) rfl ?_
    exact lw_k16 l D q d L f hk1 hk2 hl hd hS hM hR hou fou hno hK hv0 hv1 hv2 hv3 hv4 hv5 hv6 hv7 hv8
  by_cases s50_17 : (xs (nI i).toNatClampNeg &&& kI 31) = kI 17
  · refine tf_tabIn 1200 d_Law_law_50 (by rw [s50_17]; decide) (by rw [s50_17]; decide) (by rw [s50_17]; rfl) rfl ?_
    exact lw_k17 l D q d L f hk1 hk2 hl hd hS hM hR hou fou hno hK hv0 hv1 hv2 hv3 hv4 hv5 hv6 hv7 hv8
  by_cases s50_18 : (xs (nI i).toNatClampNeg &&& kI 31) = kI 18
  · refine tf_tabIn 1268 d_Law_law_50 (by rw [s50_18]; decide) (by rw [s50_18]; decide) (by rw [s50_18]; rfl) rfl ?_
    exact lw_k18 l D q d L f hk1 hk2 hl hd hS hM hR hou fou hno hK hv0 hv1 hv2 hv3 hv4 hv5 hv6 hv7 hv8
  refine tf_tabOut 1293 d_Law_law_50 (tw_out19 (xs (nI i).toNatClampNeg &&& kI 31) s50_0 s50_1 s50_2 s50_3 s50_4 s50_5 s50_6 s50_7 s50_8 s50_9 s50_10 s50_11 s50_12 s50_13 s50_14 s50_15 s50_16 s50_17 s50_18) rfl ?_
  refine tf_less (kc2 := kc) (ks2 := ks) (by omega) (by omega) ?_
  exact hK ad S J A R L f g rfl hS hM hR hou fou
set_option maxHeartbeats 4000000 in
set_option maxRecDepth 100000 in
theorem lw_loop {b N : Nat} {xs : Nat → Int32} (hl : l.stackTraces = false) (hd : 14 ≤ d) (hN : N ≤ 5000) {m ou : Nat} {adm : Nat → Nat} (hno : ¬ tm_own adm m ou) : ∀ (n : Nat) (ad : Nat → Nat) (S : tc_S) (J : Nat → Int32) (A : Nat → Nat → Int32) (R : Nat → Int64) (L : List Nat) (f : tf_F) (g : Nat → Int64) (i K KS : Nat), N ≤ i + 8 + 9 * n → i ≤ 5000 → 20 * n ≤ K → 1000 * n ≤ KS → tc_at q ad S (lw_B adm m ou) L f → tm_ok q adm m J A R L f → RR S J A R → ou ∈ L → f ou = tj q 1 g → tf_W l (tf_H D q) (tl_EX b N xs) lw_QB d i_Law_law 33 [(0, .ref b), (1, .ref (ad 0)), (2, .ref m), (3, .ref ou), (4, .int (nI i))] [] L f K KS := by
  intro n
  induction n with
  | zero =>
    intro ad S J A R L f g i K KS hn hi hK1 hK2 hS hM hR hou fou
    have h9 : N < i + 9 := by omega
    refine tf_blk _ b_Law_law_33 rfl ?_
    refine tl_slen (fun _ _ h => h.2.1) 37 d_Law_law_36 rfl ?_
    refine tf_blk _ b_Law_law_37 rfl ?_
    refine tf_ic_gt 1299 43 d_Law_law_40 rfl rfl (fun h40 => ?_) (fun h40 => absurd ((lw_cmp hN (by omega)).mpr h9) h40)
    refine tf_blk _ b_Law_law_1299 rfl ?_
    exact lw_fin
  | succ n ih =>
    intro ad S J A R L f g i K KS hn hi hK1 hK2 hS hM hR hou fou
    by_cases h9 : N < i + 9
    · refine tf_blk _ b_Law_law_33 rfl ?_
      refine tl_slen (fun _ _ h => h.2.1) 37 d_Law_law_36 rfl ?_
      refine tf_blk _ b_Law_law_37 rfl ?_
      refine tf_ic_gt 1299 43 d_Law_law_40 rfl rfl (fun h40 => ?_) (fun h40 => absurd ((lw_cmp hN (by omega)).mpr h9) h40)
      refine tf_blk _ b_Law_law_1299 rfl ?_
      exact lw_fin
    refine tf_blk _ b_Law_law_33 rfl ?_
    refine tl_slen (fun _ _ h => h.2.1) 37 d_Law_law_36 rfl ?_
    refine tf_blk _ b_Law_law_37 rfl ?_
    refine tf_ic_gt 1299 43 d_Law_law_40 rfl rfl (fun h40 => absurd h40 (fun z => h9 ((lw_cmp hN (by omega)).mp z))) (fun h40 => ?_)
    refine lw_step l D q d L f (kc := K - 20) (ks := KS - 1000) (by omega) (by omega) (i := i) hl hd hS hM hR hou fou hno (fun ad2 S2 J2 A2 R2 L2 f2 g2 q1 q2 q3 q4 q5 q6 => ?_) (lw_v0 (by omega) hN) (lw_vin 1 (by decide) (by omega) hN) (lw_vin 2 (by decide) (by omega) hN) (lw_vin 3 (by decide) (by omega) hN) (lw_vin 4 (by decide) (by omega) hN) (lw_vin 5 (by decide) (by omega) hN) (lw_vin 6 (by decide) (by omega) hN) (lw_vin 7 (by decide) (by omega) hN) (lw_vin 8 (by decide) (by omega) hN)
    refine tf_blk _ b_Law_law_1293 rfl ?_
    refine tf_goto 33 d_Law_law_1296 rfl ?_
    rw [show nI i + kI 9 = nI (i + 9) from by rw [show kI 9 = nI 9 from rfl, nI_add]]
    rw [← q1]
    exact ih ad2 S2 J2 A2 R2 L2 f2 g2 (i + 9) (K - 20) (KS - 1000) (by omega) (by omega) (by omega) (by omega) q2 q3 q4 q5 q6
end
