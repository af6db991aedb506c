/-! the start: what the tables and the Statement give of it -/
section
variable {s : State} {a0 : Array Value}
theorem st_arr {ty : FieldType} (h : (Cond.arrayClass ty).before a0 s = true) (ho : ∀ C, ty ≠ .object C) : ∃ cA, ArrOfT s cA ty ∧ va_RA s cA ty := by
  obtain ⟨c, k, comp, h1, h2, h3⟩ := Cond.arrayClass_spec h
  refine ⟨c, fun n z => ⟨fun k9 h9 => (by cases h9), k, h2, comp, h3⟩, ?_⟩
  cases ty with
  | object C => exact absurd rfl (ho C)
  | _ => exact h1
theorem st_arrO {C : String} (h : (Cond.arrayOver (.object C)).before a0 s = true) : ∃ cA, ArrOfT s cA (.object C) ∧ va_RA s cA (.object C) := by
  obtain ⟨comp, c, k, h1, -, h2, h3, h4⟩ := Cond.arrayOver_spec h
  exact ⟨c, fun n z => ⟨fun k9 h9 => (by cases h9), k, h2, comp, h3⟩, k, comp, h2, h3, h1, h4⟩
theorem st_nw (hts : ∀ w ∈ lw_tbl, w.before a0 s = true) : ∀ w ∈ tf_NW, va_Nw w s := by
  intro w hw
  obtain ⟨h1, hk⟩ := List.mem_filter.mp hw
  have h := hts w (List.mem_append_right _ h1)
  unfold tf_nk at hk
  split at hk
  · exact va_Nw.of rfl h
  · exact va_Nw.of rfl h
  · exact va_AO.of h
  · cases hk
theorem st_tx (hts : ∀ w ∈ lw_tbl, w.before a0 s = true) : ∀ w ∈ tx_W, va_Nw w s := by
  intro w hw
  obtain ⟨h1, hk⟩ := List.mem_filter.mp hw
  exact va_Nw.of (tx_kt hk) (hts w (List.mem_append_right _ h1))
set_option maxHeartbeats 4000000 in
theorem st_K (hts : ∀ w ∈ lw_tbl, w.before a0 s = true) : ∃ (D : va_G) (q : Nat → ClassId), va_K D tf_cl (tf_y q) s := by
  have h9 : ∀ w ∈ tf_Ts, w.before a0 s = true := fun w hw => hts w (List.mem_filter.mp hw).1
  have hN := st_nw hts
  obtain ⟨c0, i0, k0⟩ := u_known (T := T_0) (N := 9) h9 uw_0 (h9 _ w_32)
  obtain ⟨c1, i1, k1⟩ := u_known (T := T_1) (N := 3) h9 uw_1 (h9 _ w_40)
  obtain ⟨c2, i2, k2⟩ := u_known (T := T_2) (N := 3) h9 uw_2 (h9 _ w_127)
  obtain ⟨c3, i3, k3⟩ := u_known (T := T_3) (N := 15) h9 uw_3 (h9 _ w_447)
  obtain ⟨c4, i4, k4⟩ := u_known (T := T_4) (N := 2) h9 uw_4 (h9 _ w_113)
  obtain ⟨c5, i5, k5⟩ := u_known (T := T_5) (N := 7) h9 uw_5 (h9 _ w_143)
  obtain ⟨c6, i6, k6⟩ := u_known (T := T_6) (N := 7) h9 uw_6 (h9 _ w_59)
  obtain ⟨c7, i7, k7⟩ := u_known (T := T_7) (N := 4) h9 uw_7 (h9 _ w_593)
  obtain ⟨c8, i8, k8⟩ := u_known (T := T_8) (N := 3) h9 uw_8 (h9 _ w_94)
  obtain ⟨c9, i9, k9⟩ := u_known (T := T_9) (N := 8) h9 uw_9 (h9 _ w_1051)
  obtain ⟨c10, i10, k10⟩ := u_known (T := T_10) (N := 7) h9 uw_10 (h9 _ w_172)
  obtain ⟨c11, i11, k11⟩ := u_known (T := T_11) (N := 55) h9 uw_11 (h9 _ w_1122)
  obtain ⟨q0, r0⟩ := st_arr (h9 _ wa_int) (fun C e => by cases e)
  obtain ⟨q1, r1⟩ := st_arr (h9 _ wa_boolean) (fun C e => by cases e)
  obtain ⟨q2, r2⟩ := st_arr (h9 _ wa_long) (fun C e => by cases e)
  obtain ⟨q3, r3⟩ := st_arr (h9 _ wa_byte) (fun C e => by cases e)
  obtain ⟨q4, r4⟩ := st_arr (h9 _ wa_short) (fun C e => by cases e)
  obtain ⟨q5, r5⟩ := st_arrO (hN _ wo_Glyph)
  obtain ⟨q6, r6⟩ := st_arrO (hN _ wo_Part)
  obtain ⟨q7, r7⟩ := st_arrO (hN _ wo_Rule)
  refine ⟨(fun k => [c0, c1, c2, c3, c4, c5, c6, c7, c8, c9, c10, c11].getD k c0, fun k => [i0, i1, i2, i3, i4, i5, i6, i7, i8, i9, i10, i11].getD k i0), fun k => [q0, q1, q2, q3, q4, q5, q6, q7].getD k q0, fun c x hc => ?_, fun k x hk => ?_⟩
  · have hlt : c < 12 := (List.getElem?_eq_some_iff.mp hc).1
    have h12 : c = 0 ∨ c = 1 ∨ c = 2 ∨ c = 3 ∨ c = 4 ∨ c = 5 ∨ c = 6 ∨ c = 7 ∨ c = 8 ∨ c = 9 ∨ c = 10 ∨ c = 11 := by omega
    rcases h12 with rfl | rfl | rfl | rfl | rfl | rfl | rfl | rfl | rfl | rfl | rfl | rfl
    · cases hc; exact k0
    · cases hc; exact k1
    · cases hc; exact k2
    · cases hc; exact k3
    · cases hc; exact k4
    · cases hc; exact k5
    · cases hc; exact k6
    · cases hc; exact k7
    · cases hc; exact k8
    · cases hc; exact k9
    · cases hc; exact k10
    · cases hc; exact k11
  · have hlt : k < 8 := (List.getElem?_eq_some_iff.mp hk).1
    have h8 : k = 0 ∨ k = 1 ∨ k = 2 ∨ k = 3 ∨ k = 4 ∨ k = 5 ∨ k = 6 ∨ k = 7 := by omega
    rcases h8 with rfl | rfl | rfl | rfl | rfl | rfl | rfl | rfl
    · cases hk; exact r0
    · cases hk; exact r1
    · cases hk; exact r2
    · cases hk; exact r3
    · cases hk; exact r4
    · cases hk; exact r5
    · cases hk; exact r6
    · cases hk; exact r7
end
section
variable {s : State} {a0 : Array Value}
theorem st_str {k : Nat} {tx : String} {cur : ClassId} (hTf : s.vm.findClass "TypeFoundry" = some cur) (h : (Cond.stringRef "TypeFoundry" k tx).before a0 s = true) : ∃ a, vk_R "TypeFoundry" k tx a s := by
  obtain ⟨k9, cf, i, a, -, -, -, -, -, hev⟩ := Cond.stringRef_spec hTf h
  exact ⟨a, vk_R.of h hev⟩
set_option maxHeartbeats 4000000 in
theorem st_EL (hts : ∀ w ∈ lw_tbl, w.before a0 s = true) (hg : (Jvm.Cond.and given_1 narrow_1).before a0 s = true) {cur : ClassId} (hTf : s.vm.findClass "TypeFoundry" = some cur) : tx_EL s (fun z => s.heap.size ≤ z) := by
  have hA : ∀ a : Nat, a < s.heap.size → ¬ s.heap.size ≤ a := fun a h => by omega
  have hs := flat_of_before _ hg
  refine ⟨⟨tx_S.of (hts _ (List.mem_append_right _ (List.mem_of_getElem? (i := 405) (by decide +kernel)))) (hs _ (by decide +kernel)) hA, tx_S.of (hts _ (List.mem_append_right _ (List.mem_of_getElem? (i := 407) (by decide +kernel)))) (hs _ (by decide +kernel)) hA, st_tx hts, fun p hp => ?_⟩, fun p hp => ?_⟩
  · unfold tx_strs at hp
    simp only [List.mem_cons, List.not_mem_nil, or_false] at hp
    rcases hp with rfl | rfl | rfl | rfl | rfl | rfl | rfl | rfl | rfl | rfl | rfl | rfl
    · exact st_str hTf (hts _ (List.mem_append_right _ (List.mem_of_getElem? (i := 420) (by decide +kernel))))
    · exact st_str hTf (hts _ (List.mem_append_right _ (List.mem_of_getElem? (i := 530) (by decide +kernel))))
    · exact st_str hTf (hts _ (List.mem_append_right _ (List.mem_of_getElem? (i := 537) (by decide +kernel))))
    · exact st_str hTf (hts _ (List.mem_append_right _ (List.mem_of_getElem? (i := 563) (by decide +kernel))))
    · exact st_str hTf (hts _ (List.mem_append_right _ (List.mem_of_getElem? (i := 570) (by decide +kernel))))
    · exact st_str hTf (hts _ (List.mem_append_right _ (List.mem_of_getElem? (i := 582) (by decide +kernel))))
    · exact st_str hTf (hts _ (List.mem_append_right _ (List.mem_of_getElem? (i := 591) (by decide +kernel))))
    · exact st_str hTf (hts _ (List.mem_append_right _ (List.mem_of_getElem? (i := 633) (by decide +kernel))))
    · exact st_str hTf (hts _ (List.mem_append_right _ (List.mem_of_getElem? (i := 698) (by decide +kernel))))
    · exact st_str hTf (hts _ (List.mem_append_right _ (List.mem_of_getElem? (i := 1095) (by decide +kernel))))
    · exact st_str hTf (hts _ (List.mem_append_right _ (List.mem_of_getElem? (i := 1096) (by decide +kernel))))
    · exact st_str hTf (hts _ (List.mem_append_right _ (List.mem_of_getElem? (i := 1120) (by decide +kernel))))
  · unfold tx_nc at hp
    simp only [List.mem_cons, List.not_mem_nil, or_false] at hp
    rcases hp with rfl | rfl
    · exact va_Nc.of (hs _ (by decide +kernel))
    · exact va_Nc.of (hs _ (by decide +kernel))
end
