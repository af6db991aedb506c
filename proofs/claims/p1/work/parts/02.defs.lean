/-! the first words of the layer: what the names need -/
def tf_dec (cc : ByteArray) : Nat → List (Instr × Nat) → Bool
  | _, [] => true
  | pc, q :: r => (match decode cc pc with | .ok z => decide (z = q) | .error _ => false) && tf_dec cc (pc + q.2) r
/-- the words beside the good ones: links across the nest, arrays over a class -/
def tf_nk : Cond → Bool
  | .fieldLinkNest _ _ _ _ _ _ => true
  | .methodLinkNest _ _ _ _ => true
  | .arrayOver (.object _) => true
  | _ => false
def tf_Ts : List Cond := lw_tbl.filter goodWord
def tf_NW : List Cond := tables_1.filter tf_nk
theorem tf_mem (i : Nat) {w : Cond} (h : tables_1[i]? = some w) (hg : goodWord w = true) : w ∈ tf_Ts := List.mem_filter.mpr ⟨List.mem_append_right _ (List.mem_of_getElem? h), hg⟩
theorem tf_memN (i : Nat) {w : Cond} (h : tables_1[i]? = some w) (hg : tf_nk w = true) : w ∈ tf_NW := List.mem_filter.mpr ⟨List.mem_of_getElem? h, hg⟩
theorem tf_memP (i : Nat) {w : Cond} (h : (k2_sels lw_privs)[i]? = some w) (hg : goodWord w = true) : w ∈ tf_Ts := List.mem_filter.mpr ⟨List.mem_append_left _ (List.mem_of_getElem? h), hg⟩
theorem tf_memL (is : List Nat) {ws : List Cond} (h : is.filterMap (fun i => tables_1[i]?) = ws) (hg : ws.all goodWord = true) : ∀ w ∈ ws, w ∈ tf_Ts := by
  intro w hw
  have h1 := List.all_eq_true.mp hg w hw
  rw [← h] at hw
  obtain ⟨i, -, hi⟩ := List.mem_filterMap.mp hw
  exact tf_mem i hi h1
