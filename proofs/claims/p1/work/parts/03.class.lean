/-! what the tables say of the classes -/
/-- the words that ride into every method -/
def xT : List Jvm.Cond := lw_tbl.filter goodWord
def xw (i : Nat) (w : Jvm.Cond) : Bool := decide (lw_tbl[i]? = some w) && goodWord w
theorem xw_mem {i : Nat} {w : Jvm.Cond} (h : xw i w = true) : w ∈ xT := by
  unfold xw at h
  rw [Bool.and_eq_true] at h
  exact List.mem_filter.mpr ⟨List.mem_of_getElem? (of_decide_eq_true h.1), h.2⟩
theorem x_good : ∀ w ∈ xT, (w.onTables && w.keeps) = true ∨ ∃ ty, w = .arrayClass ty := fun w h => good_of_word (List.mem_filter.mp h).2
/-- a value that means itself -/
def xpl : Value → Bool
  | .int _ => true
  | .long _ => true
  | .null => true
  | _ => false
theorem xpl_G {v : Value} (h : xpl v = true) (B : Nat) (ev : Nat → Int32) (sa : Nat → Nat) : xG B ev sa v = v := by
  cases v <;> first | rfl | cases h
def xCOk (q : vw_C) (ty : Nat → FieldType) (fs : List Value) (pl : List Nat) (k : Nat) : Bool := xw (pl.getD k 0) (u_lay q.1 q.2.1 k) && (decide (parseFieldDescriptor (q.2.1 k).2.2.1 = some (ty k)) && (decide (defaultValue (ty k) = vp_V fs k) && (List.range q.2.2).all fun j => decide (k = j ∨ (q.2.1 k).2.1 ≠ (q.2.1 j).2.1)))
def xCO (q : vw_C) (ty : Nat → FieldType) (fs : List Value) (pl : List Nat) (wi : Nat × Nat) : Bool := (List.range q.2.2).all (xCOk q ty fs pl) && (decide (fs.length = q.2.2) && (fs.all xpl && (xw wi.1 (.instantiable q.1 q.2.2) && xw wi.2 (.initialized q.1))))
def xCP (q : vw_C) (ty : Nat → FieldType) (fs : List Value) : Prop := (∀ w ∈ u_ws q.1 q.2.1 q.2.2, w ∈ xT) ∧ (∀ k, k < q.2.2 → parseFieldDescriptor (q.2.1 k).2.2.1 = some (ty k)) ∧ (∀ k, k < q.2.2 → defaultValue (ty k) = vp_V fs k) ∧ (∀ a, a < q.2.2 → ∀ b, b < q.2.2 → a ≠ b → (q.2.1 a).2.1 ≠ (q.2.1 b).2.1) ∧ fs.length = q.2.2 ∧ (∀ v ∈ fs, xpl v = true) ∧ Cond.instantiable q.1 q.2.2 ∈ xT ∧ Cond.initialized q.1 ∈ xT
theorem xCO_ok {q : vw_C} {ty : Nat → FieldType} {fs : List Value} {pl : List Nat} {wi : Nat × Nat} (h : xCO q ty fs pl wi = true) : xCP q ty fs := by
  unfold xCO at h
  simp only [Bool.and_eq_true, List.all_eq_true, decide_eq_true_eq] at h
  obtain ⟨h1, h2, h3, h4, h5⟩ := h
  have key : ∀ k, k < q.2.2 → xCOk q ty fs pl k = true := fun k hk => h1 k (List.mem_range.mpr hk)
  have key2 : ∀ k, k < q.2.2 → xw (pl.getD k 0) (u_lay q.1 q.2.1 k) = true ∧ parseFieldDescriptor (q.2.1 k).2.2.1 = some (ty k) ∧ defaultValue (ty k) = vp_V fs k ∧ ∀ j, j < q.2.2 → (k = j ∨ (q.2.1 k).2.1 ≠ (q.2.1 j).2.1) := by
    intro k hk
    have q1 := key k hk
    unfold xCOk at q1
    simp only [Bool.and_eq_true, List.all_eq_true, decide_eq_true_eq] at q1
    exact ⟨q1.1, q1.2.1, q1.2.2.1, fun j hj => q1.2.2.2 j (List.mem_range.mpr hj)⟩
  refine ⟨fun w hw => ?_, fun k hk => (key2 k hk).2.1, fun k hk => (key2 k hk).2.2.1, fun a ha b hb hab => ((key2 a ha).2.2.2 b hb).resolve_left hab, h2, h3, xw_mem h4, xw_mem h5⟩
  obtain ⟨k, hk, rfl⟩ := List.mem_map.mp hw
  exact xw_mem (key2 k (List.mem_range.mp hk)).1

set_option maxRecDepth 100000 in
theorem xc_0 : xCO (xcl.getD 0 ("", xF_0, 0)) xt_0 (xdf.getD 0 []) (xlp.getD 0 []) (xinst.getD 0 (0, 0)) = true := by decide +kernel
set_option maxRecDepth 100000 in
theorem xc_1 : xCO (xcl.getD 1 ("", xF_0, 0)) xt_1 (xdf.getD 1 []) (xlp.getD 1 []) (xinst.getD 1 (0, 0)) = true := by decide +kernel
set_option maxRecDepth 100000 in
theorem xc_2 : xCO (xcl.getD 2 ("", xF_0, 0)) xt_2 (xdf.getD 2 []) (xlp.getD 2 []) (xinst.getD 2 (0, 0)) = true := by decide +kernel
set_option maxRecDepth 100000 in
theorem xc_3 : xCO (xcl.getD 3 ("", xF_0, 0)) xt_3 (xdf.getD 3 []) (xlp.getD 3 []) (xinst.getD 3 (0, 0)) = true := by decide +kernel
set_option maxRecDepth 100000 in
theorem xc_4 : xCO (xcl.getD 4 ("", xF_0, 0)) xt_4 (xdf.getD 4 []) (xlp.getD 4 []) (xinst.getD 4 (0, 0)) = true := by decide +kernel
set_option maxRecDepth 100000 in
theorem xc_5 : xCO (xcl.getD 5 ("", xF_0, 0)) xt_5 (xdf.getD 5 []) (xlp.getD 5 []) (xinst.getD 5 (0, 0)) = true := by decide +kernel
set_option maxRecDepth 100000 in
theorem xc_6 : xCO (xcl.getD 6 ("", xF_0, 0)) xt_6 (xdf.getD 6 []) (xlp.getD 6 []) (xinst.getD 6 (0, 0)) = true := by decide +kernel
set_option maxRecDepth 100000 in
theorem xc_7 : xCO (xcl.getD 7 ("", xF_0, 0)) xt_7 (xdf.getD 7 []) (xlp.getD 7 []) (xinst.getD 7 (0, 0)) = true := by decide +kernel
set_option maxRecDepth 100000 in
theorem xc_8 : xCO (xcl.getD 8 ("", xF_0, 0)) xt_8 (xdf.getD 8 []) (xlp.getD 8 []) (xinst.getD 8 (0, 0)) = true := by decide +kernel
set_option maxRecDepth 100000 in
theorem xc_9 : xCO (xcl.getD 9 ("", xF_0, 0)) xt_9 (xdf.getD 9 []) (xlp.getD 9 []) (xinst.getD 9 (0, 0)) = true := by decide +kernel
set_option maxRecDepth 100000 in
theorem xc_10 : xCO (xcl.getD 10 ("", xF_0, 0)) xt_10 (xdf.getD 10 []) (xlp.getD 10 []) (xinst.getD 10 (0, 0)) = true := by decide +kernel
set_option maxRecDepth 100000 in
theorem xc_11 : xCO (xcl.getD 11 ("", xF_0, 0)) xt_11 (xdf.getD 11 []) (xlp.getD 11 []) (xinst.getD 11 (0, 0)) = true := by decide +kernel
theorem x_cls : ∀ (ci : Nat) (q : vw_C), xcl[ci]? = some q → ∃ (ty : Nat → FieldType) (fs : List Value), xtt[ci]? = some ty ∧ xdf[ci]? = some fs ∧ xCP q ty fs := by
  intro ci q h
  match ci, h with
  | 0, h => cases h; exact ⟨_, _, rfl, rfl, xCO_ok xc_0⟩
  | 1, h => cases h; exact ⟨_, _, rfl, rfl, xCO_ok xc_1⟩
  | 2, h => cases h; exact ⟨_, _, rfl, rfl, xCO_ok xc_2⟩
  | 3, h => cases h; exact ⟨_, _, rfl, rfl, xCO_ok xc_3⟩
  | 4, h => cases h; exact ⟨_, _, rfl, rfl, xCO_ok xc_4⟩
  | 5, h => cases h; exact ⟨_, _, rfl, rfl, xCO_ok xc_5⟩
  | 6, h => cases h; exact ⟨_, _, rfl, rfl, xCO_ok xc_6⟩
  | 7, h => cases h; exact ⟨_, _, rfl, rfl, xCO_ok xc_7⟩
  | 8, h => cases h; exact ⟨_, _, rfl, rfl, xCO_ok xc_8⟩
  | 9, h => cases h; exact ⟨_, _, rfl, rfl, xCO_ok xc_9⟩
  | 10, h => cases h; exact ⟨_, _, rfl, rfl, xCO_ok xc_10⟩
  | 11, h => cases h; exact ⟨_, _, rfl, rfl, xCO_ok xc_11⟩
  | ci + 12, h => cases h
