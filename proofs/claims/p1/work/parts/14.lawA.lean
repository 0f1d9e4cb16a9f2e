/-! what the runs say -/
def xkc (i : Nat) : Bool := ((xT_law.drop (40 * i)).take 40).all (xOKb "RollCutterLaw" false code)
set_option maxRecDepth 100000 in
theorem xkc_0 : xkc 0 = true := by decide +kernel
set_option maxRecDepth 100000 in
theorem xkc_1 : xkc 1 = true := by decide +kernel
set_option maxRecDepth 100000 in
theorem xkc_2 : xkc 2 = true := by decide +kernel
set_option maxRecDepth 100000 in
theorem xkc_3 : xkc 3 = true := by decide +kernel
set_option maxRecDepth 100000 in
theorem xkc_4 : xkc 4 = true := by decide +kernel
set_option maxRecDepth 100000 in
theorem xkc_5 : xkc 5 = true := by decide +kernel
set_option maxRecDepth 100000 in
theorem xkc_6 : xkc 6 = true := by decide +kernel
set_option maxRecDepth 100000 in
theorem xkc_7 : xkc 7 = true := by decide +kernel
set_option maxRecDepth 100000 in
theorem xkc_8 : xkc 8 = true := by decide +kernel
set_option maxRecDepth 100000 in
theorem xkc_9 : xkc 9 = true := by decide +kernel
set_option maxRecDepth 100000 in
theorem xkc_10 : xkc 10 = true := by decide +kernel
set_option maxRecDepth 100000 in
theorem xkc_11 : xkc 11 = true := by decide +kernel
set_option maxRecDepth 100000 in
theorem xkc_12 : xkc 12 = true := by decide +kernel
set_option maxRecDepth 100000 in
theorem xkc_13 : xkc 13 = true := by decide +kernel
set_option maxRecDepth 100000 in
theorem xkc_14 : xkc 14 = true := by decide +kernel
set_option maxRecDepth 100000 in
theorem xkc_15 : xkc 15 = true := by decide +kernel
set_option maxRecDepth 100000 in
theorem xT_len : xT_law.length = 636 := by decide +kernel
theorem xkc_all : ∀ i : Nat, i < 16 → xkc i = true := by
  intro i hi
  match i, hi with
  | 0, _ => exact xkc_0
  | 1, _ => exact xkc_1
  | 2, _ => exact xkc_2
  | 3, _ => exact xkc_3
  | 4, _ => exact xkc_4
  | 5, _ => exact xkc_5
  | 6, _ => exact xkc_6
  | 7, _ => exact xkc_7
  | 8, _ => exact xkc_8
  | 9, _ => exact xkc_9
  | 10, _ => exact xkc_10
  | 11, _ => exact xkc_11
  | 12, _ => exact xkc_12
  | 13, _ => exact xkc_13
  | 14, _ => exact xkc_14
  | 15, _ => exact xkc_15
  | i + 16, h => exact absurd h (by omega)
theorem xk_lawE : ∀ en ∈ xT_law, xOK "RollCutterLaw" false code en := by
  intro en hen
  obtain ⟨i, hi⟩ := List.getElem?_of_mem hen
  have hl : i < 636 := by have := (List.getElem?_eq_some_iff.mp hi).1; rw [xT_len] at this; exact this
  have hc := xkc_all (i / 40) (by omega)
  unfold xkc at hc
  have hm : en ∈ (xT_law.drop (40 * (i / 40))).take 40 := by
    apply List.mem_of_getElem? (i := i % 40)
    rw [List.getElem?_take, if_pos (Nat.mod_lt _ (by decide)), List.getElem?_drop, Nat.div_add_mod]
    exact hi
  have h1 := List.all_eq_true.mp hc en hm
  unfold xOKb at h1
  simp only [Bool.and_eq_true, decide_eq_true_eq] at h1
  exact h1
theorem xCon_ok : ∀ {l : List (Int × Int)} {n : Int}, xCon n l = true → ∀ a : Int, n ≤ a → a < 2147483648 → ∃ q ∈ l, q.1 ≤ a ∧ a ≤ q.2
  | [], n, h, a, h1, h2 => by
    have h : decide (n = 2147483648) = true := h
    have := of_decide_eq_true h
    omega
  | q :: r, n, h, a, h1, h2 => by
    have h : (decide (q.1 = n) && (decide (q.1 ≤ q.2) && xCon (q.2 + 1) r)) = true := h
    simp only [Bool.and_eq_true, decide_eq_true_eq] at h
    obtain ⟨g1, g2, g3⟩ := h
    by_cases hq : a ≤ q.2
    · exact ⟨q, List.mem_cons_self, by omega, hq⟩
    · obtain ⟨z, hz, e1, e2⟩ := xCon_ok g3 a (by omega) h2
      exact ⟨z, List.mem_cons_of_mem _ hz, e1, e2⟩
theorem xOk_ok {c : Int} {l : List ((Int × Int) × List (Int × Int))} (h : xOk c l = true) (a b : Int) (ha : -2147483648 ≤ a ∧ a < 2147483648) (hb : -2147483648 ≤ b ∧ b < 2147483648) : ∃ ia ib : Int × Int, (ia.1 ≤ a ∧ a ≤ ia.2) ∧ (ib.1 ≤ b ∧ b ≤ ib.2) ∧ xRun c ia ib = true := by
  unfold xOk at h
  rw [Bool.and_eq_true] at h
  obtain ⟨q, hq, e1, e2⟩ := xCon_ok h.1 a ha.1 ha.2
  obtain ⟨z, hz, rfl⟩ := List.mem_map.mp hq
  have h2 := List.all_eq_true.mp h.2 z hz
  rw [Bool.and_eq_true] at h2
  obtain ⟨ib, hib, f1, f2⟩ := xCon_ok h2.1 b hb.1 hb.2
  exact ⟨z.1, ib, ⟨e1, e2⟩, ⟨f1, f2⟩, List.all_eq_true.mp h2.2 ib hib⟩
theorem xr_all : ∀ j : Nat, j < 38 → ∃ l, xOk (j : Int) l = true := by
  intro j hj
  match j, hj with
  | 0, _ => exact ⟨xo_0, by rw [show ((0 : Nat) : Int) = 0 from rfl]; exact xr_0⟩
  | 1, _ => exact ⟨xo_1, by rw [show ((1 : Nat) : Int) = 1 from rfl]; exact xr_1⟩
  | 2, _ => exact ⟨xo_2, by rw [show ((2 : Nat) : Int) = 2 from rfl]; exact xr_2⟩
  | 3, _ => exact ⟨xo_3, by rw [show ((3 : Nat) : Int) = 3 from rfl]; exact xr_3⟩
  | 4, _ => exact ⟨xo_4, by rw [show ((4 : Nat) : Int) = 4 from rfl]; exact xr_4⟩
  | 5, _ => exact ⟨xo_5, by rw [show ((5 : Nat) : Int) = 5 from rfl]; exact xr_5⟩
  | 6, _ => exact ⟨xo_6, by rw [show ((6 : Nat) : Int) = 6 from rfl]; exact xr_6⟩
  | 7, _ => exact ⟨xo_7, by rw [show ((7 : Nat) : Int) = 7 from rfl]; exact xr_7⟩
  | 8, _ => exact ⟨xo_8, by rw [show ((8 : Nat) : Int) = 8 from rfl]; exact xr_8⟩
  | 9, _ => exact ⟨xo_9, by rw [show ((9 : Nat) : Int) = 9 from rfl]; exact xr_9⟩
  | 10, _ => exact ⟨xo_10, by rw [show ((10 : Nat) : Int) = 10 from rfl]; exact xr_10⟩
  | 11, _ => exact ⟨xo_11, by rw [show ((11 : Nat) : Int) = 11 from rfl]; exact xr_11⟩
  | 12, _ => exact ⟨xo_12, by rw [show ((12 : Nat) : Int) = 12 from rfl]; exact xr_12⟩
  | 13, _ => exact ⟨xo_13, by rw [show ((13 : Nat) : Int) = 13 from rfl]; exact xr_13⟩
  | 14, _ => exact ⟨xo_14, by rw [show ((14 : Nat) : Int) = 14 from rfl]; exact xr_14⟩
  | 15, _ => exact ⟨xo_15, by rw [show ((15 : Nat) : Int) = 15 from rfl]; exact xr_15⟩
  | 16, _ => exact ⟨xo_16, by rw [show ((16 : Nat) : Int) = 16 from rfl]; exact xr_16⟩
  | 17, _ => exact ⟨xo_17, by rw [show ((17 : Nat) : Int) = 17 from rfl]; exact xr_17⟩
  | 18, _ => exact ⟨xo_18, by rw [show ((18 : Nat) : Int) = 18 from rfl]; exact xr_18⟩
  | 19, _ => exact ⟨xo_19, by rw [show ((19 : Nat) : Int) = 19 from rfl]; exact xr_19⟩
  | 20, _ => exact ⟨xo_20, by rw [show ((20 : Nat) : Int) = 20 from rfl]; exact xr_20⟩
  | 21, _ => exact ⟨xo_21, by rw [show ((21 : Nat) : Int) = 21 from rfl]; exact xr_21⟩
  | 22, _ => exact ⟨xo_22, by rw [show ((22 : Nat) : Int) = 22 from rfl]; exact xr_22⟩
  | 23, _ => exact ⟨xo_23, by rw [show ((23 : Nat) : Int) = 23 from rfl]; exact xr_23⟩
  | 24, _ => exact ⟨xo_24, by rw [show ((24 : Nat) : Int) = 24 from rfl]; exact xr_24⟩
  | 25, _ => exact ⟨xo_25, by rw [show ((25 : Nat) : Int) = 25 from rfl]; exact xr_25⟩
  | 26, _ => exact ⟨xo_26, by rw [show ((26 : Nat) : Int) = 26 from rfl]; exact xr_26⟩
  | 27, _ => exact ⟨xo_27, by rw [show ((27 : Nat) : Int) = 27 from rfl]; exact xr_27⟩
  | 28, _ => exact ⟨xo_28, by rw [show ((28 : Nat) : Int) = 28 from rfl]; exact xr_28⟩
  | 29, _ => exact ⟨xo_29, by rw [show ((29 : Nat) : Int) = 29 from rfl]; exact xr_29⟩
  | 30, _ => exact ⟨xo_30, by rw [show ((30 : Nat) : Int) = 30 from rfl]; exact xr_30⟩
  | 31, _ => exact ⟨xo_31, by rw [show ((31 : Nat) : Int) = 31 from rfl]; exact xr_31⟩
  | 32, _ => exact ⟨xo_32, by rw [show ((32 : Nat) : Int) = 32 from rfl]; exact xr_32⟩
  | 33, _ => exact ⟨xo_33, by rw [show ((33 : Nat) : Int) = 33 from rfl]; exact xr_33⟩
  | 34, _ => exact ⟨xo_34, by rw [show ((34 : Nat) : Int) = 34 from rfl]; exact xr_34⟩
  | 35, _ => exact ⟨xo_35, by rw [show ((35 : Nat) : Int) = 35 from rfl]; exact xr_35⟩
  | 36, _ => exact ⟨xo_36, by rw [show ((36 : Nat) : Int) = 36 from rfl]; exact xr_36⟩
  | 37, _ => exact ⟨xo_37, by rw [show ((37 : Nat) : Int) = 37 from rfl]; exact xr_37⟩
  | j + 38, h => exact absurd h (by omega)
theorem xFin_ok {X : Option xX} (h : xFin X = true) : ∃ (en : xE) (cs : List xE) (lv : List (Nat × Value)) (w : xW) (mc ms : Nat), X = some (en :: cs, lv, [.int 1], w, mc, ms) ∧ en.2.1 = .ireturn ∧ mc ≤ 600000 ∧ ms ≤ 7302250 := by
  unfold xFin at h
  split at h
  · rename_i en cs lv st w mc ms
    split at h
    · rename_i x hi
      simp only [Bool.and_eq_true, decide_eq_true_eq] at h
      obtain ⟨h1, h2, h3⟩ := h
      subst h1
      exact ⟨en, cs, lv, w, mc, ms, rfl, hi, Nat.le_of_ble_eq_true h2, Nat.le_of_ble_eq_true h3⟩
    · cases h
  · cases h
