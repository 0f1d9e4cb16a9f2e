/-! the texts at the start -/
theorem x_five {P : Nat → Prop} (h0 : P 0) (h1 : P 1) (h2 : P 2) (h3 : P 3) (h4 : P 4) : ∀ i : Nat, i < 5 → P i := by
  intro i hi
  have h5 : i = 0 ∨ i = 1 ∨ i = 2 ∨ i = 3 ∨ i = 4 := by omega
  rcases h5 with rfl | rfl | rfl | rfl | rfl
  · exact h0
  · exact h1
  · exact h2
  · exact h3
  · exact h4
def x_tm (i : Nat) : Term := .string "RollCutter$Condition" ((xstr.getD i (0, "")).1)
theorem x_arr {s : State} {args : Array Value} {ty : FieldType} (h : (Cond.arrayClass ty).before args s = true) : ∃ c0 : ClassId, ArrOfT s c0 ty ∧ s.vm.findClass ("[" ++ ty.toString) = some c0 := by
  obtain ⟨c0, k0, comp, h1, h2, h3⟩ := Cond.arrayClass_spec h
  exact ⟨c0, fun n z => ⟨fun k hk => (by cases hk), k0, h2, comp, h3⟩, h1⟩
set_option maxHeartbeats 4000000 in
set_option maxRecDepth 100000 in
theorem x_strof {s : State} {b : Nat} (hts : ∀ w ∈ lw_tbl, w.before #[Value.ref b] s = true) (hgv : (Jvm.Cond.and given_1 narrow_1).before #[Value.ref b] s = true) (hF : mz_F s) : ∃ sa : Nat → Nat, sa 5 = b ∧ xStr s.heap.size sa s s.heap := by
  have hs := flat_of_before _ hgv
  have hA : ∀ a : Nat, a < s.heap.size → ¬ (fun q : Nat => s.heap.size ≤ q) a := fun a h => Nat.not_le.mpr h
  have hex : ∀ i : Nat, i < 5 → (Cond.exactly (x_tm i) "java/lang/String").before #[Value.ref b] s = true := x_five (hs _ (by decide +kernel)) (hs _ (by decide +kernel)) (hs _ (by decide +kernel)) (hs _ (by decide +kernel)) (hs _ (by decide +kernel))
  have hco : ∀ i : Nat, i < 5 → (Cond.eq (.field (x_tm i) "java/lang/String" "coder" "B") (.int 0)).before #[Value.ref b] s = true := x_five (hs _ (by decide +kernel)) (hs _ (by decide +kernel)) (hs _ (by decide +kernel)) (hs _ (by decide +kernel)) (hs _ (by decide +kernel))
  have har : ∀ i : Nat, i < 5 → (Cond.arrayOf (.field (x_tm i) "java/lang/String" "value" "[B") .byte).before #[Value.ref b] s = true := x_five (hs _ (by decide +kernel)) (hs _ (by decide +kernel)) (hs _ (by decide +kernel)) (hs _ (by decide +kernel)) (hs _ (by decide +kernel))
  have hle : ∀ i : Nat, i < 5 → (Cond.eq (.length (.field (x_tm i) "java/lang/String" "value" "[B")) (.int (Int32.ofNat (xsl.getD i 0)))).before #[Value.ref b] s = true := x_five (hs _ (by decide +kernel)) (hs _ (by decide +kernel)) (hs _ (by decide +kernel)) (hs _ (by decide +kernel)) (hs _ (by decide +kernel))
  have hel1 : ∀ i : Nat, i < 5 → (∀ j : Nat, j < 6 → j < xsl.getD i 0 → (Cond.eq (.elem (.field (x_tm i) "java/lang/String" "value" "[B") (.int (Int32.ofNat j))) (.int ((xsb.getD i []).getD j 0))).before #[Value.ref b] s = true) := by
    intro i hi j hj hl
    have h5 : i = 0 ∨ i = 1 ∨ i = 2 ∨ i = 3 ∨ i = 4 := by omega
    have h6 : j = 0 ∨ j = 1 ∨ j = 2 ∨ j = 3 ∨ j = 4 ∨ j = 5 := by omega
    rcases h5 with rfl | rfl | rfl | rfl | rfl <;> rcases h6 with rfl | rfl | rfl | rfl | rfl | rfl <;> first | exact hs _ (by decide +kernel) | exact absurd hl (by decide)
  have hel : ∀ i : Nat, i < 5 → ∀ j : Nat, j < xsl.getD i 0 → (Cond.eq (.elem (.field (x_tm i) "java/lang/String" "value" "[B") (.int (Int32.ofNat j))) (.int ((xsb.getD i []).getD j 0))).before #[Value.ref b] s = true := by
    intro i hi j hj
    have h6 : xsl.getD i 0 ≤ 6 := x_five (P := fun i => xsl.getD i 0 ≤ 6) (by decide) (by decide) (by decide) (by decide) (by decide) i hi
    exact hel1 i hi j (by omega) hj
  have hne : ∀ i j : Nat, i < 5 → j < 5 → i ≠ j → (Cond.not (Cond.eq (x_tm i) (x_tm j))).before #[Value.ref b] s = true ∨ (Cond.not (Cond.eq (x_tm j) (x_tm i))).before #[Value.ref b] s = true := by
    intro i j hi hj hij
    have h5 : i = 0 ∨ i = 1 ∨ i = 2 ∨ i = 3 ∨ i = 4 := by omega
    have h6 : j = 0 ∨ j = 1 ∨ j = 2 ∨ j = 3 ∨ j = 4 := by omega
    rcases h5 with rfl | rfl | rfl | rfl | rfl <;> rcases h6 with rfl | rfl | rfl | rfl | rfl <;> first | exact absurd rfl hij | exact Or.inl (hs _ (by decide +kernel)) | exact Or.inr (hs _ (by decide +kernel))
  obtain ⟨sa0, adV, hV, hev⟩ := vk_Sof (N := 5) (tm := x_tm) (len := xsl) (byt := xsb) (A := fun q => s.heap.size ≤ q) (x_five (P := fun i => xsl.getD i 0 < 2 ^ 31) (by decide) (by decide) (by decide) (by decide) (by decide)) hex hco har hle hel hne hA
  obtain ⟨sa, hsd⟩ : ∃ sa : Nat → Nat, sa = fun k => if k < 5 then sa0 k else b := ⟨_, rfl⟩
  have hsa : ∀ i : Nat, i < 5 → sa i = sa0 i := fun i hi => by rw [hsd]; exact if_pos hi
  have hs5 : sa 5 = b := by rw [hsd]; exact if_neg (by decide)
  refine ⟨sa, hs5, va_Zof (hts _ (List.mem_of_getElem? (i := 1002) (by decide +kernel))) (hts _ (List.mem_of_getElem? (i := 98) (by decide +kernel))) (va_eqi (hs _ (by decide +kernel))) hA, ⟨adV, fun i hi => ?_, fun i j hi hj he => ?_⟩, fun k q hq => ?_, hF⟩
  · rw [hsa i hi]
    exact hV.1 i hi
  · rw [hsa i hi, hsa j hj] at he
    exact hV.2 i j hi hj he
  · have hk : k < 5 := (List.getElem?_eq_some_iff.mp hq).1
    rw [hsa k hk]
    have hw : ∀ i : Nat, i < 5 → ∀ q : Nat × String, xstr[i]? = some q → (Cond.stringRef "RollCutter$Condition" q.1 q.2).before #[Value.ref b] s = true := x_five (fun q h => by cases h; exact hts _ (List.mem_of_getElem? (i := 988) (by decide +kernel))) (fun q h => by cases h; exact hts _ (List.mem_of_getElem? (i := 1041) (by decide +kernel))) (fun q h => by cases h; exact hts _ (List.mem_of_getElem? (i := 1042) (by decide +kernel))) (fun q h => by cases h; exact hts _ (List.mem_of_getElem? (i := 1043) (by decide +kernel))) (fun q h => by cases h; exact hts _ (List.mem_of_getElem? (i := 1044) (by decide +kernel)))
    have ht : ∀ i : Nat, i < 5 → ∀ q : Nat × String, xstr[i]? = some q → x_tm i = .string "RollCutter$Condition" q.1 := x_five (fun q h => by cases h; rfl) (fun q h => by cases h; rfl) (fun q h => by cases h; rfl) (fun q h => by cases h; rfl) (fun q h => by cases h; rfl)
    have h2 := hev k hk
    rw [ht k hk q hq] at h2
    exact vk_R.of (hw k hk q hq) h2
