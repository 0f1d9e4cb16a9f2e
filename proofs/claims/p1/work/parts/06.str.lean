/-! the claim's short texts: their lengths -/
def xsl : List Nat := [4, 5, 5, 6, 4]
def xsb : List (List Int32) := [[117, 115, 101, 100], [119, 97, 115, 116, 101], [116, 105, 109, 101, 115], [112, 105, 101, 99, 101, 115], [102, 117, 108, 108]]
def xStr (B : Nat) (sa : Nat → Nat) (U : State) (H : Heap) : Prop := va_Z "java/lang/String" "COMPACT_STRINGS" "Z" (.int 1) (fun q => B ≤ q) U H ∧ (∃ adV : Nat → Nat, vk_S 5 xsl xsb sa adV (fun q => B ≤ q) U H) ∧ (∀ (k : Nat) (q : Nat × String), xstr[k]? = some q → vk_R "RollCutter$Condition" q.1 q.2 (sa k) U) ∧ mz_F U
theorem xStr.kept {B : Nat} {sa : Nat → Nat} {U : State} {H H1 : Heap} (h : xStr B sa U H) (hq : ∀ a : Nat, a < H.size → ¬ B ≤ a → H1[a]? = H[a]?) : xStr B sa U H1 := by
  obtain ⟨h1, ⟨adV, h2⟩, h3, h4⟩ := h
  exact ⟨h1.kept hq, ⟨adV, h2.kept hq⟩, h3, h4⟩
theorem xStr.moved {B : Nat} {sa : Nat → Nat} {s U : State} {H : Heap} (hW : s.WarmedH U.vm) (h : xStr B sa s H) : xStr B sa U H := by
  obtain ⟨h1, ⟨adV, h2⟩, h3, h4⟩ := h
  exact ⟨h1.moved hW.alike, ⟨adV, h2.moved hW.alike⟩, fun k q hq => (h3 k q hq).warm hW, h4.moved hW.alike⟩
theorem xStr.same {B : Nat} {sa : Nat → Nat} {s U : State} {H : Heap} (hv : U.vm = s.vm) (h : xStr B sa s H) : xStr B sa U H := by
  obtain ⟨h1, ⟨adV, h2⟩, h3, h4⟩ := h
  have ha : s.vm.Alike U.vm := by rw [hv]; exact Vm.Alike.refl _
  exact ⟨h1.moved ha, ⟨adV, h2.moved ha⟩, fun k q hq => (h3 k q hq).same hv, h4.moved ha⟩
def yCod : MethodName := ⟨"java/lang/String", "coder", "()B"⟩
abbrev bLen : ByteArray := prog_18_method_54_code
abbrev bCod : ByteArray := prog_18_method_152_code
theorem dl_0 : decode bLen 0 = .ok (.aload_n 0, 1) := by decide +kernel
theorem dl_1 : decode bLen 1 = .ok (.getfield 9, 3) := by decide +kernel
theorem dl_4 : decode bLen 4 = .ok (.arraylength, 1) := by decide +kernel
theorem dl_5 : decode bLen 5 = .ok (.aload_n 0, 1) := by decide +kernel
theorem dl_6 : decode bLen 6 = .ok (.invokevirtual 335, 3) := by decide +kernel
theorem dl_9 : decode bLen 9 = .ok (.ishr, 1) := by decide +kernel
theorem dl_10 : decode bLen 10 = .ok (.ireturn, 1) := by decide +kernel
theorem dc_0 : decode bCod 0 = .ok (.getstatic 38, 3) := by decide +kernel
theorem dc_3 : decode bCod 3 = .ok (.ifCond .eq 10, 3) := by decide +kernel
theorem dc_6 : decode bCod 6 = .ok (.aload_n 0, 1) := by decide +kernel
theorem dc_7 : decode bCod 7 = .ok (.getfield 15, 3) := by decide +kernel
theorem dc_10 : decode bCod 10 = .ok (.goto 4, 3) := by decide +kernel
theorem dc_14 : decode bCod 14 = .ok (.ireturn, 1) := by decide +kernel
theorem ws_ini : Cond.initialized "java/lang/String" ∈ xT := xw_mem (i := 98) (by decide +kernel)
theorem ws_cl : Cond.methodLink "java/lang/String" 335 yCod ∈ xT := xw_mem (i := 997) (by decide +kernel)
theorem ws_ci : Cond.instanceMethod yCod ∈ xT := xw_mem (i := 998) (by decide +kernel)
theorem ws_cs : Cond.selects "java/lang/String" yCod yCod ∈ xT := xw_mem (i := 999) (by decide +kernel)
theorem ws_cc : Cond.code yCod bCod 1 (some .byte) ∈ xT := xw_mem (i := 1000) (by decide +kernel)
theorem ws_li : Cond.instanceMethod yLen ∈ xT := xw_mem (i := 994) (by decide +kernel)
theorem ws_ls : Cond.selects "java/lang/String" yLen yLen ∈ xT := xw_mem (i := 995) (by decide +kernel)
theorem ws_lc : Cond.code yLen bLen 1 (some .int) ∈ xT := xw_mem (i := 996) (by decide +kernel)
theorem ws_fs : Cond.fieldLink "java/lang/String" 38 "java/lang/String" "COMPACT_STRINGS" "Z" ∈ xT := xw_mem (i := 1001) (by decide +kernel)
theorem ws_fv : Cond.fieldLink "java/lang/String" 9 "java/lang/String" "value" "[B" ∈ xT := xw_mem (i := 1662) (by decide +kernel)
theorem ws_fc : Cond.fieldLink "java/lang/String" 15 "java/lang/String" "coder" "B" ∈ xT := xw_mem (i := 1663) (by decide +kernel)
def xSp (v : Int32) : Array Value → State → Outcome → State → Prop := fun _ st oc t => oc = .returned (some (.int v)) ∧ t.heap = st.heap
def xSb (B : Nat) (sa : Nat → Nat) (U : State) : Prop := B ≤ U.heap.size ∧ xStr B sa U U.heap
theorem xSb_bl {B : Nat} {sa : Nat → Nat} {av : List Value} : FrameBlind (va_Pc av (xSb B sa)) := fun a U g mk q => ⟨q.1, q.2.1, (q.2.2).same rfl⟩
theorem xSb_U {B : Nat} {sa : Nat → Nat} {av : List Value} {s : State} {H : Heap} (hB : B ≤ H.size) (h : xStr B sa s H) : ∀ U : State, U.heap = H → s.WarmedH U.vm → va_Pc av (xSb B sa) av.toArray U := fun U hU hW => ⟨rfl, by rw [hU]; exact hB, by rw [hU]; exact h.moved hW⟩
theorem x_rcS {B : Nat} {sa : Nat → Nat} {s : State} {H : Heap} (h : xStr B sa s H) {k : Nat} (hk : k < 5) : ∃ cellB : Cell, H[sa k]? = some cellB ∧ cellB.vm.isStatics = false ∧ s.vm.findClass "java/lang/String" = some cellB.cls := by
  obtain ⟨-, ⟨adV, h2⟩, -⟩ := h
  obtain ⟨cell, e1, e2, e3, -⟩ := (h2.1 k hk).1
  exact ⟨cell, e1, e2, e3⟩
set_option maxHeartbeats 1000000 in
theorem c_cod (l : Launch) {B : Nat} {sa : Nat → Nat} {k : Nat} (hk : k < 5) : Met l yCod (Cond.code yCod bCod 1 (some .byte) :: xT) { frames := 0, cells := 0, slots := 0, locals := 0 } (va_Pc [.ref (sa k)] (xSb B sa)) (xSp 0) 0 0 (fun z => B ≤ z) := by
  refine Met.ofW (cc := bCod) (maxL := 1) (ret := some .byte) (by decide) rfl ?_
  intro p e s m args below meth c s₁ Bd hml hv
  obtain ⟨rfl, hB, hX⟩ := hv
  obtain ⟨hZ, ⟨adV, hV⟩, -⟩ := hX
  have hx := Bd.exec
  have hb := Bd.bytes
  have hr := Bd.returns
  have hts0 := atoms_spec (ws := Cond.code yCod bCod 1 (some .byte) :: xT) Bd.pre
  have hts : ∀ w ∈ xT, w.before [Value.ref (sa k)].toArray s = true := fun w hw => hts0 w (List.mem_cons_of_mem _ hw)
  have hown : s.vm.findClass "java/lang/String" = some m.cls := findClass_of_methodNamed Bd.named
  have hlocks := Bd.notSynchronized
  have hS : va_S (fun q => B ≤ q) s.heap s.heap [] := va_S.rf
  have hl := lv_entry ([.ref (sa k)]) (n := 1) (Nat.le_of_ble_eq_true rfl)
  rw [lg_entry_eq]
  generalize (lg_sl ([.ref (sa k)]) ++ List.replicate (1 - (lg_sl ([.ref (sa k)])).length) Slot.unset).toArray = ls at hl ⊢
  have hl : lv_has ls 1 [(0, .ref (sa k))] := hl
  refine va_gets hx hb hZ hS hown (hts _ ws_fs) (fun _ z => z) dc_0 ?_
  refine lv_if_eq (tgt := 13) hx hb dc_3 (by decide) (fun z => absurd z (by decide)) (fun _ => ?_)
  refine lv_aload_n hx hb dc_6 rfl (lv_at hl 0 rfl) ?_
  refine va_getX (N := 5) (v := fun _ => .int 0) (ad := sa) hx hb (fun i hi => (hV.1 i hi).2.1) hk hS hown (hts _ ws_fc) (fun _ z => z) dc_7 ?_
  refine lv_goto (tgt := 14) hx hb dc_10 (by decide) ?_
  exact W.zret (v := 0) (ty := .byte) hx hb hr rfl (fun t ht _ => ⟨rfl, ht⟩) hS.2.2 dc_14 hlocks
set_option maxHeartbeats 1000000 in
theorem c_len (l : Launch) {B : Nat} {sa : Nat → Nat} {k : Nat} (hk : k < 5) : Met l yLen (Cond.code yLen bLen 1 (some .int) :: xT) { frames := 1, cells := 0, slots := 0, locals := 20 } (va_Pc [.ref (sa k)] (xSb B sa)) (xSp (nI (xsl.getD k 0))) 0 0 (fun z => B ≤ z) := by
  refine Met.ofW (cc := bLen) (maxL := 1) (ret := some .int) (by decide) rfl ?_
  intro p e s m args below meth c s₁ Bd hml hv
  obtain ⟨rfl, hB, hX⟩ := hv
  have hX0 := hX
  obtain ⟨hZ, ⟨adV, hV⟩, -⟩ := hX
  have hx := Bd.exec
  have hb := Bd.bytes
  have hr := Bd.returns
  have hts0 := atoms_spec (ws := Cond.code yLen bLen 1 (some .int) :: xT) Bd.pre
  have hts : ∀ w ∈ xT, w.before [Value.ref (sa k)].toArray s = true := fun w hw => hts0 w (List.mem_cons_of_mem _ hw)
  have hown : s.vm.findClass "java/lang/String" = some m.cls := findClass_of_methodNamed Bd.named
  have hlocks := Bd.notSynchronized
  have hS : va_S (fun q => B ≤ q) s.heap s.heap [] := va_S.rf
  have hl := lv_entry ([.ref (sa k)]) (n := 1) (Nat.le_of_ble_eq_true rfl)
  rw [lg_entry_eq]
  generalize (lg_sl ([.ref (sa k)]) ++ List.replicate (1 - (lg_sl ([.ref (sa k)])).length) Slot.unset).toArray = ls at hl ⊢
  have hl : lv_has ls 1 [(0, .ref (sa k))] := hl
  refine lv_aload_n hx hb dl_0 rfl (lv_at hl 0 rfl) ?_
  refine va_getX (N := 5) (v := fun i => .ref (adV i)) (ad := sa) hx hb (fun i hi => (hV.1 i hi).2.2.1) hk hS hown (hts _ ws_fv) (fun _ z => z) dl_1 ?_
  refine va_tlen hx hb (hV.1 k hk).2.2.2 hS rfl dl_4 ?_
  refine lv_aload_n hx hb dl_5 rfl (lv_at hl 0 rfl) ?_
  have hgi : GoodIn xT (Cond.code yCod bCod 1 (some .byte) :: xT) := fun w hw => by
    rcases List.mem_cons.mp hw with rfl | hw
    · exact ⟨ws_cc, x_good _ ws_cc⟩
    · exact ⟨hw, x_good _ hw⟩
  have hrun := va_runV (As := []) (rest := [.int (Int32.ofNat (xsl.getD k 0))]) (own := "java/lang/String") (b := sa k) (g := F0 m 6 ls [.ref (sa k), .int (Int32.ofNat (xsl.getD k 0))]) (H := s.heap) (locs := []) (cells := 0) (slots := 0) (R := { frames := 1, cells := 0, slots := 0, locals := 20 }) ⟨hx, hb, hml, hown, hts⟩ (c_cod l (B := B) (sa := sa) hk) ⟨callB_of 0 hts hgi rfl rfl rfl (hts _ ws_ini) (hts _ ws_cl) ⟨by decide, by decide, by decide +kernel⟩ ⟨Nat.le_of_ble_eq_true rfl, Nat.le_of_ble_eq_true rfl⟩, hts _ ws_ci, hts _ ws_cs⟩ ⟨xSb_bl, x_rcS hX0 hk, xSb_U hB hX0⟩ rfl rfl hl.1 rfl (lv_room (Nat.le_of_ble_eq_true rfl)) dl_6 ⟨Nat.le_of_ble_eq_true rfl, Nat.le_of_ble_eq_true rfl⟩ (below := below) (meth := meth) (e := e)
  intro T hT X
  obtain ⟨v, st₀, t, T', L, h0, X', hL, e1, e2, ⟨hv, hh⟩, st⟩ := hrun T hT X
  cases hv
  have hT' : T'.heap = s.heap := by rw [e1, hh, h0]
  have K : W p l e { frames := 1, cells := 0, slots := 0, locals := 20 } s m [Value.ref (sa k)].toArray below meth c s.heap ([] ++ L) 0 0 (MQ below (xSp (nI (xsl.getD k 0))) [Value.ref (sa k)].toArray s 0 0 (fun z => B ≤ z)) (F0 m 9 ls [.int 0, .int (Int32.ofNat (xsl.getD k 0))]) := by
    refine lv_ishr hx hb dl_9 ?_
    have e3 : (Int32.ofNat (xsl.getD k 0) >>> ((0 : Int32) &&& 31)) = nI (xsl.getD k 0) := by
      have h5 : k = 0 ∨ k = 1 ∨ k = 2 ∨ k = 3 ∨ k = 4 := by omega
      rcases h5 with rfl | rfl | rfl | rfl | rfl <;> decide +kernel
    rw [e3]
    exact W.iret hx hb hr (fun t ht _ => ⟨rfl, ht⟩) (fun q hq => hL q (by simpa using hq)) dl_10 hlocks
  obtain ⟨t2, a1, b1⟩ := K T' hT' X'
  exact ⟨t2, st t2 a1, b1⟩
