/-! an array of arrays: multianewarray with two counts (the walk goes by an invariant over the states of the machine's own loop) -/
section MZ
theorem mz_over {args : Array Value} {s : State} {t : FieldType} (h : (Cond.arrayOver (.array t)).before args s = true) : ∃ (comp cA : ClassId) (kA : Class), s.vm.findClass (FieldType.array t).toString = some comp ∧ s.vm.classes[cA]? = some kA ∧ kA.kind = .array comp (.array t) ∧ s.vm.findClass ("[" ++ (FieldType.array t).toString) = some cA := by
  simp only [Cond.before, Cond.holds, Cond.value, beq_iff_eq] at h
  cases hc : s.vm.findClass (FieldType.array t).toString with
  | none => simp [hc] at h
  | some comp =>
    simp only [hc, Option.bind_some, Option.bind_eq_some_iff, Option.map_eq_some_iff] at h
    obtain ⟨cA, hi, kA, hk, hb⟩ := h
    have hp := (Array.findIdx?_eq_some_iff_getElem.mp hi).2.1
    rw [(Array.getElem?_eq_some_iff.mp hk).2] at hp
    cases hkind : kA.kind with
    | array component ty =>
      rw [hkind] at hb hp
      simp at hb hp
      exact ⟨comp, cA, kA, rfl, hk, by rw [hkind, hp, hb.1], hb.2⟩
    | _ => rw [hkind] at hb; simp at hb
/-- the class of arrays of long arrays is there -/
def mz_F (U : State) : Prop := ∃ (comp cA : ClassId) (kA : Class), U.vm.findClass (FieldType.array .long).toString = some comp ∧ U.vm.classes[cA]? = some kA ∧ kA.kind = .array comp (.array .long) ∧ U.vm.findClass ("[" ++ (FieldType.array .long).toString) = some cA
theorem mz_F.moved {u U : State} (hvm : u.vm.Alike U.vm) (h : mz_F u) : mz_F U := by
  obtain ⟨comp, cA, kA, h1, h2, h3, h4⟩ := h
  obtain ⟨k', hk', he⟩ := hvm.2.2 _ _ h2
  exact ⟨comp, cA, k', by rw [hvm.findClass]; exact h1, hk', by rw [he]; exact h3, by rw [hvm.findClass]; exact h4⟩
theorem mz_new {E : CtlPost} {e : Env} {d : Bool} {acts : List Action} {s : State} {cA comp : ClassId} {k : Class} {ty : FieldType} {len : Nat} {v0 : Value} (hk : s.vm.classes[cA]? = some k) (hkind : k.kind = .array comp ty) (hl : ¬ len > e.platform.arrayLengthLimit) (hh : ¬ len * componentBytes ty > e.platform.maxHeapBytes) (hf : fits ty v0 = true) (hd : v0.isDefault = true) {Q : Addr → Pre} (h1 : s.heap.size < e.platform.maxCells) (h2 : s.slotsUsed + len ≤ e.platform.maxSlots) (hq : Q s.heap.size d acts (s.pushCell { cls := cA, slots := Array.replicate len v0, vm := .none })) : wp (Jvm.newArray cA len v0) Q E e d acts s := by
  have ha : allocActs (Array.replicate len v0) s.heap.size acts = acts := by
    unfold allocActs
    rw [if_pos (by rw [Array.all_replicate]; split <;> simp [hd])]
  have hz : ∀ i v, (Array.replicate len v0)[i]? = some v → s.fitsSlot cA .none i v = true := by
    intro i v hv
    simp only [Array.getElem?_replicate] at hv
    split at hv
    · cases hv; simp [State.fitsSlot, State.slotType?, hk, hkind, hf]
    · cases hv
  simp only [Jvm.newArray, Jvm.arrayFits, wp_bind', Jvm.W.ask, Jvm.W.ite, hl, if_false, wp_pure', Jvm.W.theClass, hk, hkind, hh, Jvm.W.alloc, Jvm.W.stop, Option.some.injEq, exists_eq_left', Array.size_replicate, ha]
  rw [if_neg (by omega)]
  exact ⟨h1, h2, hz, hq⟩
/-- behind so many inner arrays -/
def mz_H (H0 H : Heap) (cA comp : ClassId) (N M i : Nat) : Prop := H.size = H0.size + 1 + i ∧ (∀ q, q < H0.size → H[q]? = H0[q]?) ∧ (∃ os : Array Value, H[H0.size]? = some { cls := cA, slots := os, vm := .none } ∧ os.size = N ∧ ∀ j, j < N → os[j]? = some (if j < i then .ref (H0.size + 1 + j) else .null)) ∧ ∀ j, j < i → H[H0.size + 1 + j]? = some { cls := comp, slots := Array.replicate M (.long 0), vm := .none }
theorem mz_H0 {H0 : Heap} {cA comp : ClassId} {N M : Nat} : mz_H H0 (H0.push { cls := cA, slots := Array.replicate N .null, vm := .none }) cA comp N M 0 := by
  refine ⟨by simp, fun q hq => ?_, ⟨Array.replicate N .null, by simp, by simp, fun j hj => by simp [hj]⟩, fun j hj => absurd hj (Nat.not_lt_zero _)⟩
  rw [Array.getElem?_push, if_neg (Nat.ne_of_lt hq)]
theorem mz_Hs {H0 H : Heap} {cA comp : ClassId} {N M i : Nat} {o : Cell} (h : mz_H H0 H cA comp N M i) (hi : i < N) (ho : H[H0.size]? = some o) : mz_H H0 ((H.push { cls := comp, slots := Array.replicate M (.long 0), vm := .none }).setIfInBounds H0.size (o.setSlot i (.ref (H0.size + 1 + i)))) cA comp N M (i + 1) := by
  obtain ⟨z, hk, ⟨os, ho', c3, c4⟩, hin⟩ := h
  cases Option.some.inj (ho.symm.trans ho')
  refine ⟨by simp [z]; omega, fun q hq => ?_, ⟨os.setIfInBounds i (.ref (H0.size + 1 + i)), ?_, by simp [c3], fun j hj => ?_⟩, fun j hj => ?_⟩
  · rw [Array.getElem?_setIfInBounds_ne (by omega), Array.getElem?_push, if_neg (by omega)]
    exact hk q hq
  · rw [Array.getElem?_setIfInBounds_self_of_lt (by simp [z]; omega)]
    rfl
  · simp only [Array.getElem?_setIfInBounds]
    by_cases e : i = j
    · subst e; simp [c3, hj]
    · rw [if_neg e, c4 j hj]
      by_cases hj2 : j < i
      · rw [if_pos hj2, if_pos (by omega)]
      · rw [if_neg hj2, if_neg (by omega)]
  · rw [Array.getElem?_setIfInBounds_ne (by omega), Array.getElem?_push]
    by_cases e : j = i
    · subst e
      rw [if_pos (by omega)]
    · rw [if_neg (by omega)]
      exact hin j (by omega)
/-- the machine's states between the inner arrays: each reads the outer array as it lies there -/
def mz_U (T0 : State) (h0 : Nat) (cA comp : ClassId) (N M : Nat) (o0 : Cell) : Nat → State
  | 0 => T0.pushCell { cls := cA, slots := Array.replicate N .null, vm := .none }
  | i + 1 => ((mz_U T0 h0 cA comp N M o0 i).pushCell { cls := comp, slots := Array.replicate M (.long 0), vm := .none }).setCell h0 ((((mz_U T0 h0 cA comp N M o0 i).heap[h0]?).getD o0).setSlot i (.ref (h0 + 1 + i)))
theorem mz_chain {p : Program} {l : Launch} {e : Env} {R : Room} {s : State} {m : MethodId} {args : Array Value} {below : List Frame} {meth : Method} {c : Code} {T : State} {locs : List Loc} {cells slots : Nat} (X : Stand p l e R s m args below meth c T locs cells slots) (cA comp : ClassId) (N M : Nat) (o0 : Cell) : ∀ i : Nat, i ≤ N → Stand p l e R s m args below meth c (mz_U T T.heap.size cA comp N M o0 i) (locs ++ (List.range i).map fun j => ⟨T.heap.size, j⟩) (cells + 1 + i) (slots + N + i * M) ∧ mz_H T.heap (mz_U T T.heap.size cA comp N M o0 i).heap cA comp N M i
  | 0, _ => ⟨by simpa [mz_U] using X.pushed { cls := cA, slots := Array.replicate N .null, vm := .none }, mz_H0⟩
  | i + 1, hi => by
    obtain ⟨XU, hH⟩ := mz_chain X cA comp N M o0 i (by omega)
    obtain ⟨os, ho, -⟩ := hH.2.2.1
    generalize ({ cls := cA, slots := os, vm := .none } : Cell) = o at ho
    have hz := hH.1
    have e0 : mz_U T T.heap.size cA comp N M o0 (i + 1) = ((mz_U T T.heap.size cA comp N M o0 i).pushCell { cls := comp, slots := Array.replicate M (.long 0), vm := .none }).setCell T.heap.size (o.setSlot i (.ref (T.heap.size + 1 + i))) := by
      show ((mz_U T T.heap.size cA comp N M o0 i).pushCell _).setCell T.heap.size ((((mz_U T T.heap.size cA comp N M o0 i).heap[T.heap.size]?).getD o0).setSlot i _) = _
      rw [ho]; rfl
    have hlt9 : T.heap.size < (mz_U T T.heap.size cA comp N M o0 i).heap.size := by omega
    have hcell : ((mz_U T T.heap.size cA comp N M o0 i).pushCell { cls := comp, slots := Array.replicate M (.long 0), vm := .none }).heap[T.heap.size]? = some o := by
      rw [State.heap_pushCell_of_lt (h := hlt9)]; exact ho
    rw [e0]
    refine ⟨?_, mz_Hs hH (by omega) ho⟩
    have h := (XU.pushed { cls := comp, slots := Array.replicate M (.long 0), vm := .none }).stored hcell i (.ref (T.heap.size + 1 + i))
    have e1 : ({ cls := comp, slots := Array.replicate M (.long 0), vm := .none } : Cell).slots.size = M := by simp
    rw [e1] at h
    have e2 : (locs ++ (List.range (i + 1)).map fun j => (⟨T.heap.size, j⟩ : Loc)) = (locs ++ (List.range i).map fun j => (⟨T.heap.size, j⟩ : Loc)) ++ [⟨T.heap.size, i⟩] := by simp [List.range_succ, List.append_assoc]
    have e3 : slots + N + (i + 1) * M = slots + N + i * M + M := by rw [Nat.succ_mul]; omega
    rw [e2, e3]
    exact h
set_option maxHeartbeats 1000000 in
theorem mz_stand {p : Program} {l : Launch} {e : Env} {R : Room} {s : State} {m : MethodId} {args : Array Value} {below : List Frame} {meth : Method} {c : Code} {T : State} {locs : List Loc} {cells slots : Nat} (X : Stand p l e R s m args below meth c T locs cells slots) (hexec : p.tables.exec = Jvm.exec) {own : String} {index : Nat} (hown : s.vm.findClass own = some m.cls) (hlink : (Cond.classLink own index ("[" ++ (FieldType.array .long).toString)).before args s = true) (hover : mz_F s) (harr : (Cond.arrayClass .long).before args s = true)
    {g : JFrame} (hg : g.method = m) (hdg : decode c.code g.pc = .ok (.multianewarray index 2, 4)) {n k : Int32} {rest : List Value} (hstack : g.stack = .int k :: .int n :: rest) (hn : ¬ n < 0) (hk : ¬ k < 0) (hb1 : n.toNatClampNeg ≤ 1000) (hb2 : k.toNatClampNeg ≤ 1000) (hcells : cells + (1 + n.toNatClampNeg) ≤ R.cells) (hslots : slots + (n.toNatClampNeg + n.toNatClampNeg * k.toNatClampNeg) ≤ R.slots) :
    ∃ (cA comp : ClassId), s.vm.findClass ("[" ++ (FieldType.array .long).toString) = some cA ∧ s.vm.findClass (FieldType.array .long).toString = some comp ∧ ∃ U : State, Stand p l e R s m args below meth c U (locs ++ (List.range n.toNatClampNeg).map fun j => ⟨T.heap.size, j⟩) (cells + 1 + n.toNatClampNeg) (slots + n.toNatClampNeg + n.toNatClampNeg * k.toNatClampNeg) ∧ mz_H T.heap U.heap cA comp n.toNatClampNeg k.toNatClampNeg n.toNatClampNeg ∧ ∀ target, Steps p.tables e below (U.setTop { g with pc := g.pc + 4, stack := .ref T.heap.size :: rest }) target → Steps p.tables e below (T.setTop g) target := by
  subst hg
  have hpl : e.platform.magicAccessors = ({} : Platform).magicAccessors := by rw [X.admits.platform]
  obtain ⟨comp, cA, kA, hcomp, hkA, hkindA, hnameA⟩ := hover
  obtain ⟨comp', kC, cc, hcomp', hkC, hkindC⟩ := Cond.arrayClass_spec harr
  cases Option.some.inj (hcomp'.symm.trans hcomp)
  obtain ⟨c0, hfc0, hcl⟩ := Cond.classLink_spec hown hlink e.platform hpl
  cases hnameA.symm.trans hfc0
  obtain ⟨hg₁, hwarm₁, hready₁⟩ := State.classEntry (e := e) X.warmed hcl
  generalize T.vm.noted g.method.cls index (.cls cA) = vm₁ at hg₁ hwarm₁ hready₁
  have X₁ := X.noted hwarm₁
  have ch := mz_chain X₁ cA comp n.toNatClampNeg k.toNatClampNeg { cls := cA, slots := #[], vm := .none }
  generalize hUf : mz_U (T.setVm vm₁) (T.setVm vm₁).heap.size cA comp n.toNatClampNeg k.toNatClampNeg { cls := cA, slots := #[], vm := .none } = Uf at ch
  have ch : ∀ i : Nat, i ≤ n.toNatClampNeg → Stand p l e R s g.method args below meth c (Uf i) (locs ++ (List.range i).map fun j => ⟨T.heap.size, j⟩) (cells + 1 + i) (slots + n.toNatClampNeg + i * k.toNatClampNeg) ∧ mz_H T.heap (Uf i).heap cA comp n.toNatClampNeg k.toNatClampNeg i := ch
  refine ⟨cA, comp, hnameA, hcomp, Uf n.toNatClampNeg, (ch _ (Nat.le_refl _)).1, (ch _ (Nat.le_refl _)).2, fun target hall => ?_⟩
  have kinds : ∀ U : State, s.WarmedH U.vm → (∃ kA₁, U.vm.classes[cA]? = some kA₁ ∧ kA₁.kind = .array comp (.array .long)) ∧ ∃ kC₁, U.vm.classes[comp]? = some kC₁ ∧ kC₁.kind = .array cc .long := by
    intro U hU
    obtain ⟨kA₁, hkA₁, heA⟩ := hU.alike.2.2 _ _ hkA
    obtain ⟨kC₁, hkC₁, heC⟩ := hU.alike.2.2 _ _ hkC
    exact ⟨⟨kA₁, hkA₁, by rw [heA]; exact hkindA⟩, kC₁, hkC₁, by rw [heC]; exact hkindC⟩
  have hl1 : ¬ n.toNatClampNeg > e.platform.arrayLengthLimit := by rw [Launch.admits_arrayLengthLimit X.admits]; omega
  have hh1 : ¬ n.toNatClampNeg * componentBytes (.array .long) > e.platform.maxHeapBytes := by
    rw [Launch.admits_maxHeapBytes X.admits]; show ¬ n.toNatClampNeg * 4 > 536870912; omega
  have hl2 : ¬ k.toNatClampNeg > e.platform.arrayLengthLimit := by rw [Launch.admits_arrayLengthLimit X.admits]; omega
  have hh2 : ¬ k.toNatClampNeg * componentBytes .long > e.platform.maxHeapBytes := by
    rw [Launch.admits_maxHeapBytes X.admits]; show ¬ k.toNatClampNeg * 8 > 536870912; omega
  jvm_step X.here [hexec, hdg]
  simp only [multianewarray.sem, wp_bind', Jvm.W.resolveClassAt_links (State.method?_setTop g X.here.top) hg₁]
  rw [Jvm.W.popN, if_neg (by decide)]
  refine ⟨g, State.topJava?_setTop' (s := T.setVm vm₁) g X.here.top, [.int n, .int k], rest, rfl, hstack, ?_⟩
  simp only [List.mapM_cons, List.mapM_nil, wp_bind', wp_pure']
  have eS : ((T.setTop g).setVm vm₁).setTop { g with stack := rest } = (T.setVm vm₁).setTop { g with stack := rest } := by
    show ((T.setVm vm₁).setTop g).setTop _ = _
    rw [State.setTop_setTop]
  rw [eS]
  generalize hgf : ({ g with stack := rest } : JFrame) = gf
  obtain ⟨⟨kA₁, hkA₁, hkindA₁⟩, -⟩ := kinds (T.setVm vm₁) hwarm₁
  have hfind : ([k].find? (· < 0)) = none := by simp [hk]
  obtain ⟨hr1, hr2⟩ := X.roomAbove hcells hslots
  rw [multianewarray.make]
  simp only [wp_bind', Jvm.W.ite, hn, if_false, wp_pure', Jvm.W.theClass]
  refine ⟨kA₁, hkA₁, ?_⟩
  simp only [hkindA₁, wp_bind']
  refine mz_new (s := (T.setVm vm₁).setTop gf) (v0 := .null) hkA₁ hkindA₁ hl1 hh1 rfl rfl (by show T.heap.size < _; omega) (by show T.slotsUsed + _ ≤ _; omega) ?_
  simp only [hfind]
  rw [ite_self, wp_bind', Std.Legacy.Range.forIn_eq_forIn_range']
  have hsz : ([:n.toNatClampNeg] : Std.Legacy.Range).size = n.toNatClampNeg := by simp [Std.Legacy.Range.size]
  rw [hsz]
  refine wp_forIn_inv (fun todo s' => ∃ i : Nat, i ≤ n.toNatClampNeg ∧ todo = List.range' i (n.toNatClampNeg - i) ∧ s' = (Uf i).setTop gf) _ _ ⟨0, Nat.zero_le _, rfl, by rw [← hUf]; rfl⟩ ?_ ?_
  · rintro x todo s' d' acts' Q' ⟨i, hi, hl, rfl⟩ hnext
    have hlt : i < n.toNatClampNeg := by
      rcases Nat.lt_or_ge i n.toNatClampNeg with h | h
      · exact h
      · rw [show n.toNatClampNeg - i = 0 from by omega] at hl; simp at hl
    rw [show n.toNatClampNeg - i = (n.toNatClampNeg - (i + 1)) + 1 from by omega, List.range'_succ] at hl
    obtain ⟨hx, hrest⟩ := List.cons.inj hl
    subst hx
    obtain ⟨XU, hH⟩ := ch x hi
    have hU1 : Uf (x + 1) = ((Uf x).pushCell { cls := comp, slots := Array.replicate k.toNatClampNeg (.long 0), vm := .none }).setCell T.heap.size ((((Uf x).heap[T.heap.size]?).getD { cls := cA, slots := #[], vm := .none }).setSlot x (.ref (T.heap.size + 1 + x))) := by rw [← hUf]; rfl
    generalize Uf x = U at XU hH hU1 ⊢
    obtain ⟨-, kC₁, hkC₁, hkindC₁⟩ := kinds U XU.warmed
    have hmul : x * k.toNatClampNeg + k.toNatClampNeg ≤ n.toNatClampNeg * k.toNatClampNeg := by
      have := Nat.mul_le_mul_right k.toNatClampNeg (show x + 1 ≤ n.toNatClampNeg from hlt)
      rw [Nat.succ_mul] at this; exact this
    obtain ⟨hu1, hu2⟩ := XU.roomAbove (a := 1) (b := k.toNatClampNeg) (by omega) (by omega)
    obtain ⟨os, ho, o3, o4⟩ := hH.2.2.1
    have hz := hH.1
    simp only [wp_bind']
    rw [multianewarray.make]
    simp only [wp_bind', Jvm.W.ite, hk, if_false, wp_pure', Jvm.W.theClass]
    refine ⟨kC₁, hkC₁, ?_⟩
    simp only [hkindC₁]
    refine mz_new (s := U.setTop gf) (v0 := defaultValue .long) hkC₁ hkindC₁ hl2 hh2 rfl rfl (by show U.heap.size < _; omega) (by show U.slotsUsed + _ ≤ _; omega) ?_
    simp only [wp_bind', Jvm.W.writeLoc, wp_pure']
    have hlt9 : T.heap.size < U.heap.size := by omega
    have hcell : (U.pushCell { cls := comp, slots := Array.replicate k.toNatClampNeg (defaultValue .long), vm := .none }).heap[T.heap.size]? = some { cls := cA, slots := os, vm := .none } := by
      rw [State.heap_pushCell_of_lt (h := hlt9)]; exact ho
    refine ⟨_, hcell, by simp, by show x < os.size; rw [o3]; exact hlt, ?_, hnext _ _ _ ⟨x + 1, hlt, hrest, ?_⟩⟩
    · obtain ⟨⟨kA₂, hkA₂, hkindA₂⟩, -⟩ := kinds U XU.warmed
      simp [State.fitsSlot, State.slotType?, hkA₂, hkindA₂]
      rfl
    · rw [hU1, ho, ← hz]; rfl
  · rintro s' d' acts' ⟨i, hi, hl, rfl⟩
    have hiN : i = n.toNatClampNeg := by
      rcases Nat.lt_or_ge i n.toNatClampNeg with h | h
      · rw [show n.toNatClampNeg - i = (n.toNatClampNeg - (i + 1)) + 1 from by omega, List.range'_succ] at hl; cases hl
      · omega
    subst hiN
    have XU := (ch _ (Nat.le_refl _)).1
    generalize Uf n.toNatClampNeg = U at XU hall ⊢
    simp only [wp_pure']
    simp only [wp_bind', Jvm.W.mark, Jvm.W.pushRef, State.topJava?_setTop' _ XU.here.top, Option.some.injEq, exists_eq_left', State.setTop_setTop, State.heap_setTop]
    intro acts
    subst hgf
    simp [jvm, XU.here.top]
    exact hall
end MZ
