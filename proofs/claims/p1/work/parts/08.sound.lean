/-! the step is sound -/
section XS
variable {p : Program} {l : Launch} {e : Env} {R : Room} {s : State} {m : MethodId} {args : Array Value} {below : List Frame} {meth : Method} {c : Code} {Q : State → Prop} {cc : ByteArray} {own : String} {B : Nat} {ev : Nat → Int32} {sa : Nat → Nat} {cA : Nat → ClassId} {D : va_G} {ini : Bool} {nL d : Nat} {ivs : List (Int × Int)}
def xGd (p : Program) (l : Launch) (e : Env) (R : Room) (s : State) (m : MethodId) (args : Array Value) (below : List Frame) (meth : Method) (c : Code) (Q : State → Prop) (nL B : Nat) (ev : Nat → Int32) (sa : Nat → Nat) (cA : Nat → ClassId) (D : va_G) (cs : List xE) (lv : List (Nat × Value)) (st : List Value) (w : xW) (mc ms : Nat) : Prop :=
  ∀ (H : Heap) (locs : List Loc) (ls : Array Slot), s.heap.size + mc = B + w.length → va_P D xcl (xWd B ev sa cA w) H → va_S (fun q => B ≤ q) s.heap H locs → lv_has ls nL (lv.map (xG2 B ev sa)) → W p l e R s m args below meth c H locs mc ms Q (F0 m (xpc cs) ls (st.map (xG B ev sa)))
def xCx (p : Program) (R : Room) (s : State) (m : MethodId) (args : Array Value) (meth : Method) (c : Code) (own : String) (cc : ByteArray) (nL : Nat) (ini : Bool) (B : Nat) (ev : Nat → Int32) (cA : Nat → ClassId) (D : va_G) (ivs : List (Int × Int)) (d : Nat) (sa : Nat → Nat) (LL : Option Nat) : Prop :=
  p.tables.exec = Jvm.exec ∧ c.code = cc ∧ c.maxLocals = nL ∧ s.vm.findClass own = some m.cls ∧ (∀ w ∈ xT, w.before args s = true) ∧ va_K D xcl (xTy cA) s ∧ B ≤ s.heap.size ∧ (ini = true → meth.name = "<init>") ∧ xEv ivs ev ∧ (d + 2 ≤ R.frames ∧ 40 * (d + 2) ≤ R.locals) ∧ (∀ L, LL = some L → va_X (sa 5) L ev s s.heap ∧ sa 5 < s.heap.size ∧ ¬ B ≤ sa 5) ∧ (∀ w ∈ xN, va_Nw w s) ∧ xStr B sa s s.heap
def xPre (B : Nat) (ev : Nat → Int32) (sa : Nat → Nat) (cA : Nat → ClassId) (D : va_G) (w : xW) (U : State) : Prop := B ≤ U.heap.size ∧ U.heap.size = B + w.length ∧ va_P D xcl (xWd B ev sa cA w) U.heap ∧ va_K D xcl (xTy cA) U ∧ (∀ w ∈ xN, va_Nw w U) ∧ xStr B sa U U.heap
def xPost (B : Nat) (ev : Nat → Int32) (sa : Nat → Nat) (cA : Nat → ClassId) (D : va_G) (r : Option Value) (w : xW) : Array Value → State → Outcome → State → Prop := fun _ st oc t => oc = .returned (r.map (xG B ev sa)) ∧ va_P D xcl (xWd B ev sa cA w) t.heap ∧ va_F (fun q => B ≤ q) st t
def xMet (l : Launch) (B : Nat) (ev : Nat → Int32) (sa : Nat → Nat) (cA : Nat → ClassId) (D : va_G) (d : Nat) (q : xM) (as : List Value) (w : xW) (r : Option Value) (w1 : xW) : Prop :=
  Met l (xmy q) (Cond.code (xmy q) (xmb q) (xml q) (xmr q) :: xT) { frames := d + 1, cells := xmc q, slots := xms q, locals := 40 * (d + 1) } (va_Pc (as.map (xG B ev sa)) (xPre B ev sa cA D w)) (xPost B ev sa cA D r w1) (xmc q) (xms q) (fun z => B ≤ z)
def xCa (l : Launch) (B : Nat) (ev : Nat → Int32) (sa : Nat → Nat) (cA : Nat → ClassId) (D : va_G) (d : Nat) (call : Nat → List Value → xW → Option (Option Value × xW)) : Prop := ∀ (j : Nat) (as : List Value) (w : xW) (z : Option Value × xW) (q : xM), call j as w = some z → xMs[j]? = some q → xMet l B ev sa cA D d q as w z.1 z.2 ∧ z.2.length = w.length + xmc q
theorem xkd0 {v : Value} (h : xkd 0 v = true) : xG B ev sa v = .int (xi ev v) := by
  cases v <;> first | rfl | cases h
theorem xkd1 {v : Value} (h : xkd 1 v = true) : xG B ev sa v = .long (xl v) := by
  cases v <;> first | rfl | cases h
theorem xkd2 {v : Value} (h : xkd 2 v = true) : ∃ a, xG B ev sa v = .ref a := by
  cases v <;> first | exact ⟨_, rfl⟩ | cases h
theorem xlv_ls {ls : Array Slot} {lv : List (Nat × Value)} {i : Nat} {v : Value} (h : lv_has ls nL (lv.map (xG2 B ev sa))) (hv : xlv lv i = some v) : ls[i]? = some (.val (xG B ev sa v)) := h.2.2 (i, xG B ev sa v) (List.mem_map.mpr ⟨(i, v), xlv_mem hv, rfl⟩)
theorem xf1_map (lv : List (Nat × Value)) (i : Nat) : (lv.map (xG2 B ev sa)).filter (fun q => !(q.1 == i) && !(q.1 + 1 == i && q.2.category == 2)) = (lv.filter (xf1 i)).map (xG2 B ev sa) := by
  rw [List.filter_map]
  congr 1
  apply List.filter_congr
  intro q _
  simp only [Function.comp, xG2, xG_cat, xf1]
theorem xf2_map (lv : List (Nat × Value)) (i : Nat) : (lv.map (xG2 B ev sa)).filter (fun q => !(q.1 == i) && (!(q.1 == i + 1) && !(q.1 + 1 == i && q.2.category == 2))) = (lv.filter (xf2 i)).map (xG2 B ev sa) := by
  rw [List.filter_map]
  congr 1
  apply List.filter_congr
  intro q _
  simp only [Function.comp, xG2, xG_cat, xf2]
theorem xlen {a b : Nat} (h : Nat.beq a b = true) : a = b := Nat.eq_of_beq_eq_true h
/-- a branch -/
theorem xBr_ok {tab : List xE} {en : xE} {cs : List xE} {op : ClassFile.Cond} {off : Int} {x y : Value} {k : List xE → Option xX} {X : xX} (hev : xEv ivs ev) (h : xBr ivs tab en cs op off x y k = some X) : ∃ (r : Bool) (cs1 : List xE), xG B ev sa x = .int (xi ev x) ∧ xG B ev sa y = .int (xi ev y) ∧ ((r = true → xrel op (xi ev x).toInt (xi ev y).toInt) ∧ (r = false → ¬ xrel op (xi ev x).toInt (xi ev y).toInt)) ∧ k cs1 = some X ∧ (r = true → (en.1 : Int) + off = (xpc cs1 : Int)) ∧ (r = false → xpc cs1 = en.1 + 3) ∧ (∀ q ∈ cs1, q ∈ tab ∨ q ∈ cs) ∧ 0 ≤ (en.1 : Int) + off := by
  obtain ⟨a, ha, h⟩ := xOp_ok h
  obtain ⟨b, hb, h⟩ := xOp_ok h
  obtain ⟨r, hr, h⟩ := xOp_ok h
  obtain ⟨h0, h⟩ := xgd_ok h
  have h0 := of_decide_eq_true h0
  have qa := xbd_ok hev ha (B := B) (sa := sa)
  have qb := xbd_ok hev hb (B := B) (sa := sa)
  have qr := xcmp_ok qa.1 qb.1 hr
  cases r with
  | true =>
    obtain ⟨cs1, h1, h2, h3⟩ := xJm_ok h
    exact ⟨true, cs1, qa.2, qb.2, qr, h2, fun _ => h1, fun h => (by cases h), fun q hq => Or.inl (h3 q hq), h0⟩
  | false =>
    obtain ⟨h1, h2⟩ := xNx_ok h
    exact ⟨false, cs, qa.2, qb.2, qr, h2, fun h => (by cases h), fun _ => h1, fun q hq => Or.inr hq, h0⟩
theorem x_icmp {op : ClassFile.Cond} {off : Int} {pc tgt : Nat} {x y : Int32} {r : Bool} {H : Heap} {locs : List Loc} {mc ms : Nat} {ls : Array Slot} {rest : List Value} (hx : p.tables.exec = Jvm.exec) (hb : c.code = cc) (hd : decode cc pc = .ok (.if_icmp op off, 3)) (hr : (r = true → xrel op x.toInt y.toInt) ∧ (r = false → ¬ xrel op x.toInt y.toInt)) (ht : r = true → (pc : Int) + off = (tgt : Int)) (hf : r = false → tgt = pc + 3) (h0 : 0 ≤ (pc : Int) + off) (G : W p l e R s m args below meth c H locs mc ms Q (F0 m tgt ls rest)) : W p l e R s m args below meth c H locs mc ms Q (F0 m pc ls (.int y :: .int x :: rest)) := by
  have h1 : (pc : Int) + off = (((pc : Int) + off).toNat : Int) := (Int.toNat_of_nonneg h0).symm
  cases r with
  | true =>
    have hq := hr.1 rfl
    have ht := ht rfl
    cases op with
    | eq => exact lv_icmp_eq hx hb hd ht (fun _ => G) (fun n => absurd (Int32.toInt_inj.mp hq) n)
    | ne => exact lv_icmp_ne hx hb hd ht (fun _ => G) (fun n => absurd (by rw [n]) hq)
    | lt => exact lv_icmp_lt hx hb hd ht (fun _ => G) (fun n => absurd (Int32.lt_iff_toInt_lt.mpr hq) n)
    | ge => exact lv_icmp_ge hx hb hd ht (fun _ => G) (fun n => absurd (Int32.le_iff_toInt_le.mpr hq) n)
    | gt => exact lv_icmp_gt hx hb hd ht (fun _ => G) (fun n => absurd (Int32.lt_iff_toInt_lt.mpr hq) n)
    | le => exact lv_icmp_le hx hb hd ht (fun _ => G) (fun n => absurd (Int32.le_iff_toInt_le.mpr hq) n)
  | false =>
    have hq := hr.2 rfl
    have hf := hf rfl
    subst hf
    cases op with
    | eq => exact lv_icmp_eq hx hb hd h1 (fun n => absurd (Int32.toInt_inj.mpr n) hq) (fun _ => G)
    | ne => exact lv_icmp_ne hx hb hd h1 (fun n => absurd (fun z => n (Int32.toInt_inj.mp z)) hq) (fun _ => G)
    | lt => exact lv_icmp_lt hx hb hd h1 (fun n => absurd (Int32.lt_iff_toInt_lt.mp n) hq) (fun _ => G)
    | ge => exact lv_icmp_ge hx hb hd h1 (fun n => absurd (Int32.le_iff_toInt_le.mp n) hq) (fun _ => G)
    | gt => exact lv_icmp_gt hx hb hd h1 (fun n => absurd (Int32.lt_iff_toInt_lt.mp n) hq) (fun _ => G)
    | le => exact lv_icmp_le hx hb hd h1 (fun n => absurd (Int32.le_iff_toInt_le.mp n) hq) (fun _ => G)
theorem x_if {op : ClassFile.Cond} {off : Int} {pc tgt : Nat} {x : Int32} {r : Bool} {H : Heap} {locs : List Loc} {mc ms : Nat} {ls : Array Slot} {rest : List Value} (hx : p.tables.exec = Jvm.exec) (hb : c.code = cc) (hd : decode cc pc = .ok (.ifCond op off, 3)) (hr : (r = true → xrel op x.toInt (0 : Int32).toInt) ∧ (r = false → ¬ xrel op x.toInt (0 : Int32).toInt)) (ht : r = true → (pc : Int) + off = (tgt : Int)) (hf : r = false → tgt = pc + 3) (h0 : 0 ≤ (pc : Int) + off) (G : W p l e R s m args below meth c H locs mc ms Q (F0 m tgt ls rest)) : W p l e R s m args below meth c H locs mc ms Q (F0 m pc ls (.int x :: rest)) := by
  have h1 : (pc : Int) + off = (((pc : Int) + off).toNat : Int) := (Int.toNat_of_nonneg h0).symm
  cases r with
  | true =>
    have hq := hr.1 rfl
    have ht := ht rfl
    cases op with
    | eq => exact lv_if_eq hx hb hd ht (fun _ => G) (fun n => absurd (Int32.toInt_inj.mp hq) n)
    | ne => exact lv_if_ne hx hb hd ht (fun _ => G) (fun n => absurd (by rw [n]) hq)
    | lt => exact lv_if_lt hx hb hd ht (fun _ => G) (fun n => absurd (Int32.lt_iff_toInt_lt.mpr hq) n)
    | ge => exact lv_if_ge hx hb hd ht (fun _ => G) (fun n => absurd (Int32.le_iff_toInt_le.mpr hq) n)
    | gt => exact lv_if_gt hx hb hd ht (fun _ => G) (fun n => absurd (Int32.lt_iff_toInt_lt.mpr hq) n)
    | le => exact lv_if_le hx hb hd ht (fun _ => G) (fun n => absurd (Int32.le_iff_toInt_le.mpr hq) n)
  | false =>
    have hq := hr.2 rfl
    have hf := hf rfl
    subst hf
    cases op with
    | eq => exact lv_if_eq hx hb hd h1 (fun n => absurd (Int32.toInt_inj.mpr n) hq) (fun _ => G)
    | ne => exact lv_if_ne hx hb hd h1 (fun n => absurd (fun z => n (Int32.toInt_inj.mp z)) hq) (fun _ => G)
    | lt => exact lv_if_lt hx hb hd h1 (fun n => absurd (Int32.lt_iff_toInt_lt.mp n) hq) (fun _ => G)
    | ge => exact lv_if_ge hx hb hd h1 (fun n => absurd (Int32.le_iff_toInt_le.mp n) hq) (fun _ => G)
    | gt => exact lv_if_gt hx hb hd h1 (fun n => absurd (Int32.lt_iff_toInt_lt.mp n) hq) (fun _ => G)
    | le => exact lv_if_le hx hb hd h1 (fun n => absurd (Int32.le_iff_toInt_le.mp n) hq) (fun _ => G)
/-- a local is stored -/
theorem x_st1 {ls : Array Slot} {lv : List (Nat × Value)} {i : Nat} {v : Value} : (i, xG B ev sa v) :: (lv.map (xG2 B ev sa)).filter (fun q => !(q.1 == i) && !(q.1 + 1 == i && q.2.category == 2)) = ((i, v) :: lv.filter (xf1 i)).map (xG2 B ev sa) := by
  rw [xf1_map]; rfl
theorem x_st2 {ls : Array Slot} {lv : List (Nat × Value)} {i : Nat} {v : Value} : (i, xG B ev sa v) :: (lv.map (xG2 B ev sa)).filter (fun q => !(q.1 == i) && (!(q.1 == i + 1) && !(q.1 + 1 == i && q.2.category == 2))) = ((i, v) :: lv.filter (xf2 i)).map (xG2 B ev sa) := by
  rw [xf2_map]; rfl
theorem x_in {i : Int32} {n : Nat} (h : xin i n = true) : vp_in i n := by
  unfold xin at h
  rw [Bool.and_eq_true, decide_eq_true_eq, decide_eq_true_eq] at h
  exact vp_in_iff.mpr h
theorem x_hin {q : vw_C} {ci : Nat} (h : xcl[ci]? = some q) : ∀ w ∈ u_ws q.1 q.2.1 q.2.2, w ∈ xT := by
  obtain ⟨ty, fs, -, -, h1, -⟩ := x_cls ci q h
  exact h1
/-- what a step answers -/
def xRs (p : Program) (l : Launch) (e : Env) (R : Room) (s : State) (m : MethodId) (args : Array Value) (below : List Frame) (meth : Method) (c : Code) (Q : State → Prop) (own : String) (ini : Bool) (cc : ByteArray) (nL B : Nat) (ev : Nat → Int32) (sa : Nat → Nat) (cA : Nat → ClassId) (D : va_G) (k : xX → Option xX) (X' : xX) (cs : List xE) (lv : List (Nat × Value)) (st : List Value) (w : xW) (mc ms : Nat) : Prop := X' = (cs, lv, st, w, mc, ms) ∨ ∃ (cs1 : List xE) (lv1 : List (Nat × Value)) (st1 : List Value) (w1 : xW) (mc1 ms1 : Nat), k (cs1, lv1, st1, w1, mc1, ms1) = some X' ∧ (∀ q ∈ cs1, xOK own ini cc q) ∧ (xGd p l e R s m args below meth c Q nL B ev sa cA D cs1 lv1 st1 w1 mc1 ms1 → xGd p l e R s m args below meth c Q nL B ev sa cA D cs lv st w mc ms)
end XS

