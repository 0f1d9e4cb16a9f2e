/-! one step of the executor -/
-- the shapes of a stack
def xBI (st : List Value) (k : Int32 → Int32 → List Value → Option xX) : Option xX := match st with
  | .int y :: .int x :: r => k x y r
  | _ => none
theorem xBI_ok {st : List Value} {k : Int32 → Int32 → List Value → Option xX} {X : xX} (h : xBI st k = some X) : ∃ x y r, st = .int y :: .int x :: r ∧ k x y r = some X := by
  unfold xBI at h
  split at h
  · exact ⟨_, _, _, rfl, h⟩
  · cases h
def xBL (st : List Value) (k : Int64 → Int64 → List Value → Option xX) : Option xX := match st with
  | .long y :: .long x :: r => k x y r
  | _ => none
theorem xBL_ok {st : List Value} {k : Int64 → Int64 → List Value → Option xX} {X : xX} (h : xBL st k = some X) : ∃ x y r, st = .long y :: .long x :: r ∧ k x y r = some X := by
  unfold xBL at h
  split at h
  · exact ⟨_, _, _, rfl, h⟩
  · cases h
def xUI (st : List Value) (k : Int32 → List Value → Option xX) : Option xX := match st with
  | .int x :: r => k x r
  | _ => none
theorem xUI_ok {st : List Value} {k : Int32 → List Value → Option xX} {X : xX} (h : xUI st k = some X) : ∃ x r, st = .int x :: r ∧ k x r = some X := by
  unfold xUI at h
  split at h
  · exact ⟨_, _, rfl, h⟩
  · cases h
def xUL (st : List Value) (k : Int64 → List Value → Option xX) : Option xX := match st with
  | .long x :: r => k x r
  | _ => none
theorem xUL_ok {st : List Value} {k : Int64 → List Value → Option xX} {X : xX} (h : xUL st k = some X) : ∃ x r, st = .long x :: r ∧ k x r = some X := by
  unfold xUL at h
  split at h
  · exact ⟨_, _, rfl, h⟩
  · cases h
def xV1 (st : List Value) (k : Value → List Value → Option xX) : Option xX := match st with
  | v :: r => k v r
  | _ => none
theorem xV1_ok {st : List Value} {k : Value → List Value → Option xX} {X : xX} (h : xV1 st k = some X) : ∃ v r, st = v :: r ∧ k v r = some X := by
  unfold xV1 at h
  split at h
  · exact ⟨_, _, rfl, h⟩
  · cases h
def xRf (st : List Value) (k : Nat → List Value → Option xX) : Option xX := match st with
  | .ref a :: r => k a r
  | _ => none
theorem xRf_ok {st : List Value} {k : Nat → List Value → Option xX} {X : xX} (h : xRf st k = some X) : ∃ a r, st = .ref a :: r ∧ k a r = some X := by
  unfold xRf at h
  split at h
  · exact ⟨_, _, rfl, h⟩
  · cases h
noncomputable def xOb (w : xW) (a : Nat) (k : Nat → List Value → Option xX) : Option xX := match xnth w a with
  | some (.inr q) => k q.1 q.2
  | _ => none
theorem xOb_ok {w : xW} {a : Nat} {k : Nat → List Value → Option xX} {X : xX} (h : xOb w a k = some X) : ∃ ci fs, w[a]? = some (.inr (ci, fs)) ∧ k ci fs = some X := by
  unfold xOb at h
  rw [xnth_eq] at h
  split at h
  · rename_i q hq
    exact ⟨q.1, q.2, hq, h⟩
  · cases h
noncomputable def xAy (w : xW) (a : Nat) (k : Nat → Nat → List (Nat × Value) → Option xX) : Option xX := match xnth w a with
  | some (.inl q) => k q.1 q.2.1 q.2.2
  | _ => none
theorem xAy_ok {w : xW} {a : Nat} {k : Nat → Nat → List (Nat × Value) → Option xX} {X : xX} (h : xAy w a k = some X) : ∃ t n es, w[a]? = some (.inl (t, n, es)) ∧ k t n es = some X := by
  unfold xAy at h
  rw [xnth_eq] at h
  split at h
  · rename_i q hq
    exact ⟨q.1, q.2.1, q.2.2, hq, h⟩
  · cases h
def xgd (b : Bool) (o : Option xX) : Option xX := cond b o none
theorem xgd_ok {b : Bool} {o : Option xX} {X : xX} (h : xgd b o = some X) : b = true ∧ o = some X := by
  cases b with
  | true => exact ⟨rfl, h⟩
  | false => cases h
def xOp {α : Type} (o : Option α) (k : α → Option xX) : Option xX := match o with
  | some v => k v
  | none => none
theorem xOp_ok {α : Type} {o : Option α} {k : α → Option xX} {X : xX} (h : xOp o k = some X) : ∃ v, o = some v ∧ k v = some X := by
  cases o with
  | none => cases h
  | some v => exact ⟨v, rfl, h⟩
-- pieces of a step
noncomputable def xLd (en : xE) (cs : List xE) (lv : List (Nat × Value)) (st : List Value) (w : xW) (mc ms : Nat) (k : xX → Option xX) (t i : Nat) : Option xX := xOp (xlv lv i) fun v => xgd (xkd t v) (xPu en cs lv w mc ms k v st)
def xf1 (i : Nat) (q : Nat × Value) : Bool := !(q.1 == i) && !(q.1 + 1 == i && q.2.category == 2)
def xf2 (i : Nat) (q : Nat × Value) : Bool := !(q.1 == i) && (!(q.1 == i + 1) && !(q.1 + 1 == i && q.2.category == 2))
noncomputable def xSt (nL : Nat) (en : xE) (cs : List xE) (lv : List (Nat × Value)) (st : List Value) (w : xW) (mc ms : Nat) (k : xX → Option xX) (t i : Nat) : Option xX := xV1 st fun v r => xgd (xkd t v && Nat.ble (i + 1) nL) (xfil (xf1 i) lv fun lv' => xNx cs (en.1 + en.2.2.1) fun cs => k (cs, (i, v) :: lv', r, w, mc, ms))
noncomputable def xSt2 (nL : Nat) (en : xE) (cs : List xE) (lv : List (Nat × Value)) (st : List Value) (w : xW) (mc ms : Nat) (k : xX → Option xX) (i : Nat) : Option xX := xV1 st fun v r => xgd (xkd 1 v && Nat.ble (i + 2) nL) (xfil (xf2 i) lv fun lv' => xNx cs (en.1 + en.2.2.1) fun cs => k (cs, (i, v) :: lv', r, w, mc, ms))
noncomputable def xIn (nL : Nat) (en : xE) (cs : List xE) (lv : List (Nat × Value)) (st : List Value) (w : xW) (mc ms : Nat) (k : xX → Option xX) (i : Nat) (n : Int) : Option xX := xOp (xlv lv i) fun v => xUI [v] fun x _ => xgd (Nat.ble (i + 1) nL) (fI (x + Int32.ofInt n) fun y => xfil (xf1 i) lv fun lv' => xNx cs (en.1 + en.2.2.1) fun cs => k (cs, (i, .int y) :: lv', st, w, mc, ms))
noncomputable def xJm (tab : List xE) (pc : Nat) (off : Int) (k : List xE → Option xX) : Option xX := xgd (decide (0 ≤ (pc : Int) + off)) (xJ tab ((pc : Int) + off).toNat k)
theorem xJm_ok {tab : List xE} {pc : Nat} {off : Int} {k : List xE → Option xX} {X : xX} (h : xJm tab pc off k = some X) : ∃ cs, (pc : Int) + off = (xpc cs : Int) ∧ k cs = some X ∧ ∀ q ∈ cs, q ∈ tab := by
  obtain ⟨h1, h2⟩ := xgd_ok h
  obtain ⟨cs, h3, h4, h5⟩ := xJ_ok h2
  have h1 := of_decide_eq_true h1
  exact ⟨cs, by rw [h3]; omega, h4, h5⟩
noncomputable def xBr (ivs : List (Int × Int)) (tab : List xE) (en : xE) (cs : List xE) (op : ClassFile.Cond) (off : Int) (x y : Value) (k : List xE → Option xX) : Option xX := xOp (xbd ivs x) fun a => xOp (xbd ivs y) fun b => xOp (xcmp op a b) fun r => xgd (decide (0 ≤ (en.1 : Int) + off)) (cond r (xJm tab en.1 off k) (xNx cs (en.1 + 3) k))
noncomputable def xTw (ivs : List (Int × Int)) (tab : List xE) (en : xE) (x : Value) (d lo hi : Int) (offs : Array Int) (k : List xE → Option xX) : Option xX := xOp (xbd ivs x) fun a => cond (decide (a.1 = a.2) && (decide (lo ≤ a.1) && decide (a.1 ≤ hi))) (xOp (xnth offs.toList (a.1 - lo).toNat) fun off => xJm tab en.1 off k) (xgd (decide (a.2 < lo) || decide (hi < a.1)) (xJm tab en.1 d k))
def xft : Nat → Value → Bool
  | 0, v => xkd 0 v
  | 1, v => xkd 1 v
  | 3, .int x => decide (x = 0) || decide (x = 1)
  | 4, v => xkd 2 v
  | _, _ => false
def xin (i : Int32) (n : Nat) : Bool := decide (0 ≤ i.toInt) && decide (i.toInt < n)
def xsp : Nat → List Value → List Value → (List Value → List Value → Option xX) → Option xX
  | 0, as, st, k => k as st
  | n + 1, as, st, k => match st with
    | [] => none
    | v :: r => xsp n (v :: as) r k
noncomputable def xCl (MC MS : Nat) (call : Nat → List Value → xW → Option (Option Value × xW)) (en : xE) (cs : List xE) (lv : List (Nat × Value)) (w : xW) (mc ms : Nat) (k : xX → Option xX) (q : xM) (as : List Value) (r : List Value) : Option xX := xgd (Nat.ble ((r.map fun v => v.category).sum) 8 && (Nat.ble (mc + xmc q) MC && Nat.ble (ms + xms q) MS)) (xOp (call (xa3 en) as w) fun z => fN (mc + xmc q) fun mc1 => fN (ms + xms q) fun ms1 => xNx cs (en.1 + 3) fun cs => k (cs, lv, z.1.toList ++ r, z.2, mc1, ms1))
noncomputable def xVi (MC MS : Nat) (call : Nat → List Value → xW → Option (Option Value × xW)) (en : xE) (cs : List xE) (lv : List (Nat × Value)) (st : List Value) (w : xW) (mc ms : Nat) (k : xX → Option xX) : Option xX := xOp (xnth xMs (xa3 en)) fun q => xsp (xmn q) [] st fun as r => xRf r fun a r => xOb w a fun ci _ => xgd (Nat.beq ci (xmk q)) (xCl MC MS call en cs lv w mc ms k q (.ref a :: as) r)
noncomputable def xSi (MC MS : Nat) (call : Nat → List Value → xW → Option (Option Value × xW)) (en : xE) (cs : List xE) (lv : List (Nat × Value)) (st : List Value) (w : xW) (mc ms : Nat) (k : xX → Option xX) : Option xX := xOp (xnth xMs (xa3 en)) fun q => xsp (xmn q) [] st fun as r => xCl MC MS call en cs lv w mc ms k q as r
noncomputable def xNw (MC MS : Nat) (en : xE) (cs : List xE) (lv : List (Nat × Value)) (w : xW) (mc ms : Nat) (k : xX → Option xX) (c : xC) (n : Nat) (r : List Value) : Option xX := xgd (Nat.ble (mc + 1) MC && Nat.ble (ms + n) MS) (fN w.length fun h => fN (mc + 1) fun mc1 => fN (ms + n) fun ms1 => appK w c fun w1 => xNx cs (en.1 + en.2.2.1) fun cs => k (cs, lv, .ref h :: r, w1, mc1, ms1))
noncomputable def xMa (w : xW) (h K : Nat) (k : xW → Option xX) : Option xX := appK w (.inl (4, 6, [(0, .ref (h + 1)), (1, .ref (h + 2)), (2, .ref (h + 3)), (3, .ref (h + 4)), (4, .ref (h + 5)), (5, .ref (h + 6))])) fun w => appK w (.inl (1, K, [])) fun w => appK w (.inl (1, K, [])) fun w => appK w (.inl (1, K, [])) fun w => appK w (.inl (1, K, [])) fun w => appK w (.inl (1, K, [])) fun w => appK w (.inl (1, K, [])) k
set_option maxRecDepth 100000 in
theorem ws_jl : Cond.arrayClass .long ∈ xT := xw_mem (i := 205) (by decide +kernel)
noncomputable def xS (LL : Option Nat) (ivs : List (Int × Int)) (nL MC MS : Nat) (call : Nat → List Value → xW → Option (Option Value × xW)) (tab : List xE) (X : xX) (k : xX → Option xX) : Option xX := match X with
  | ([], _) => none
  | (en :: cs, lv, st, w, mc, ms) => match en.2.1 with
    | .iconst n => xPu en cs lv w mc ms k (.int (Int32.ofInt n)) st
    | .bipush n => xPu en cs lv w mc ms k (.int (Int8.ofInt n).toInt32) st
    | .sipush n => xPu en cs lv w mc ms k (.int (Int16.ofInt n).toInt32) st
    | .lconst n => xPu en cs lv w mc ms k (.long (Int64.ofNat n.val)) st
    | .ldc _ => cond (Nat.beq (xa3 en) 1) (xgd (Nat.ble (xa2 en) 4) (xPu en cs lv w mc ms k (.retAddr (xa2 en)) st)) (xPu en cs lv w mc ms k (.int (Int32.ofNat (xa2 en))) st)
    | .ldc_w _ => cond (Nat.beq (xa3 en) 1) none (xPu en cs lv w mc ms k (.int (Int32.ofNat (xa2 en))) st)
    | .ldc2_w _ => xPu en cs lv w mc ms k (.long (Int64.ofNat (xa2 en))) st
    | .iload_n i => xLd en cs lv st w mc ms k 0 i.val
    | .iload i => xLd en cs lv st w mc ms k 0 i
    | .lload_n i => xLd en cs lv st w mc ms k 1 i.val
    | .lload i => xLd en cs lv st w mc ms k 1 i
    | .aload_n i => xLd en cs lv st w mc ms k 2 i.val
    | .aload i => xLd en cs lv st w mc ms k 2 i
    | .istore_n i => xSt nL en cs lv st w mc ms k 0 i.val
    | .istore i => xSt nL en cs lv st w mc ms k 0 i
    | .astore_n i => xSt nL en cs lv st w mc ms k 2 i.val
    | .astore i => xSt nL en cs lv st w mc ms k 2 i
    | .lstore_n i => xSt2 nL en cs lv st w mc ms k i.val
    | .lstore i => xSt2 nL en cs lv st w mc ms k i
    | .iinc i n => xIn nL en cs lv st w mc ms k i n
    | .iadd => xBI st fun x y r => xPu en cs lv w mc ms k (.int (x + y)) r
    | .isub => xBI st fun x y r => xPu en cs lv w mc ms k (.int (x - y)) r
    | .imul => xBI st fun x y r => xPu en cs lv w mc ms k (.int (x * y)) r
    | .ior => xBI st fun x y r => xPu en cs lv w mc ms k (.int (x ||| y)) r
    | .ixor => xBI st fun x y r => xPu en cs lv w mc ms k (.int (x ^^^ y)) r
    | .ishl => xBI st fun x y r => xPu en cs lv w mc ms k (.int (x <<< (y &&& 31))) r
    | .ishr => xBI st fun x y r => xPu en cs lv w mc ms k (.int (x >>> (y &&& 31))) r
    | .idiv => xBI st fun x y r => xgd (!decide (y = 0)) (xPu en cs lv w mc ms k (.int (x / y)) r)
    | .irem => xBI st fun x y r => xgd (!decide (y = 0)) (xPu en cs lv w mc ms k (.int (x - x / y * y)) r)
    | .iand => xUI st fun y r => xV1 r fun v r => (match v with
      | .int x => xPu en cs lv w mc ms k (.int (x &&& y)) r
      | .float q => xgd (decide (y = 63) && Nat.beq q.toNat 0) (xPu en cs lv w mc ms k (.float 4) r)
      | _ => none)
    | .ladd => xBL st fun x y r => xPu en cs lv w mc ms k (.long (x + y)) r
    | .lsub => xBL st fun x y r => xPu en cs lv w mc ms k (.long (x - y)) r
    | .lmul => xBL st fun x y r => xPu en cs lv w mc ms k (.long (x * y)) r
    | .ldiv => xBL st fun x y r => xgd (!decide (y = 0)) (xPu en cs lv w mc ms k (.long (x / y)) r)
    | .lrem => xBL st fun x y r => xgd (!decide (y = 0)) (xPu en cs lv w mc ms k (.long (x - x / y * y)) r)
    | .lcmp => xBL st fun x y r => xPu en cs lv w mc ms k (.int (lg_cmp x y)) r
    | .ineg => xUI st fun x r => xPu en cs lv w mc ms k (.int (-x)) r
    | .lneg => xUL st fun x r => xPu en cs lv w mc ms k (.long (-x)) r
    | .i2l => xUI st fun x r => xPu en cs lv w mc ms k (.long x.toInt64) r
    | .l2i => xUL st fun x r => xPu en cs lv w mc ms k (.int x.toInt32) r
    | .i2b => xUI st fun x r => xPu en cs lv w mc ms k (.int x.toInt8.toInt32) r
    | .dup => xV1 st fun v r => xgd (Nat.beq v.category 1) (xNx cs (en.1 + en.2.2.1) fun cs => k (cs, lv, v :: v :: r, w, mc, ms))
    | .dup2 => xV1 st fun v r => xV1 r fun u r => xgd (Nat.beq v.category 1 && Nat.beq u.category 1) (xNx cs (en.1 + en.2.2.1) fun cs => k (cs, lv, v :: u :: v :: u :: r, w, mc, ms))
    | .pop => xV1 st fun v r => xgd (Nat.beq v.category 1) (xNx cs (en.1 + en.2.2.1) fun cs => k (cs, lv, r, w, mc, ms))
    | .if_icmp op off => xV1 st fun y r => xV1 r fun x r => xBr ivs tab en cs op off x y fun cs => k (cs, lv, r, w, mc, ms)
    | .ifCond op off => xV1 st fun x r => xBr ivs tab en cs op off x (.int 0) fun cs => k (cs, lv, r, w, mc, ms)
    | .goto off => xJm tab en.1 off fun cs => k (cs, lv, st, w, mc, ms)
    | .tableswitch d lo hi offs => xV1 st fun x r => xTw ivs tab en x d lo hi offs fun cs => k (cs, lv, r, w, mc, ms)
    | .getfield _ => xRf st fun a r => xOb w a fun ci fs => xgd (Nat.beq ci (xa2 en / 100)) (xOp (xnth fs (xa2 en % 100)) fun v => xPu en cs lv w mc ms k v r)
    | .putfield _ => xV1 st fun v r => xRf r fun a r => xOb w a fun ci fs => xgd (Nat.beq ci (xa2 en / 100) && (Nat.ble (xa2 en % 100 + 1) fs.length && xft (xa3 en) v)) (setK fs (xa2 en % 100) v fun fs1 => setK w a (.inr (ci, fs1)) fun w1 => xNx cs (en.1 + en.2.2.1) fun cs => k (cs, lv, r, w1, mc, ms))
    | .new _ => xOp (xnth xdf (xa2 en)) fun fs => xNw MC MS en cs lv w mc ms k (.inr (xa2 en, fs)) fs.length st
    | .newarray _ => xUI st fun n r => xgd (decide (0 ≤ n.toInt) && decide (n.toInt ≤ 60000)) (fN n.toNatClampNeg fun N => xNw MC MS en cs lv w mc ms k (.inl (xa2 en, N, [])) N r)
    | .multianewarray _ _ => xUI st fun kk r => xUI r fun n r => xgd (decide (n = 6) && (decide (0 ≤ kk.toInt) && (decide (kk.toInt ≤ 1000) && (Nat.ble (mc + 7) MC && Nat.ble (ms + (6 + 6 * kk.toNatClampNeg)) MS)))) (fN kk.toNatClampNeg fun K => fN w.length fun h => fN (mc + 7) fun mc1 => fN (ms + (6 + 6 * K)) fun ms1 => xMa w h K fun w1 => xNx cs (en.1 + en.2.2.1) fun cs => k (cs, lv, .ref h :: r, w1, mc1, ms1))
    | .iaload => xUI st fun i r => xV1 r fun v r => (match v with
      | .ref a => xAy w a fun t n es => xgd (Nat.beq t 0 && (xin i n && xkd 0 (xlk es (.int 0) i.toNatClampNeg))) (xPu en cs lv w mc ms k (xlk es (.int 0) i.toNatClampNeg) r)
      | .retAddr q => xOp LL fun L => xgd (Nat.beq q 5 && (xin i L && Nat.ble i.toNatClampNeg 3)) (fN i.toNatClampNeg fun j => xOp (xnth ivs j) fun iv => cond (decide (iv.1 = iv.2)) (xPu en cs lv w mc ms k (.int (Int32.ofInt iv.1)) r) (xPu en cs lv w mc ms k (.float (UInt32.ofNat j)) r))
      | _ => none)
    | .baload => xUI st fun i r => xRf r fun a r => xAy w a fun t n es => xgd ((Nat.beq t 2 || Nat.beq t 3) && (xin i n && xkd 0 (xlk es (.int 0) i.toNatClampNeg))) (xPu en cs lv w mc ms k (xlk es (.int 0) i.toNatClampNeg) r)
    | .laload => xUI st fun i r => xRf r fun a r => xAy w a fun t n es => xgd (Nat.beq t 1 && (xin i n && xkd 1 (xlk es (.long 0) i.toNatClampNeg))) (xPu en cs lv w mc ms k (xlk es (.long 0) i.toNatClampNeg) r)
    | .iastore => xV1 st fun v r => xUI r fun i r => xRf r fun a r => xAy w a fun t n es => xgd (Nat.beq t 0 && (xin i n && xkd 0 v)) (fN i.toNatClampNeg fun j => setK w a (.inl (t, n, (j, v) :: es)) fun w1 => xNx cs (en.1 + en.2.2.1) fun cs => k (cs, lv, r, w1, mc, ms))
    | .lastore => xV1 st fun v r => xUI r fun i r => xRf r fun a r => xAy w a fun t n es => xgd (Nat.beq t 1 && (xin i n && xkd 1 v)) (fN i.toNatClampNeg fun j => setK w a (.inl (t, n, (j, v) :: es)) fun w1 => xNx cs (en.1 + en.2.2.1) fun cs => k (cs, lv, r, w1, mc, ms))
    | .bastore => xUI st fun x r => xUI r fun i r => xRf r fun a r => xAy w a fun t n es => xgd (Nat.beq t 2 && xin i n) (fN i.toNatClampNeg fun j => fI (vp_nar .byte x) fun y => setK w a (.inl (t, n, (j, .int y) :: es)) fun w1 => xNx cs (en.1 + en.2.2.1) fun cs => k (cs, lv, r, w1, mc, ms))
    | .arraylength => xV1 st fun v r => (match v with
      | .retAddr q => xOp LL fun L => xgd (Nat.beq q 5) (xPu en cs lv w mc ms k (.int (Int32.ofNat L)) r)
      | _ => none)
    | .checkcast _ => xRf st fun a r => xAy w a fun t _ _ => xgd (Nat.beq t 0) (xNx cs (en.1 + en.2.2.1) fun cs => k (cs, lv, .ref a :: r, w, mc, ms))
    | .invokevirtual _ => (match xa2 en with
      | 0 => xVi MC MS call en cs lv st w mc ms k
      | 1 => xVi MC MS call en cs lv st w mc ms k
      | 10 => xRf st fun a r => xAy w a fun t n es => xgd (Nat.beq t 0 && Nat.ble ((r.map fun v => v.category).sum) 8) (xNw MC MS en cs lv w mc ms k (.inl (t, n, es)) n r)
      | 12 => xV1 st fun v r => (match v with
        | .retAddr q => xgd (Nat.ble q 4 && (Nat.ble ((r.map fun v => v.category).sum) 8 && (Nat.ble mc MC && Nat.ble ms MS))) (xPu en cs lv w mc ms k (.int (nI (xsl.getD q 0))) r)
        | _ => none)
      | _ => none)
    | .invokestatic _ => (match xa2 en with
      | 2 => xSi MC MS call en cs lv st w mc ms k
      | 3 => xSi MC MS call en cs lv st w mc ms k
      | 7 => xBI st fun x y r => xgd (Nat.ble ((r.map fun v => v.category).sum) 8 && (Nat.ble mc MC && Nat.ble ms MS)) (xPu en cs lv w mc ms k (.int (if x < y then y else x)) r)
      | 11 => xBI st fun x y r => xgd (Nat.ble ((r.map fun v => v.category).sum) 8 && (Nat.ble mc MC && Nat.ble ms MS)) (xPu en cs lv w mc ms k (.int (if y < x then y else x)) r)
      | 9 => xUI st fun n r => xUI r fun dp r => xRf r fun a r => xUI r fun sp r => xRf r fun a0 r => xAy w a0 fun t0 n0 es0 => xAy w a fun t n1 es => xgd (Nat.beq t0 0 && (Nat.beq t 0 && (Nat.beq es0.length 0 && (Nat.beq es.length 0 && (decide (sp = 0) && (decide (dp = 0) && (decide (0 ≤ n.toInt) && (Nat.ble n.toNatClampNeg n0 && (Nat.ble n.toNatClampNeg n1 && Nat.ble ((r.map fun v => v.category).sum) 8))))))))) (xNx cs (en.1 + 3) fun cs => k (cs, lv, r, w, mc, ms))
      | 8 => xUL st fun x r => xgd (Nat.ble ((r.map fun v => v.category).sum) 8 && (Nat.ble mc MC && Nat.ble ms MS)) (xPu en cs lv w mc ms k (.long (if 0 < x then x else -x)) r)
      | _ => none)
    | .invokespecial _ => (match xa2 en with
      | 4 => xVi MC MS call en cs lv st w mc ms k
      | 5 => xVi MC MS call en cs lv st w mc ms k
      | 6 => xRf st fun _ r => xgd (Nat.ble ((r.map fun v => v.category).sum) 8) (xNx cs (en.1 + 3) fun cs => k (cs, lv, r, w, mc, ms))
      | _ => none)
    | .ireturn => some X
    | .lreturn => some X
    | .areturn => some X
    | .return_ => some X
    | _ => none
noncomputable def xGo (LL : Option Nat) (ivs : List (Int × Int)) (nL MC MS : Nat) (call : Nat → List Value → xW → Option (Option Value × xW)) (tab : List xE) (n : Nat) : xX → Option xX := Nat.rec (motive := fun _ => xX → Option xX) (fun X => some X) (fun _ ih X => xS LL ivs nL MC MS call tab X ih) n
