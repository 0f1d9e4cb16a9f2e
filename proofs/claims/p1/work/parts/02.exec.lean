/-! an executor over abstract cells: forcing, tables, one step, runs -/
abbrev xC : Type := (Nat × Nat × List (Nat × Value)) ⊕ (Nat × List Value)
abbrev xW : Type := List xC
abbrev xX : Type := List xE × List (Nat × Value) × List Value × xW × Nat × Nat
noncomputable def fN {α : Type} (n : Nat) (k : Nat → α) : α := Nat.rec (motive := fun _ => α) (k 0) (fun m _ => k (Nat.succ m)) n
theorem fN_eq {α : Type} (n : Nat) (k : Nat → α) : fN n k = k n := by cases n <;> rfl
noncomputable def fI {α : Type} (x : Int32) (k : Int32 → α) : α := fN x.toBitVec.toNat fun n => k (Int32.ofNat n)
theorem fI_eq {α : Type} (x : Int32) (k : Int32 → α) : fI x k = k x := by
  have h : Int32.ofNat x.toBitVec.toNat = x := by
    apply Int32.toBitVec_inj.mp
    simp
  unfold fI
  rw [fN_eq, h]
noncomputable def fL {α : Type} (x : Int64) (k : Int64 → α) : α := fN x.toBitVec.toNat fun n => k (Int64.ofNat n)
theorem fL_eq {α : Type} (x : Int64) (k : Int64 → α) : fL x k = k x := by
  have h : Int64.ofNat x.toBitVec.toNat = x := by
    apply Int64.toBitVec_inj.mp
    simp
  unfold fL
  rw [fN_eq, h]
noncomputable def fV {α : Type} (v : Value) (k : Value → α) : α := match v with
  | .int x => fI x fun y => k (.int y)
  | .long x => fL x fun y => k (.long y)
  | v => k v
theorem fV_eq {α : Type} (v : Value) (k : Value → α) : fV v k = k v := by
  cases v with
  | int x => exact fI_eq x fun y => k (.int y)
  | long x => exact fL_eq x fun y => k (.long y)
  | _ => rfl
noncomputable def xnth {α : Type} (l : List α) : Nat → Option α := List.rec (motive := fun _ => Nat → Option α) (fun _ => none) (fun a _ ih n => Nat.rec (motive := fun _ => Option α) (some a) (fun m _ => ih m) n) l
theorem xnth_eq {α : Type} (l : List α) : ∀ n : Nat, xnth l n = l[n]? := by
  induction l with
  | nil => intro n; rfl
  | cons a l ih =>
    intro n
    cases n with
    | zero => rfl
    | succ n => rw [List.getElem?_cons_succ, ← ih n]; rfl
noncomputable def setK {α β : Type} (l : List α) : Nat → α → (List α → β) → β := List.rec (motive := fun _ => Nat → α → (List α → β) → β) (fun _ _ k => k []) (fun a l ih n c k => Nat.rec (motive := fun _ => β) (k (c :: l)) (fun m _ => ih m c fun r => k (a :: r)) n) l
theorem setK_eq {α β : Type} (l : List α) : ∀ (n : Nat) (c : α) (k : List α → β), setK l n c k = k (l.set n c) := by
  induction l with
  | nil => intro n c k; rfl
  | cons a l ih =>
    intro n c k
    cases n with
    | zero => rfl
    | succ n => exact ih n c _
noncomputable def appK {α β : Type} (l : List α) (c : α) : (List α → β) → β := List.rec (motive := fun _ => (List α → β) → β) (fun k => k [c]) (fun a _ ih k => ih fun r => k (a :: r)) l
theorem appK_eq {α β : Type} (l : List α) (c : α) : ∀ k : List α → β, appK l c k = k (l ++ [c]) := by
  induction l with
  | nil => intro k; rfl
  | cons a l ih => intro k; exact ih _
noncomputable def xfil {α β : Type} (f : α → Bool) (l : List α) : (List α → β) → β := List.rec (motive := fun _ => (List α → β) → β) (fun k => k []) (fun a _ ih k => cond (f a) (ih fun r => k (a :: r)) (ih k)) l
theorem xfil_eq {α β : Type} (f : α → Bool) (l : List α) : ∀ k : List α → β, xfil f l k = k (l.filter f) := by
  induction l with
  | nil => intro k; rfl
  | cons a l ih =>
    intro k
    show cond (f a) (xfil f l fun r => k (a :: r)) (xfil f l k) = _
    rw [ih, ih, List.filter_cons]
    cases f a <;> rfl
noncomputable def xlv (l : List (Nat × Value)) (i : Nat) : Option Value := List.rec (motive := fun _ => Option Value) none (fun q _ ih => cond (Nat.beq q.1 i) (some q.2) ih) l
theorem xlv_mem {l : List (Nat × Value)} {i : Nat} {v : Value} (h : xlv l i = some v) : (i, v) ∈ l := by
  induction l with
  | nil => cases h
  | cons q l ih =>
    have h : cond (Nat.beq q.1 i) (some q.2) (xlv l i) = some v := h
    cases hb : Nat.beq q.1 i with
    | true =>
      rw [hb] at h
      have h1 := Nat.eq_of_beq_eq_true hb
      obtain ⟨a, b⟩ := q
      cases h
      cases h1
      exact List.mem_cons_self
    | false =>
      rw [hb] at h
      exact List.mem_cons_of_mem _ (ih h)
noncomputable def xlk (es : List (Nat × Value)) (d : Value) (j : Nat) : Value := List.rec (motive := fun _ => Value) d (fun q _ ih => cond (Nat.beq q.1 j) q.2 ih) es
def xi (ev : Nat → Int32) : Value → Int32
  | .int x => x
  | .float k => ev k.toNat
  | _ => 0
def xl : Value → Int64
  | .long x => x
  | _ => 0
def xr (B : Nat) : Value → Option Nat
  | .ref k => some (B + k)
  | _ => none
def xG (B : Nat) (ev : Nat → Int32) (sa : Nat → Nat) : Value → Value
  | .float k => .int (ev k.toNat)
  | .retAddr k => .ref (sa k)
  | .ref k => .ref (B + k)
  | v => v
def xG2 (B : Nat) (ev : Nat → Int32) (sa : Nat → Nat) (q : Nat × Value) : Nat × Value := (q.1, xG B ev sa q.2)
noncomputable def xAr (B : Nat) (ev : Nat → Int32) (a : Nat × Nat × List (Nat × Value)) : vp_A := (a.2.1, match a.1 with
  | 1 => .inr (.inl fun j => xl (xlk a.2.2 (.long 0) j))
  | 4 => .inr (.inr (.inr (.inr fun j => xr B (xlk a.2.2 .null j))))
  | _ => .inl fun j => xi ev (xlk a.2.2 (.int 0) j))
noncomputable def xCe (B : Nat) (ev : Nat → Int32) (sa : Nat → Nat) (cA : Nat → ClassId) : xC → va_E
  | .inl a => .inl (cA a.1, xAr B ev a)
  | .inr o => .inr (o.1, o.2.map (xG B ev sa))
noncomputable def xWd (B : Nat) (ev : Nat → Int32) (sa : Nat → Nat) (cA : Nat → ClassId) (w : xW) : va_W := w.mapIdx fun k c => (B + k, xCe B ev sa cA c)
def xTy (cA : Nat → ClassId) : List (ClassId × FieldType) := [(cA 0, .int), (cA 1, .long), (cA 2, .byte), (cA 3, .boolean), (cA 4, .array .long)]
theorem xWd_get {B : Nat} {ev : Nat → Int32} {sa : Nat → Nat} {cA : Nat → ClassId} {w : xW} {k : Nat} {c : xC} (h : w[k]? = some c) : (xWd B ev sa cA w)[k]? = some (B + k, xCe B ev sa cA c) := by
  unfold xWd
  rw [List.getElem?_mapIdx, h]
  rfl
theorem xWd_set {B : Nat} {ev : Nat → Int32} {sa : Nat → Nat} {cA : Nat → ClassId} (w : xW) (k : Nat) (c : xC) : (xWd B ev sa cA w).set k (B + k, xCe B ev sa cA c) = xWd B ev sa cA (w.set k c) := by
  unfold xWd
  apply List.ext_getElem?
  intro i
  rw [List.getElem?_mapIdx, List.getElem?_set, List.getElem?_set, List.getElem?_mapIdx, List.length_mapIdx]
  by_cases hk : k = i
  · subst hk
    by_cases hl : k < w.length <;> simp [hl]
  · simp [hk]
theorem xWd_app {B : Nat} {ev : Nat → Int32} {sa : Nat → Nat} {cA : Nat → ClassId} (w : xW) (c : xC) : xWd B ev sa cA (w ++ [c]) = xWd B ev sa cA w ++ [(B + w.length, xCe B ev sa cA c)] := by
  unfold xWd
  rw [List.mapIdx_concat]
theorem xWd_D {B : Nat} {ev : Nat → Int32} {sa : Nat → Nat} {cA : Nat → ClassId} (w : xW) : va_D (fun q => B ≤ q) (xWd B ev sa cA w) := by
  have key : ∀ (k : Nat) (q : Nat × va_E), (xWd B ev sa cA w)[k]? = some q → q.1 = B + k := by
    intro k q h
    unfold xWd at h
    rw [List.getElem?_mapIdx] at h
    cases hw : w[k]? with
    | none => rw [hw] at h; cases h
    | some c => rw [hw] at h; cases h; rfl
  refine ⟨fun i j p q hi hj hpq => ?_, fun k q h => ?_⟩
  · have h1 := key i p hi
    have h2 := key j q hj
    omega
  · have h1 := key k q h
    show B ≤ q.1
    omega
theorem xG_cat (B : Nat) (ev : Nat → Int32) (sa : Nat → Nat) (v : Value) : (xG B ev sa v).category = v.category := by
  cases v <;> rfl
/-- which kind of value: 0 an int, 1 a long, 2 a reference -/
def xkd : Nat → Value → Bool
  | 0, .int _ => true
  | 0, .float _ => true
  | 1, .long _ => true
  | 2, .ref _ => true
  | 2, .retAddr _ => true
  | _, _ => false
def xpc : List xE → Nat
  | [] => 0
  | q :: _ => q.1
def xNx (cs : List xE) (pc : Nat) (k : List xE → Option xX) : Option xX := match cs with
  | [] => none
  | q :: r => cond (Nat.beq q.1 pc) (k (q :: r)) none
theorem xNx_ok {cs : List xE} {pc : Nat} {k : List xE → Option xX} {X : xX} (h : xNx cs pc k = some X) : xpc cs = pc ∧ k cs = some X := by
  cases cs with
  | nil => cases h
  | cons q r =>
    have h : cond (Nat.beq q.1 pc) (k (q :: r)) none = some X := h
    cases hb : Nat.beq q.1 pc with
    | true => rw [hb] at h; exact ⟨Nat.eq_of_beq_eq_true hb, h⟩
    | false => rw [hb] at h; cases h
noncomputable def xJ (tab : List xE) (t : Nat) (k : List xE → Option xX) : Option xX := List.rec (motive := fun _ => Option xX) none (fun q r ih => cond (Nat.beq q.1 t) (k (q :: r)) ih) tab
theorem xJ_ok {t : Nat} {k : List xE → Option xX} {X : xX} : ∀ {tab : List xE}, xJ tab t k = some X → ∃ cs, xpc cs = t ∧ k cs = some X ∧ ∀ q ∈ cs, q ∈ tab
  | [], h => by cases h
  | q :: r, h => by
    have h : cond (Nat.beq q.1 t) (k (q :: r)) (xJ r t k) = some X := h
    cases hb : Nat.beq q.1 t with
    | true => rw [hb] at h; exact ⟨q :: r, Nat.eq_of_beq_eq_true hb, h, fun _ h => h⟩
    | false =>
      rw [hb] at h
      obtain ⟨cs, h1, h2, h3⟩ := xJ_ok h
      exact ⟨cs, h1, h2, fun q hq => List.mem_cons_of_mem _ (h3 q hq)⟩
noncomputable def xPu (en : xE) (cs : List xE) (lv : List (Nat × Value)) (w : xW) (mc ms : Nat) (k : xX → Option xX) (v : Value) (r : List Value) : Option xX := fV v fun v => xNx cs (en.1 + en.2.2.1) fun cs => k (cs, lv, v :: r, w, mc, ms)
theorem xPu_ok {en : xE} {cs : List xE} {lv : List (Nat × Value)} {w : xW} {mc ms : Nat} {k : xX → Option xX} {v : Value} {r : List Value} {X : xX} (h : xPu en cs lv w mc ms k v r = some X) : xpc cs = en.1 + en.2.2.1 ∧ k (cs, lv, v :: r, w, mc, ms) = some X := by
  unfold xPu at h
  rw [fV_eq] at h
  exact xNx_ok h
/-- what is known of a value's number -/
noncomputable def xbd (ivs : List (Int × Int)) : Value → Option (Int × Int)
  | .int x => some (x.toInt, x.toInt)
  | .float k => xnth ivs k.toNat
  | _ => none
def xEv (ivs : List (Int × Int)) (ev : Nat → Int32) : Prop := (∀ (k : Nat) (q : Int × Int), ivs[k]? = some q → q.1 ≤ (ev k).toInt ∧ (ev k).toInt ≤ q.2) ∧ ev 4 = ev 0 &&& 63
def xlt (a b : Int × Int) : Option Bool := cond (decide (a.2 < b.1)) (some true) (cond (decide (b.2 ≤ a.1)) (some false) none)
def xeq (a b : Int × Int) : Option Bool := cond (decide (a.1 = a.2) && (decide (b.1 = b.2) && decide (a.1 = b.1))) (some true) (cond (decide (a.2 < b.1) || decide (b.2 < a.1)) (some false) none)
def xnot : Option Bool → Option Bool
  | some true => some false
  | some false => some true
  | none => none
def xcmp (op : ClassFile.Cond) (a b : Int × Int) : Option Bool := match op with
  | .eq => xeq a b
  | .ne => xnot (xeq a b)
  | .lt => xlt a b
  | .ge => xnot (xlt a b)
  | .gt => xlt b a
  | .le => xnot (xlt b a)
def xrel (op : ClassFile.Cond) (a b : Int) : Prop := match op with
  | .eq => a = b
  | .ne => ¬ a = b
  | .lt => a < b
  | .ge => b ≤ a
  | .gt => b < a
  | .le => a ≤ b
theorem xlt_ok {a b : Int × Int} {x y : Int} (ha : a.1 ≤ x ∧ x ≤ a.2) (hb : b.1 ≤ y ∧ y ≤ b.2) {r : Bool} (h : xlt a b = some r) : (r = true → x < y) ∧ (r = false → y ≤ x) := by
  unfold xlt at h
  by_cases h1 : a.2 < b.1
  · simp [h1] at h; subst h; exact ⟨fun _ => by omega, fun h => by cases h⟩
  · by_cases h2 : b.2 ≤ a.1
    · simp [h1, h2] at h; subst h; exact ⟨fun h => (by cases h), fun _ => by omega⟩
    · simp [h1, h2] at h
theorem xeq_ok {a b : Int × Int} {x y : Int} (ha : a.1 ≤ x ∧ x ≤ a.2) (hb : b.1 ≤ y ∧ y ≤ b.2) {r : Bool} (h : xeq a b = some r) : (r = true → x = y) ∧ (r = false → ¬ x = y) := by
  unfold xeq at h
  by_cases h1 : a.1 = a.2 ∧ b.1 = b.2 ∧ a.1 = b.1
  · obtain ⟨q1, q2, q3⟩ := h1
    rw [decide_eq_true q1, decide_eq_true q2, decide_eq_true q3] at h
    cases h
    exact ⟨fun _ => by omega, fun h => by cases h⟩
  · have h3 : (decide (a.1 = a.2) && (decide (b.1 = b.2) && decide (a.1 = b.1))) = false := by
      simpa using h1
    rw [h3] at h
    by_cases h2 : a.2 < b.1 ∨ b.2 < a.1
    · have h4 : (decide (a.2 < b.1) || decide (b.2 < a.1)) = true := by simpa using h2
      rw [h4] at h
      cases h
      exact ⟨fun h => (by cases h), fun _ => by omega⟩
    · have h4 : (decide (a.2 < b.1) || decide (b.2 < a.1)) = false := by simpa using h2
      rw [h4] at h
      cases h
theorem xnot_ok {o : Option Bool} {r : Bool} (h : xnot o = some r) : o = some (!r) := by
  cases o with
  | none => cases h
  | some b => cases b <;> (cases h; rfl)
theorem xcmp_ok {op : ClassFile.Cond} {a b : Int × Int} {x y : Int} (ha : a.1 ≤ x ∧ x ≤ a.2) (hb : b.1 ≤ y ∧ y ≤ b.2) {r : Bool} (h : xcmp op a b = some r) : (r = true → xrel op x y) ∧ (r = false → ¬ xrel op x y) := by
  cases op with
  | eq => exact xeq_ok ha hb h
  | ne =>
    have q := xeq_ok ha hb (xnot_ok h)
    cases r with
    | true => exact ⟨fun _ => q.2 rfl, fun h => by cases h⟩
    | false => exact ⟨fun h => (by cases h), fun _ z => z (q.1 rfl)⟩
  | lt =>
    have q := xlt_ok ha hb h
    exact ⟨q.1, fun hr => Int.not_lt.mpr (q.2 hr)⟩
  | ge =>
    have q := xlt_ok ha hb (xnot_ok h)
    cases r with
    | true => exact ⟨fun _ => q.2 rfl, fun h => by cases h⟩
    | false => exact ⟨fun h => (by cases h), fun _ => Int.not_le.mpr (q.1 rfl)⟩
  | gt =>
    have q := xlt_ok hb ha h
    exact ⟨q.1, fun hr => Int.not_lt.mpr (q.2 hr)⟩
  | le =>
    have q := xlt_ok hb ha (xnot_ok h)
    cases r with
    | true => exact ⟨fun _ => q.2 rfl, fun h => by cases h⟩
    | false => exact ⟨fun h => (by cases h), fun _ => Int.not_le.mpr (q.1 rfl)⟩
theorem xbd_ok {ivs : List (Int × Int)} {ev : Nat → Int32} (he : xEv ivs ev) {v : Value} {q : Int × Int} (h : xbd ivs v = some q) {B : Nat} {sa : Nat → Nat} : (q.1 ≤ (xi ev v).toInt ∧ (xi ev v).toInt ≤ q.2) ∧ xG B ev sa v = .int (xi ev v) := by
  cases v with
  | int x => cases h; exact ⟨⟨Int.le_refl _, Int.le_refl _⟩, rfl⟩
  | float k =>
    have h : xnth ivs k.toNat = some q := h
    rw [xnth_eq] at h
    exact ⟨he.1 _ _ h, rfl⟩
  | _ => cases h
