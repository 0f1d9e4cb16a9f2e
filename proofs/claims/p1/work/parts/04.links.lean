/-! the links of an instruction -/
abbrev xa1 (en : xE) : Nat := en.2.2.2.1
abbrev xa2 (en : xE) : Nat := en.2.2.2.2.1
abbrev xa3 (en : xE) : Nat := en.2.2.2.2.2
abbrev xmy (q : xM) : MethodName := q.1
abbrev xmb (q : xM) : ByteArray := q.2.1
abbrev xml (q : xM) : Nat := q.2.2.1
abbrev xmr (q : xM) : Option FieldType := q.2.2.2.1
abbrev xmc (q : xM) : Nat := q.2.2.2.2.1
abbrev xms (q : xM) : Nat := q.2.2.2.2.2.1
abbrev xmn (q : xM) : Nat := q.2.2.2.2.2.2.1
abbrev xmk (q : xM) : Nat := q.2.2.2.2.2.2.2.1
abbrev xmp (q : xM) : Nat × Nat × Nat × Nat := q.2.2.2.2.2.2.2.2
def xln (i : ClassFile.Instr) (len : Nat) : Bool := match i with
  | .bipush _ => Nat.beq len 2
  | .iload _ => Nat.beq len 2
  | .lload _ => Nat.beq len 2
  | .aload _ => Nat.beq len 2
  | .istore _ => Nat.beq len 2
  | .lstore _ => Nat.beq len 2
  | .astore _ => Nat.beq len 2
  | .ldc _ => Nat.beq len 2
  | .newarray _ => Nat.beq len 2
  | .sipush _ => Nat.beq len 3
  | .ldc_w _ => Nat.beq len 3
  | .ldc2_w _ => Nat.beq len 3
  | .goto _ => Nat.beq len 3
  | .getfield _ => Nat.beq len 3
  | .putfield _ => Nat.beq len 3
  | .new _ => Nat.beq len 3
  | .checkcast _ => Nat.beq len 3
  | .iinc _ _ => Nat.beq len 3
  | .invokevirtual _ => Nat.beq len 3
  | .invokespecial _ => Nat.beq len 3
  | .invokestatic _ => Nat.beq len 3
  | .ifCond _ _ => Nat.beq len 3
  | .if_icmp _ _ => Nat.beq len 3
  | .multianewarray _ _ => Nat.beq len 4
  | .tableswitch _ _ _ _ => true
  | _ => Nat.beq len 1
def xtc (n : Nat) (ty : FieldType) : Bool := match n, ty with
  | 0, .int => true
  | 1, .long => true
  | 3, .boolean => true
  | 4, .object _ => true
  | 4, .array _ => true
  | _, _ => false
def xFl (own : String) (ix : Nat) (en : xE) : Bool := match xcl[xa2 en / 100]? with
  | some q => decide (xa2 en % 100 < q.2.2) && (decide ((q.2.1 (xa2 en % 100)).1 = q.1) && xw (xa1 en) (.fieldLink own ix q.1 (q.2.1 (xa2 en % 100)).2.1 (q.2.1 (xa2 en % 100)).2.2.1))
  | none => false
def xFt (own : String) (ini : Bool) (en : xE) : Bool := match xcl[xa2 en / 100]?, xtt[xa2 en / 100]? with
  | some q, some ty => xtc (xa3 en) (ty (xa2 en % 100)) && (!(q.2.1 (xa2 en % 100)).2.2.2 || (ini && decide (own = q.1)))
  | _, _ => false
/-- words that aren't carried by themselves -/
def xNb : Jvm.Cond → Bool
  | .methodLinkNest .. => true
  | .castable .. => true
  | _ => false
def xN : List Jvm.Cond := lw_tbl.filter xNb
def xwN (i : Nat) (w : Jvm.Cond) : Bool := decide (lw_tbl[i]? = some w) && xNb w
theorem xwN_mem {i : Nat} {w : Jvm.Cond} (h : xwN i w = true) : w ∈ xN := by
  unfold xwN at h
  rw [Bool.and_eq_true] at h
  exact List.mem_filter.mpr ⟨List.mem_of_getElem? (of_decide_eq_true h.1), h.2⟩
def xstr : List (Nat × String) := [(96, "used"), (102, "waste"), (104, "times"), (106, "pieces"), (108, "full")]
def yLen : MethodName := ⟨"java/lang/String", "length", "()I"⟩
def xMk (q : xM) : Bool := xw (xmp q).1 (.code (xmy q) (xmb q) (xml q) (xmr q)) && (decide ((xmy q).cls ≠ "java/lang/invoke/MethodHandle") && (decide ((xmy q).cls ≠ "java/lang/invoke/VarHandle") && (decide ((parseMethodDescriptor (xmy q).desc).map (fun d => d.parameters.length) = some (xmn q)) && (Nat.ble (xml q) 21 && xw (xmp q).2.2.2 (.initialized (xmy q).cls)))))
def xMo (q : xM) : Bool := decide ((xcl[xmk q]?).map (fun z => z.1) = some (xmy q).cls) && xw (xmp q).2.1 (.instanceMethod (xmy q))
def xIt (own : String) (ix : Nat) (en : xE) (q : xM) (t : Nat) : Bool := match t with
    | 0 => xw (xa1 en) (.methodLink own ix (xmy q)) && (xMo q && xw (xmp q).2.2.1 (.selects (xmy q).cls (xmy q) (xmy q)))
    | 1 => xwN (xa1 en) (.methodLinkNest own ix (xmy q) "RollCutter") && (xMo q && xw (xmp q).2.2.1 (.selects (xmy q).cls (xmy q) (xmy q)))
    | 2 => xw (xa1 en) (.methodLink own ix (xmy q)) && xw (xmp q).2.1 (.static (xmy q))
    | 3 => xwN (xa1 en) (.methodLinkNest own ix (xmy q) "RollCutter") && xw (xmp q).2.1 (.static (xmy q))
    | 4 => xw (xa1 en) (.methodLink own ix (xmy q)) && (xMo q && (decide ((xmy q).name = "<init>") && decide (xmr q = none)))
    | 5 => xwN (xa1 en) (.methodLinkNest own ix (xmy q) "RollCutter") && (xMo q && (decide ((xmy q).name = "<init>") && decide (xmr q = none)))
    | _ => false
def xIv (own : String) (ix : Nat) (en : xE) (t : Nat) : Bool := match xMs[xa3 en]? with
  | none => false
  | some q => xMk q && xIt own ix en q t
def xat : Nat → ArrayType → Bool
  | 0, .int => true
  | 1, .long => true
  | 2, .byte => true
  | 3, .boolean => true
  | _, _ => false
def xLv (own : String) (ix : Nat) (en : xE) : Bool := match xa2 en with
  | 0 => xIv own ix en 0
  | 1 => xIv own ix en 1
  | 10 => xw (xa1 en) (.methodLink own ix ⟨"[I", "clone", "()Ljava/lang/Object;"⟩) && (xw 632 (.sameMethod "[I" "java/lang/Object" "clone" "()Ljava/lang/Object;") && (xw 633 (.native ⟨"java/lang/Object", "clone", "()Ljava/lang/Object;"⟩) && (xw 634 (.instanceMethod ⟨"java/lang/Object", "clone", "()Ljava/lang/Object;"⟩) && (xw 635 (.selects "[I" ⟨"[I", "clone", "()Ljava/lang/Object;"⟩ ⟨"java/lang/Object", "clone", "()Ljava/lang/Object;"⟩) && xwN 636 (.castable "[I" "java/lang/Cloneable")))))
  | 12 => xw (xa1 en) (.methodLink own ix yLen)
  | 99 => true
  | _ => false
def xLs (own : String) (ix : Nat) (en : xE) : Bool := match xa2 en with
  | 2 => xIv own ix en 2
  | 3 => xIv own ix en 3
  | 7 => xw (xa1 en) (.methodLink own ix Lib.Math.max.name) && (xw 688 (.static Lib.Math.max.name) && (xw 94 (.initialized "java/lang/Math") && xw 689 (.code Lib.Math.max.name Lib.Math.max.code 2 (some .int))))
  | 8 => xw (xa1 en) (.methodLink own ix Lib.MathLoose.abs_long.x) && (xw 763 (.static Lib.MathLoose.abs_long.x) && (xw 94 (.initialized "java/lang/Math") && xw 764 (.code Lib.MathLoose.abs_long.x Lib.MathLoose.abs_long.code 2 (some .long))))
  | 9 => xw (xa1 en) (.methodLink own ix arraycopyName) && (xw 641 (.native arraycopyName) && (xw 640 (.static arraycopyName) && xw 96 (.initialized "java/lang/System")))
  | 11 => xw (xa1 en) (.methodLink own ix Lib.Math.min.name) && (xw 541 (.static Lib.Math.min.name) && (xw 94 (.initialized "java/lang/Math") && xw 542 (.code Lib.Math.min.name Lib.Math.min.code 2 (some .int))))
  | 99 => true
  | _ => false
def xLp (own : String) (ix : Nat) (en : xE) : Bool := match xa2 en with
  | 4 => xIv own ix en 4
  | 5 => xIv own ix en 5
  | 6 => xw (xa1 en) (.methodLink own ix objectInit) && (xw 109 (.instanceMethod objectInit) && xw 110 (.code objectInit ⟨#[0xb1]⟩ 1 none))
  | _ => false
def xLk (own : String) (ini : Bool) (en : xE) : Bool := match en.2.1 with
  | .getfield ix => xFl own ix en
  | .putfield ix => xFl own ix en && xFt own ini en
  | .new ix => (match xcl[xa2 en]? with
    | some q => xw (xa1 en) (.classLink own ix q.1)
    | none => false)
  | .newarray t => xat (xa2 en) t && xw (xa1 en) (.arrayClass (newarray.typeOf t))
  | .multianewarray ix n => Nat.beq n 2 && xw (xa1 en) (.classLink own ix "[[J")
  | .checkcast ix => xw (xa1 en) (.classLink own ix "[I")
  | .ldc ix => cond (Nat.beq (xa3 en) 1) (Nat.beq (xa2 en) 9 || (decide (own = "RollCutter$Condition") && decide ((xstr[xa2 en]?).map (fun z => z.1) = some ix))) (xw (xa1 en) (.constant own ix (Int32.ofNat (xa2 en))))
  | .ldc_w ix => cond (Nat.beq (xa3 en) 1) (Nat.beq (xa2 en) 9) (xw (xa1 en) (.constant own ix (Int32.ofNat (xa2 en))))
  | .ldc2_w ix => xw (xa1 en) (.constantLong own ix (Int64.ofNat (xa2 en)))
  | .invokevirtual ix => xLv own ix en
  | .invokestatic ix => xLs own ix en
  | .invokespecial ix => xLp own ix en
  | _ => true
def xini (q : xM) : Bool := decide ((xmy q).name = "<init>")
def xOK (own : String) (ini : Bool) (cc : ByteArray) (en : xE) : Prop := decode cc en.1 = .ok (en.2.1, en.2.2.1) ∧ xln en.2.1 en.2.2.1 = true ∧ xLk own ini en = true

