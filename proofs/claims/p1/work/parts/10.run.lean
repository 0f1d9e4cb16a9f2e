/-! runs of the executor, calls of methods -/
noncomputable def xrt (r : Option FieldType) (v : Value) : Bool := match r with
  | some .int => xkd 0 v
  | some .boolean => (match v with
    | .int x => decide (x = 0) || decide (x = 1)
    | _ => false)
  | _ => false
noncomputable def xRet (q : xM) (i : ClassFile.Instr) (st : List Value) (w : xW) : Option (Option Value × xW) := match i with
  | .ireturn => (match st with
    | v :: r => (match r with
      | [] => cond (xrt (xmr q) v) (some (some v, w)) none
      | _ => none)
    | [] => none)
  | .lreturn => (match st with
    | v :: r => (match r with
      | [] => cond (xkd 1 v && decide (xmr q = some .long)) (some (some v, w)) none
      | _ => none)
    | [] => none)
  | .areturn => (match st with
    | v :: r => (match r with
      | [] => (match xmr q with
        | some (.object _) => cond (xkd 2 v) (some (some v, w)) none
        | _ => none)
      | _ => none)
    | [] => none)
  | .return_ => (match st with
    | [] => cond (decide (xmr q = none)) (some (none, w)) none
    | _ => none)
  | _ => none
noncomputable def xEnd (q : xM) (w0 : xW) (X : xX) : Option (Option Value × xW) := match X with
  | (en :: _, _, st, w, mc, ms) => cond (Nat.beq w.length (w0.length + xmc q) && (Nat.ble mc (xmc q) && Nat.ble ms (xms q))) (xRet q en.2.1 st w) none
  | _ => none
noncomputable def xFn (ivs : List (Int × Int)) (call : Nat → List Value → xW → Option (Option Value × xW)) (j : Nat) (as : List Value) (w : xW) : Option (Option Value × xW) := match xnth xMs j with
  | some q => (match xnth xTs j with
    | some tab => cond (Nat.beq (xpc tab) 0 && Nat.ble ((as.map fun v => v.category).sum) (xml q)) (match xGo none ivs (xml q) (xmc q) (xms q) call tab 2000 (tab, lv_args 0 as, [], w, 0, 0) with
      | some X => xEnd q w X
      | none => none) none
    | none => none)
  | none => none
noncomputable def xCall (ivs : List (Int × Int)) (d : Nat) : Nat → List Value → xW → Option (Option Value × xW) := Nat.rec (motive := fun _ => Nat → List Value → xW → Option (Option Value × xW)) (fun _ _ _ => none) (fun _ ih => xFn ivs ih) d
/-- the tables are as the executor takes them -/
def xTok : Prop := ∀ (j : Nat) (q : xM) (tab : List xE), xMs[j]? = some q → xTs[j]? = some tab → (∀ en ∈ tab, xOK (xmy q).cls (xini q) (xmb q) en) ∧ plainName (xmy q).cls = true
section XS
variable {p : Program} {l : Launch} {e : Env} {R : Room} {s : State} {m : MethodId} {args : Array Value} {below : List Frame} {meth : Method} {c : Code} {Q : State → Prop} {cc : ByteArray} {own : String} {B : Nat} {ev : Nat → Int32} {sa : Nat → Nat} {cA : Nat → ClassId} {D : va_G} {ini : Bool} {nL d : Nat} {ivs : List (Int × Int)} {LL : Option Nat}
theorem xGo_ok {tab : List xE} {call : Nat → List Value → xW → Option (Option Value × xW)} (C0 : xCx p R s m args meth c own cc nL ini B ev cA D ivs d sa LL) (hca : xCa l B ev sa cA D d call) {MC MS : Nat} (hMC : MC ≤ R.cells) (hMS : MS ≤ R.slots) (htab : ∀ q ∈ tab, xOK own ini cc q) (n : Nat) : ∀ {cs : List xE} {lv : List (Nat × Value)} {st : List Value} {w : xW} {mc ms : Nat} {cs1 : List xE} {lv1 : List (Nat × Value)} {st1 : List Value} {w1 : xW} {mc1 ms1 : Nat}, (∀ q ∈ cs, xOK own ini cc q) → xGo LL ivs nL MC MS call tab n (cs, lv, st, w, mc, ms) = some (cs1, lv1, st1, w1, mc1, ms1) → (∀ q ∈ cs1, xOK own ini cc q) ∧ (xGd p l e R s m args below meth c Q nL B ev sa cA D cs1 lv1 st1 w1 mc1 ms1 → xGd p l e R s m args below meth c Q nL B ev sa cA D cs lv st w mc ms) := by
  induction n with
  | zero =>
    intro cs lv st w mc ms cs1 lv1 st1 w1 mc1 ms1 hcs h
    have h : some (cs, lv, st, w, mc, ms) = some (cs1, lv1, st1, w1, mc1, ms1) := h
    cases h
    exact ⟨hcs, id⟩
  | succ n ih =>
    intro cs lv st w mc ms cs1 lv1 st1 w1 mc1 ms1 hcs h
    have h : xS LL ivs nL MC MS call tab (cs, lv, st, w, mc, ms) (xGo LL ivs nL MC MS call tab n) = some (cs1, lv1, st1, w1, mc1, ms1) := h
    cases cs with
    | nil => exact nomatch h
    | cons en cs =>
      rcases xS_ok (Q := Q) (below := below) (l := l) (e := e) C0 hca hMC hMS htab (hcs en List.mem_cons_self) (fun q hq => hcs q (List.mem_cons_of_mem _ hq)) h with h1 | ⟨cs2, lv2, st2, w2, mc2, ms2, h1, h2, h3⟩
      · cases h1
        exact ⟨hcs, id⟩
      · obtain ⟨g1, g2⟩ := ih h2 h1
        exact ⟨g1, fun G => h3 (g2 G)⟩
theorem x_args (as : List Value) : ∀ i : Nat, lv_args i (as.map (xG B ev sa)) = (lv_args i as).map (xG2 B ev sa) := by
  induction as with
  | nil => intro i; rfl
  | cons v r ih =>
    intro i
    show (i, xG B ev sa v) :: lv_args (if (xG B ev sa v).category = 2 then i + 2 else i + 1) (r.map (xG B ev sa)) = (i, xG B ev sa v) :: (lv_args (if v.category = 2 then i + 2 else i + 1) r).map (xG2 B ev sa)
    rw [ih, xG_cat]
theorem x_sll (as : List Value) : (lg_sl (as.map (xG B ev sa))).length = (as.map fun v => v.category).sum := by
  induction as with
  | nil => rfl
  | cons v r ih =>
    have e1 : lg_sl ((v :: r).map (xG B ev sa)) = (if (xG B ev sa v).category = 2 then [.val (xG B ev sa v), .second] else [.val (xG B ev sa v)]) ++ lg_sl (r.map (xG B ev sa)) := by
      unfold lg_sl; rw [List.map_cons, List.flatMap_cons]
    rw [e1, List.length_append, ih, List.map_cons, List.sum_cons, xG_cat]
    rcases lv_cat v with hc | hc
    · rw [hc, if_neg (by decide)]; rfl
    · rw [hc, if_pos rfl]; rfl
theorem xRet_w {q : xM} {i : ClassFile.Instr} {st : List Value} {w : xW} {z : Option Value × xW} (h : xRet q i st w = some z) : z.2 = w := by
  unfold xRet at h
  split at h
  · split at h
    · split at h
      · cases hc : xrt (xmr q) ‹Value› with
        | false => simp only [hc, cond_false] at h; cases h
        | true => simp only [hc, cond_true] at h; cases h; rfl
      · cases h
    · cases h
  · split at h
    · split at h
      · rename_i v _
        cases hc : (xkd 1 v && decide (xmr q = some .long)) with
        | false => rw [hc] at h; cases h
        | true => rw [hc] at h; cases h; rfl
      · cases h
    · cases h
  · split at h
    · split at h
      · split at h
        · rename_i v _ _ _ _
          cases hc : xkd 2 v with
          | false => rw [hc] at h; cases h
          | true => rw [hc] at h; cases h; rfl
        · cases h
      · cases h
    · cases h
  · split at h
    · cases hc : decide (xmr q = none) with
      | false => rw [hc] at h; cases h
      | true => rw [hc] at h; cases h; rfl
    · cases h
  · cases h
theorem x_post {r v : Option Value} {w : xW} {H : Heap} {locs : List Loc} (h2 : va_P D xcl (xWd B ev sa cA w) H) (h3 : va_S (fun q => B ≤ q) s.heap H locs) (hv : v = r.map (xG B ev sa)) : ∀ t : State, t.heap = H → s.WarmedH t.vm → xPost B ev sa cA D r w args s (.returned v) t := fun t ht _ => ⟨by rw [hv], by rw [ht]; exact h2, h3.F ht⟩
theorem xRet_ok {q : xM} {en : xE} {cs : List xE} {lv : List (Nat × Value)} {st : List Value} {w : xW} {mc ms : Nat} {z : Option Value × xW} (C0 : xCx p R s m args meth c own cc nL ini B ev cA D ivs d sa LL) (hr : meth.sig.returnType = xmr q) (hlk : meth.locks = false) (hok : xOK own ini cc en) (hmc : mc ≤ xmc q) (hms : ms ≤ xms q) (h : xRet q en.2.1 st w = some z) : z.2 = w ∧ xGd p l e R s m args below meth c (MQ below (xPost B ev sa cA D z.1 w) args s (xmc q) (xms q) (fun z => B ≤ z)) nL B ev sa cA D (en :: cs) lv st w mc ms := by
  refine ⟨xRet_w h, ?_⟩
  obtain ⟨hx, hb, hml, hown, hts, hK, hB, hini, hev, hR, hLL, hNw, hXs⟩ := C0
  obtain ⟨pc, ins, len, a1, a2, a3⟩ := en
  obtain ⟨hd, hln, -⟩ := hok
  dsimp only at hd hln h
  intro H locs ls h1 h2 h3 h4
  refine W.widen hmc hms ?_
  unfold xRet at h
  split at h
  · have hln : len = 1 := xlen hln
    subst hln
    split at h
    · split at h
      · rename_i v _
        cases hc : xrt (xmr q) v with
        | false => rw [hc] at h; cases h
        | true =>
          rw [hc] at h
          cases h
          unfold xrt at hc
          split at hc
          · rename_i hmr
            have hg := xkd0 (B := B) (ev := ev) (sa := sa) hc
            rw [List.map_cons, hg]
            exact W.zret (v := xi ev v) (ty := .int) hx hb (hr.trans hmr) rfl (x_post h2 h3 (by rw [Option.map_some, hg])) h3.2.2 hd hlk
          · rename_i hmr
            split at hc
            · rename_i x
              rw [Bool.or_eq_true, decide_eq_true_eq, decide_eq_true_eq] at hc
              have hn : narrow .boolean (.int x) = .int x := by rcases hc with hc | hc <;> subst hc <;> rfl
              exact W.zret (v := x) (ty := .boolean) hx hb (hr.trans hmr) hn (x_post h2 h3 rfl) h3.2.2 hd hlk
            · cases hc
          · cases hc
      · cases h
    · cases h
  · have hln : len = 1 := xlen hln
    subst hln
    split at h
    · split at h
      · rename_i v _
        cases hc : (xkd 1 v && decide (xmr q = some .long)) with
        | false => rw [hc] at h; cases h
        | true =>
          rw [hc] at h
          cases h
          rw [Bool.and_eq_true, decide_eq_true_eq] at hc
          have hg := xkd1 (B := B) (ev := ev) (sa := sa) hc.1
          rw [List.map_cons, hg]
          exact W.lret (v := xl v) hx hb (hr.trans hc.2) (x_post h2 h3 (by rw [Option.map_some, hg])) h3.2.2 hd hlk
      · cases h
    · cases h
  · have hln : len = 1 := xlen hln
    subst hln
    split at h
    · split at h
      · split at h
        · rename_i v _ _ nm hmr
          cases hc : xkd 2 v with
          | false => rw [hc] at h; cases h
          | true =>
            rw [hc] at h
            cases h
            obtain ⟨a, hg⟩ := xkd2 (B := B) (ev := ev) (sa := sa) hc
            rw [List.map_cons, hg]
            exact W.aret (v := .ref a) (rt := .object nm) hx hb (hr.trans hmr) (Or.inl ⟨nm, rfl⟩) (Or.inr ⟨a, rfl⟩) (x_post h2 h3 (by rw [Option.map_some, hg])) h3.2.2 hd hlk
        · cases h
      · cases h
    · cases h
  · have hln : len = 1 := xlen hln
    subst hln
    split at h
    · cases hc : decide (xmr q = none) with
      | false => rw [hc] at h; cases h
      | true =>
        rw [hc] at h
        cases h
        exact W.vret hx hb (hr.trans (of_decide_eq_true hc)) (x_post h2 h3 rfl) h3.2.2 hd hlk
    · cases h
  · cases h
theorem xCall_ok (hev : xEv ivs ev) (hT : xTok) : ∀ d : Nat, xCa l B ev sa cA D d (xCall ivs d) := by
  intro d
  induction d with
  | zero => intro j as w z q h _; exact nomatch h
  | succ d ih =>
    intro j as w z q h hq
    have h : xFn ivs (xCall ivs d) j as w = some z := h
    unfold xFn at h
    rw [xnth_eq, xnth_eq, hq] at h
    dsimp only at h
    cases ht : xTs[j]? with
    | none => rw [ht] at h; cases h
    | some tab =>
      rw [ht] at h
      dsimp only at h
      cases hc : (Nat.beq (xpc tab) 0 && Nat.ble ((as.map fun v => v.category).sum) (xml q)) with
      | false => rw [hc] at h; cases h
      | true =>
        rw [hc] at h
        rw [Bool.and_eq_true] at hc
        have hp0 := xlen hc.1
        have hle := Nat.le_of_ble_eq_true hc.2
        obtain ⟨hok, hpl⟩ := hT j q tab hq ht
        cases hg : xGo none ivs (xml q) (xmc q) (xms q) (xCall ivs d) tab 2000 (tab, lv_args 0 as, [], w, 0, 0) with
        | none => rw [hg] at h; cases h
        | some X =>
          rw [hg] at h
          have h : xEnd q w X = some z := h
          obtain ⟨cs, lv, st, w1, mc, ms⟩ := X
          cases cs with
          | nil => exact nomatch h
          | cons en cs =>
            have h : cond (Nat.beq w1.length (w.length + xmc q) && (Nat.ble mc (xmc q) && Nat.ble ms (xms q))) (xRet q en.2.1 st w1) none = some z := h
            cases hz : (Nat.beq w1.length (w.length + xmc q) && (Nat.ble mc (xmc q) && Nat.ble ms (xms q))) with
            | false => rw [hz] at h; cases h
            | true =>
              rw [hz] at h
              simp only [Bool.and_eq_true] at hz
              have hzl := xlen hz.1
              have hzc := Nat.le_of_ble_eq_true hz.2.1
              have hzs := Nat.le_of_ble_eq_true hz.2.2
              have h : xRet q en.2.1 st w1 = some z := h
              refine ⟨?_, ?_⟩
              · refine Met.ofW (cc := xmb q) (maxL := xml q) (ret := xmr q) hpl rfl ?_
                intro p e s m args below meth c s₁ Bd hml hv
                obtain ⟨rfl, hB, hsz, hP, hK, hNw, hXs⟩ := hv
                have hts0 := atoms_spec (ws := Cond.code (xmy q) (xmb q) (xml q) (xmr q) :: xT) Bd.pre
                have C0 : xCx p { frames := d + 1 + 1, cells := xmc q, slots := xms q, locals := 40 * (d + 1 + 1) } s m (as.map (xG B ev sa)).toArray meth c (xmy q).cls (xmb q) (xml q) (xini q) B ev cA D ivs d sa none := ⟨Bd.exec, Bd.bytes, hml, findClass_of_methodNamed Bd.named, fun w hw => hts0 w (List.mem_cons_of_mem _ hw), hK, hB, fun hi => (name_of_methodNamed Bd.named Bd.method).1.trans (of_decide_eq_true hi), hev, ⟨Nat.le_refl _, Nat.le_refl _⟩, (fun L hL => nomatch hL), hNw, hXs⟩
                obtain ⟨g1, g2⟩ := xGo_ok (Q := MQ below (xPost B ev sa cA D z.1 w1) (as.map (xG B ev sa)).toArray s (xmc q) (xms q) (fun z => B ≤ z)) (below := below) (l := l) (e := e) C0 ih (Nat.le_refl _) (Nat.le_refl _) hok 2000 hok hg
                obtain ⟨g3, g4⟩ := xRet_ok (cs := cs) (lv := lv) (below := below) (l := l) (e := e) C0 Bd.returns Bd.notSynchronized (g1 en List.mem_cons_self) hzc hzs h
                have hl := lv_entry (as.map (xG B ev sa)) (n := xml q) (by rw [x_sll]; exact hle)
                rw [lg_entry_eq]
                generalize (lg_sl (as.map (xG B ev sa)) ++ List.replicate (xml q - (lg_sl (as.map (xG B ev sa))).length) Slot.unset).toArray = ls at hl ⊢
                rw [x_args] at hl
                have G := g2 g4 s.heap [] ls (by omega) hP va_S.rf hl
                rw [hp0] at G
                rw [g3]
                exact G
              · rw [xRet_w h]
                exact hzl
end XS
