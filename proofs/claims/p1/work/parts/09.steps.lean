/-! each instruction of the executor is the machine's -/
section XS
variable {p : Program} {l : Launch} {e : Env} {R : Room} {s : State} {m : MethodId} {args : Array Value} {below : List Frame} {meth : Method} {c : Code} {Q : State → Prop} {cc : ByteArray} {own : String} {B : Nat} {ev : Nat → Int32} {sa : Nat → Nat} {cA : Nat → ClassId} {D : va_G} {ini : Bool} {nL d : Nat} {ivs : List (Int × Int)} {LL : Option Nat}
theorem x_sz {H : Heap} {locs : List Loc} {cells slots : Nat} {g : JFrame} (k : H.size ≤ s.heap.size + cells → W p l e R s m args below meth c H locs cells slots Q g) : W p l e R s m args below meth c H locs cells slots Q g := fun T hT X => k (by rw [← hT]; exact X.heapSize) T hT X
theorem x_low {w : xW} {H : Heap} (hP : va_P D xcl (xWd B ev sa cA w) H) (hB : B ≤ H.size) : B + w.length ≤ H.size := by
  rcases Nat.eq_zero_or_pos w.length with h | h
  · omega
  · have h1 : w[w.length - 1]? = some w[w.length - 1] := List.getElem?_eq_getElem (by omega)
    have h2 := (hP _ _ (xWd_get h1)).lt
    simp only at h2
    omega
theorem x_new {w : xW} {q : Nat} {en : va_E} {H1 : Heap} (hP : va_P D xcl (xWd B ev sa cA w ++ [(q, en)]) H1) (hD : va_D (fun q => B ≤ q) (xWd B ev sa cA w ++ [(q, en)])) (hz : H1.size ≤ B + w.length + 1) : q = B + w.length := by
  have hlen : (xWd B ev sa cA w).length = w.length := by unfold xWd; simp
  have h0 : (xWd B ev sa cA w ++ [(q, en)])[w.length]? = some (q, en) := by
    rw [List.getElem?_append_right (by omega), hlen, Nat.sub_self]; rfl
  have h1 := (hP _ _ h0).lt
  have h2 : B ≤ q := hD.2 _ _ h0
  simp only at h1
  rcases Nat.lt_or_ge q (B + w.length) with h | h
  · exfalso
    have h3 : w[q - B]? = some w[q - B] := List.getElem?_eq_getElem (by omega)
    have h4 : (xWd B ev sa cA w ++ [(q, en)])[q - B]? = some (B + (q - B), xCe B ev sa cA w[q - B]) := by
      rw [List.getElem?_append_left (by omega)]; exact xWd_get h3
    have h5 := hD.1 (q - B) w.length _ _ h4 h0 (by simp only; omega)
    omega
  · omega
theorem xFl_ok {ix : Nat} {en : xE} (h : xFl own ix en = true) : ∃ q, xcl[xa2 en / 100]? = some q ∧ xa2 en % 100 < q.2.2 ∧ (q.2.1 (xa2 en % 100)).1 = q.1 ∧ Cond.fieldLink own ix q.1 (q.2.1 (xa2 en % 100)).2.1 (q.2.1 (xa2 en % 100)).2.2.1 ∈ xT := by
  unfold xFl at h
  split at h
  · rename_i q hq
    simp only [Bool.and_eq_true, decide_eq_true_eq] at h
    exact ⟨q, hq, h.1, h.2.1, xw_mem h.2.2⟩
  · cases h
theorem xFt_ok {en : xE} {q : vw_C} (h : xFt own ini en = true) (hq : xcl[xa2 en / 100]? = some q) : ∃ ty, xtt[xa2 en / 100]? = some ty ∧ xtc (xa3 en) (ty (xa2 en % 100)) = true ∧ ((q.2.1 (xa2 en % 100)).2.2.2 = false ∨ (ini = true ∧ own = q.1 ∧ (q.2.1 (xa2 en % 100)).2.2.2 = true)) := by
  unfold xFt at h
  split at h
  · rename_i q' ty hq' hty
    rw [hq] at hq'
    cases hq'
    simp only [Bool.and_eq_true, Bool.or_eq_true, decide_eq_true_eq] at h
    refine ⟨ty, hty, h.1, ?_⟩
    cases hf : (q.2.1 (xa2 en % 100)).2.2.2 with
    | false => exact Or.inl rfl
    | true =>
      rw [hf] at h
      rcases h.2 with h2 | h2
      · cases h2
      · exact Or.inr ⟨h2.1, h2.2, rfl⟩
  · cases h
theorem xft_ok {n : Nat} {v : Value} {ty : FieldType} (h : xft n v = true) (ht : xtc n ty = true) : narrow ty (xG B ev sa v) = xG B ev sa v ∧ fits ty (xG B ev sa v) = true := by
  match n, h, ht with
  | 0, h, ht =>
    rw [xkd0 h]
    cases ty <;> first | exact ⟨rfl, rfl⟩ | exact nomatch ht
  | 1, h, ht =>
    rw [xkd1 h]
    cases ty <;> first | exact ⟨rfl, rfl⟩ | exact nomatch ht
  | 2, h, ht => exact nomatch h
  | 3, h, ht =>
    cases v with
    | int x =>
      have h : (decide (x = 0) || decide (x = 1)) = true := h
      rw [Bool.or_eq_true, decide_eq_true_eq, decide_eq_true_eq] at h
      cases ty <;> first | (rcases h with h | h <;> subst h <;> exact ⟨rfl, rfl⟩) | exact nomatch ht
    | _ => exact nomatch h
  | 4, h, ht =>
    obtain ⟨a, ha⟩ := xkd2 (B := B) (ev := ev) (sa := sa) h
    rw [ha]
    cases ty <;> first | exact ⟨rfl, rfl⟩ | exact nomatch ht
  | n + 5, h, ht => exact nomatch h
theorem x_upd {es : List (Nat × Value)} {j : Nat} {v : Value} {x : Int32} (hv : xi ev v = x) : upd (fun j => xi ev (xlk es (.int 0) j)) j x = fun i => xi ev (xlk ((j, v) :: es) (.int 0) i) := by
  funext i
  show (if i = j then x else _) = xi ev (cond (Nat.beq j i) v (xlk es (.int 0) i))
  by_cases h : i = j
  · subst h; rw [if_pos rfl, Nat.beq_refl]; exact hv.symm
  · rw [if_neg h]
    cases hb : Nat.beq j i with
    | true => exact absurd (Nat.eq_of_beq_eq_true hb).symm h
    | false => rfl
theorem x_updL {es : List (Nat × Value)} {j : Nat} {v : Value} {x : Int64} (hv : xl v = x) : vp_updL (fun j => xl (xlk es (.long 0) j)) j x = fun i => xl (xlk ((j, v) :: es) (.long 0) i) := by
  funext i
  show (if i = j then x else _) = xl (cond (Nat.beq j i) v (xlk es (.long 0) i))
  by_cases h : i = j
  · subst h; rw [if_pos rfl, Nat.beq_refl]; exact hv.symm
  · rw [if_neg h]
    cases hb : Nat.beq j i with
    | true => exact absurd (Nat.eq_of_beq_eq_true hb).symm h
    | false => rfl
theorem xw_set {w : xW} {k : Nat} {c : xC} : (w.set k c).length = w.length := List.length_set
theorem xNw_ok {MC MS : Nat} {en : xE} {cs : List xE} {lv : List (Nat × Value)} {w : xW} {mc ms : Nat} {k : xX → Option xX} {c0 : xC} {n : Nat} {r : List Value} {X : xX} (h : xNw MC MS en cs lv w mc ms k c0 n r = some X) : mc + 1 ≤ MC ∧ ms + n ≤ MS ∧ xpc cs = en.1 + en.2.2.1 ∧ k (cs, lv, .ref w.length :: r, w ++ [c0], mc + 1, ms + n) = some X := by
  obtain ⟨h1, h⟩ := xgd_ok h
  rw [Bool.and_eq_true] at h1
  rw [fN_eq, fN_eq, fN_eq, appK_eq] at h
  obtain ⟨h2, h3⟩ := xNx_ok h
  exact ⟨Nat.le_of_ble_eq_true h1.1, Nat.le_of_ble_eq_true h1.2, h2, h3⟩
theorem x_plm {fs : List Value} (h : ∀ v ∈ fs, xpl v = true) : fs.map (xG B ev sa) = fs := by
  induction fs with
  | nil => rfl
  | cons v r ih =>
    rw [List.map_cons, xpl_G (h v List.mem_cons_self), ih (fun z hz => h z (List.mem_cons_of_mem _ hz))]
theorem x_nwa {t : ArrayType} {a2 N : Nat} (h : xat a2 t = true) : (∀ c0 : ClassId, vp_cell c0 (xAr B ev (a2, N, [])) = arrV c0 N (fun _ => defaultValue (newarray.typeOf t))) ∧ (xTy cA)[a2]? = some (cA a2, newarray.typeOf t) ∧ (∀ (U : State) (c1 : ClassId), va_RA U c1 (newarray.typeOf t) → va_RA U (cA a2) (newarray.typeOf t) → c1 = cA a2) ∧ componentBytes (newarray.typeOf t) ≤ 8 := by
  match a2, t, h with
  | 0, .int, _ => exact ⟨fun _ => rfl, rfl, fun U c1 g1 g2 => Option.some.inj ((show U.vm.findClass _ = some c1 from g1).symm.trans g2), by decide⟩
  | 1, .long, _ => exact ⟨fun _ => rfl, rfl, fun U c1 g1 g2 => Option.some.inj ((show U.vm.findClass _ = some c1 from g1).symm.trans g2), by decide⟩
  | 2, .byte, _ => exact ⟨fun _ => rfl, rfl, fun U c1 g1 g2 => Option.some.inj ((show U.vm.findClass _ = some c1 from g1).symm.trans g2), by decide⟩
  | 3, .boolean, _ => exact ⟨fun _ => rfl, rfl, fun U c1 g1 g2 => Option.some.inj ((show U.vm.findClass _ = some c1 from g1).symm.trans g2), by decide⟩
theorem x_setq {w : xW} {k : Nat} {c0 : xC} (h : w[k]? = some c0) : w.set k c0 = w := by
  apply List.ext_getElem?
  intro i
  rw [List.getElem?_set]
  by_cases hk : k = i
  · subst hk
    rw [if_pos rfl, h]
    rw [if_pos (List.getElem?_eq_some_iff.mp h).1]
  · rw [if_neg hk]
theorem xMa_eq (w : xW) (h K : Nat) (k : xW → Option xX) : xMa w h K k = k (w ++ [.inl (4, 6, [(0, .ref (h + 1)), (1, .ref (h + 2)), (2, .ref (h + 3)), (3, .ref (h + 4)), (4, .ref (h + 5)), (5, .ref (h + 6))])] ++ [.inl (1, K, [])] ++ [.inl (1, K, [])] ++ [.inl (1, K, [])] ++ [.inl (1, K, [])] ++ [.inl (1, K, [])] ++ [.inl (1, K, [])]) := by
  unfold xMa
  rw [appK_eq, appK_eq, appK_eq, appK_eq, appK_eq, appK_eq, appK_eq]
theorem x_P1 {w : xW} {c0 : xC} {H1 : Heap} (h : va_P D xcl (xWd B ev sa cA w) H1) (h0 : va_at D xcl (B + w.length, xCe B ev sa cA c0) H1) : va_P D xcl (xWd B ev sa cA (w ++ [c0])) H1 := by
  rw [xWd_app]
  refine h.app (fun k q hk => ?_)
  have hz : k < 1 := (List.getElem?_eq_some_iff.mp hk).1
  rw [show k = 0 by omega] at hk
  cases hk
  exact h0
theorem x_ma7l (w : xW) (c0 c1 c2 c3 c4 c5 c6 : xC) : (w ++ [c0] ++ [c1] ++ [c2] ++ [c3] ++ [c4] ++ [c5] ++ [c6]).length = w.length + 7 := by
  simp
theorem x_ma7 {w : xW} {H H1 : Heap} {K : Nat} (hP : va_P D xcl (xWd B ev sa cA w) H) (hz : H.size = B + w.length) (hH : mz_H H H1 (cA 4) (cA 1) 6 K 6) : va_P D xcl (xWd B ev sa cA (w ++ [.inl (4, 6, [(0, .ref (w.length + 1)), (1, .ref (w.length + 2)), (2, .ref (w.length + 3)), (3, .ref (w.length + 4)), (4, .ref (w.length + 5)), (5, .ref (w.length + 6))])] ++ [.inl (1, K, [])] ++ [.inl (1, K, [])] ++ [.inl (1, K, [])] ++ [.inl (1, K, [])] ++ [.inl (1, K, [])] ++ [.inl (1, K, [])])) H1 := by
  obtain ⟨z, hk, ⟨oslots, ho, o3, o4⟩, hin⟩ := hH
  have hi : ∀ (j n : Nat), j < 6 → n = w.length + 1 + j → va_at D xcl (B + n, xCe B ev sa cA (.inl (1, K, []))) H1 := by
    intro j n hj hn
    show H1[B + n]? = some (arrV (cA 1) K (fun _ => .long 0))
    rw [show B + n = H.size + 1 + j by omega, hin j hj]
    congr 1
    unfold arrV
    congr 1
    apply Array.ext
    · simp
    · intro i h1 h2; simp
  have h0 : va_at D xcl (B + w.length, xCe B ev sa cA (.inl (4, 6, [(0, .ref (w.length + 1)), (1, .ref (w.length + 2)), (2, .ref (w.length + 3)), (3, .ref (w.length + 4)), (4, .ref (w.length + 5)), (5, .ref (w.length + 6))]))) H1 := by
    show H1[B + w.length]? = some (arrV (cA 4) 6 (fun j => va_rf (xr B (xlk [(0, .ref (w.length + 1)), (1, .ref (w.length + 2)), (2, .ref (w.length + 3)), (3, .ref (w.length + 4)), (4, .ref (w.length + 5)), (5, .ref (w.length + 6))] .null j))))
    rw [← hz, ho]
    congr 1
    unfold arrV
    congr 1
    apply Array.ext
    · simp [o3]
    · intro i h1 h2
      have hi6 : i < 6 := by omega
      have q := o4 i hi6
      rw [if_pos hi6, hz] at q
      have q2 := (Array.getElem?_eq_some_iff.mp q).2
      rw [q2]
      simp only [Array.getElem_ofFn]
      have h7 : i = 0 ∨ i = 1 ∨ i = 2 ∨ i = 3 ∨ i = 4 ∨ i = 5 := by omega
      rcases h7 with rfl | rfl | rfl | rfl | rfl | rfl <;> rfl
  have hP0 : va_P D xcl (xWd B ev sa cA w) H1 := hP.kept (fun k q hq => hk q.1 ((hP k q hq).lt))
  refine x_P1 (x_P1 (x_P1 (x_P1 (x_P1 (x_P1 (x_P1 hP0 h0) (hi 0 _ (by omega) ?_)) (hi 1 _ (by omega) ?_)) (hi 2 _ (by omega) ?_)) (hi 3 _ (by omega) ?_)) (hi 4 _ (by omega) ?_)) (hi 5 _ (by omega) ?_) <;> simp
theorem xsp_ok {n : Nat} {acc st : List Value} {k : List Value → List Value → Option xX} {X : xX} (h : xsp n acc st k = some X) : ∃ as r, st = as.reverse ++ r ∧ as.length = n ∧ k (as ++ acc) r = some X := by
  induction n generalizing acc st with
  | zero => exact ⟨[], st, rfl, rfl, h⟩
  | succ n ih =>
    cases st with
    | nil => exact nomatch h
    | cons v r0 =>
      obtain ⟨as, r, e1, e2, e3⟩ := ih (show xsp n (v :: acc) r0 k = some X from h)
      refine ⟨as ++ [v], r, ?_, by simp [e2], by rw [List.append_assoc]; exact e3⟩
      rw [e1, List.reverse_append]; rfl
theorem xCl_ok {MC MS : Nat} {call : Nat → List Value → xW → Option (Option Value × xW)} {en : xE} {cs : List xE} {lv : List (Nat × Value)} {w : xW} {mc ms : Nat} {k : xX → Option xX} {q : xM} {as r : List Value} {X : xX} (h : xCl MC MS call en cs lv w mc ms k q as r = some X) : ((r.map fun v => v.category).sum ≤ 8 ∧ mc + xmc q ≤ MC ∧ ms + xms q ≤ MS) ∧ ∃ z, call (xa3 en) as w = some z ∧ xpc cs = en.1 + 3 ∧ k (cs, lv, z.1.toList ++ r, z.2, mc + xmc q, ms + xms q) = some X := by
  obtain ⟨h1, h⟩ := xgd_ok h
  rw [Bool.and_eq_true, Bool.and_eq_true] at h1
  obtain ⟨z, hz, h⟩ := xOp_ok h
  rw [fN_eq, fN_eq] at h
  obtain ⟨h2, h3⟩ := xNx_ok h
  exact ⟨⟨Nat.le_of_ble_eq_true h1.1, Nat.le_of_ble_eq_true h1.2.1, Nat.le_of_ble_eq_true h1.2.2⟩, z, hz, h2, h3⟩
/-- the words of a callee -/
def xMw (q : xM) : Prop := Cond.code (xmy q) (xmb q) (xml q) (xmr q) ∈ xT ∧ (xmy q).cls ≠ "java/lang/invoke/MethodHandle" ∧ (xmy q).cls ≠ "java/lang/invoke/VarHandle" ∧ (parseMethodDescriptor (xmy q).desc).map (fun d => d.parameters.length) = some (xmn q) ∧ xml q ≤ 21 ∧ Cond.initialized (xmy q).cls ∈ xT
theorem xMk_ok {q : xM} (h : xMk q = true) : xMw q := by
  unfold xMk at h
  simp only [Bool.and_eq_true, decide_eq_true_eq] at h
  exact ⟨xw_mem h.1, h.2.1, h.2.2.1, h.2.2.2.1, Nat.le_of_ble_eq_true h.2.2.2.2.1, xw_mem h.2.2.2.2.2⟩
def xIw (own : String) (ix : Nat) (q : xM) (t : Nat) : Prop := match t with
  | 0 => Cond.methodLink own ix (xmy q) ∈ xT ∧ Cond.instanceMethod (xmy q) ∈ xT ∧ (xcl[xmk q]?).map (fun z => z.1) = some (xmy q).cls ∧ Cond.selects (xmy q).cls (xmy q) (xmy q) ∈ xT
  | 1 => Cond.methodLinkNest own ix (xmy q) "RollCutter" ∈ xN ∧ Cond.instanceMethod (xmy q) ∈ xT ∧ (xcl[xmk q]?).map (fun z => z.1) = some (xmy q).cls ∧ Cond.selects (xmy q).cls (xmy q) (xmy q) ∈ xT
  | 2 => Cond.methodLink own ix (xmy q) ∈ xT ∧ Cond.static (xmy q) ∈ xT
  | 3 => Cond.methodLinkNest own ix (xmy q) "RollCutter" ∈ xN ∧ Cond.static (xmy q) ∈ xT
  | 4 => Cond.methodLink own ix (xmy q) ∈ xT ∧ Cond.instanceMethod (xmy q) ∈ xT ∧ (xcl[xmk q]?).map (fun z => z.1) = some (xmy q).cls ∧ (xmy q).name = "<init>" ∧ xmr q = none
  | _ => Cond.methodLinkNest own ix (xmy q) "RollCutter" ∈ xN ∧ Cond.instanceMethod (xmy q) ∈ xT ∧ (xcl[xmk q]?).map (fun z => z.1) = some (xmy q).cls ∧ (xmy q).name = "<init>" ∧ xmr q = none
theorem xIv_ok {ix : Nat} {en : xE} {t : Nat} (h : xIv own ix en t = true) : ∃ q, xMs[xa3 en]? = some q ∧ xMw q ∧ xIw own ix q t := by
  unfold xIv at h
  cases hq : xMs[xa3 en]? with
  | none => rw [hq] at h; cases h
  | some q =>
    rw [hq] at h
    have h : (xMk q && xIt own ix en q t) = true := h
    rw [Bool.and_eq_true] at h
    refine ⟨q, rfl, xMk_ok h.1, ?_⟩
    have h2 := h.2
    unfold xIt at h2
    split at h2
    · simp only [xMo, Bool.and_eq_true, decide_eq_true_eq] at h2
      exact ⟨xw_mem h2.1, xw_mem h2.2.1.2, h2.2.1.1, xw_mem h2.2.2⟩
    · simp only [xMo, Bool.and_eq_true, decide_eq_true_eq] at h2
      exact ⟨xwN_mem h2.1, xw_mem h2.2.1.2, h2.2.1.1, xw_mem h2.2.2⟩
    · simp only [Bool.and_eq_true] at h2
      exact ⟨xw_mem h2.1, xw_mem h2.2⟩
    · simp only [Bool.and_eq_true] at h2
      exact ⟨xwN_mem h2.1, xw_mem h2.2⟩
    · simp only [xMo, Bool.and_eq_true, decide_eq_true_eq] at h2
      exact ⟨xw_mem h2.1, xw_mem h2.2.1.2, h2.2.1.1, h2.2.2.1, h2.2.2.2⟩
    · simp only [xMo, Bool.and_eq_true, decide_eq_true_eq] at h2
      exact ⟨xwN_mem h2.1, xw_mem h2.2.1.2, h2.2.1.1, h2.2.2.1, h2.2.2.2⟩
    · cases h2
theorem x_cats (r : List Value) : ((r.map (xG B ev sa)).map fun v => v.category).sum = (r.map fun v => v.category).sum := by
  rw [List.map_map]
  congr 1
  apply List.map_congr_left
  intro v _
  exact xG_cat B ev sa v
theorem x_tol (r : Option Value) : r.toList.map (xG B ev sa) = (r.map (xG B ev sa)).toList := by
  cases r <;> rfl
theorem xNb_on {w : Jvm.Cond} (h : xNb w = true) : w.onTables = true := by
  cases w <;> first | rfl | exact nomatch h
theorem x_nws {u U : State} (h : u.vm = U.vm) (hz : ∀ w ∈ xN, va_Nw w u) : ∀ w ∈ xN, va_Nw w U := fun w hw => va_Nw.same (xNb_on (List.mem_filter.mp hw).2) h (hz w hw)
theorem x_nwm {U : State} (hW : s.WarmedH U.vm) (hz : ∀ w ∈ xN, va_Nw w s) : ∀ w ∈ xN, va_Nw w U := by
  intro w hw
  have h1 := (List.mem_filter.mp hw).2
  have h2 := hz w hw
  cases w with
  | methodLinkNest a b c d => exact va_Nw.warmM hW h2
  | castable a b => exact va_Nw.warmC hW h2
  | _ => exact nomatch h1
theorem x_blind {w : xW} {av : List Value} : FrameBlind (va_Pc av (xPre B ev sa cA D w)) := fun a U g mk q => ⟨q.1, q.2.1, q.2.2.1, q.2.2.2.1, va_K.moved (u := U) (U := U.calling g mk a) (Vm.Alike.refl U.vm) q.2.2.2.2.1, x_nws (u := U) (U := U.calling g mk a) rfl q.2.2.2.2.2.1, q.2.2.2.2.2.2.same rfl⟩
theorem x_pcU {w : xW} {H : Heap} {av : List Value} (hz : H.size = B + w.length) (hB : B ≤ H.size) (hP : va_P D xcl (xWd B ev sa cA w) H) (hK : va_K D xcl (xTy cA) s) (hNw : ∀ w ∈ xN, va_Nw w s) (hXs : xStr B sa s H) : ∀ U : State, U.heap = H → s.WarmedH U.vm → va_Pc av (xPre B ev sa cA D w) av.toArray U := fun U hU hW => ⟨rfl, by rw [hU]; exact hB, by rw [hU]; exact hz, by rw [hU]; exact hP, va_K.moved hW.alike hK, x_nwm hW hNw, by rw [hU]; exact hXs.moved hW⟩
theorem x_rcv {w : xW} {H : Heap} {a ci : Nat} {fs : List Value} {q : xM} (hK : va_K D xcl (xTy cA) s) (hP : va_P D xcl (xWd B ev sa cA w) H) (hw : w[a]? = some (.inr (ci, fs))) (hc : ci = xmk q) (hq : (xcl[xmk q]?).map (fun z => z.1) = some (xmy q).cls) : ∃ cellB : Cell, H[B + a]? = some cellB ∧ cellB.vm.isStatics = false ∧ s.vm.findClass (xmy q).cls = some cellB.cls := by
  subst hc
  cases hz : xcl[xmk q]? with
  | none => rw [hz] at hq; cases hq
  | some z =>
    rw [hz] at hq
    obtain ⟨cell, e1, e2, e3⟩ := va_recv hK hP hz (xWd_get hw)
    exact ⟨cell, e1, e2, by rw [← Option.some.inj hq]; exact e3⟩
theorem x_gin {q : xM} (h : xMw q) : GoodIn xT (Cond.code (xmy q) (xmb q) (xml q) (xmr q) :: xT) := fun w hw => by
  rcases List.mem_cons.mp hw with rfl | hw
  · exact ⟨h.1, x_good _ h.1⟩
  · exact ⟨hw, x_good _ hw⟩
theorem x_cb {ix : Nat} {q : xM} (hts : ∀ w ∈ xT, w.before args s = true) (h : xMw q) (hl : Cond.methodLink own ix (xmy q) ∈ xT) (hR : d + 2 ≤ R.frames ∧ 40 * (d + 2) ≤ R.locals) : CallB R s args own ix (xmy q) (xmb q) (xml q) (xmr q) (Cond.code (xmy q) (xmb q) (xml q) (xmr q) :: xT) { frames := d + 1, cells := xmc q, slots := xms q, locals := 40 * (d + 1) } (xmc q) (xms q) (xmn q) :=
  callB_of (xmn q) hts (x_gin h) rfl rfl rfl (hts _ h.2.2.2.2.2) (hts _ hl) ⟨h.2.1, h.2.2.1, h.2.2.2.1⟩ ⟨hR.1, by have := h.2.2.2.2.1; show 8 + (xml q + 11) + 40 * (d + 1) ≤ R.locals; omega⟩
theorem x_nw {w : Cond} (h : w.onTables = true) (hb : w.before args s = true) : va_Nw w s := va_tabs h rfl hb
theorem x_cbN {ix : Nat} {q : xM} (hts : ∀ w ∈ xT, w.before args s = true) (hNw : ∀ w ∈ xN, va_Nw w s) (h : xMw q) (hl : Cond.methodLinkNest own ix (xmy q) "RollCutter" ∈ xN) (hR : d + 2 ≤ R.frames ∧ 40 * (d + 2) ≤ R.locals) : va_CN R s args own ix (xmy q) "RollCutter" (xmb q) (xml q) (xmr q) (Cond.code (xmy q) (xmb q) (xml q) (xmr q) :: xT) { frames := d + 1, cells := xmc q, slots := xms q, locals := 40 * (d + 1) } (xmc q) (xms q) (xmn q) :=
  va_cnB (xmn q) hts (x_gin h) rfl rfl rfl (hNw _ hl) (hts _ h.2.2.2.2.2) ⟨h.2.1, h.2.2.1, h.2.2.2.1⟩ ⟨hR.1, by have := h.2.2.2.2.1; show 8 + (xml q + 11) + 40 * (d + 1) ≤ R.locals; omega⟩
theorem x_cbI {ix : Nat} {q : xM} (hts : ∀ w ∈ xT, w.before args s = true) (h : xMw q) (hl : Cond.methodLink own ix (xmy q) ∈ xT) (hR : d + 2 ≤ R.frames ∧ 40 * (d + 2) ≤ R.locals) (hr : xmr q = none) : CallB R s args own ix (xmy q) (xmb q) (xml q) none (Cond.code (xmy q) (xmb q) (xml q) (xmr q) :: xT) { frames := d + 1, cells := xmc q, slots := xms q, locals := 40 * (d + 1) } (xmc q) (xms q) (xmn q) :=
  callB_of (xmn q) hts (x_gin h) (by rw [hr]) rfl rfl (hts _ h.2.2.2.2.2) (hts _ hl) ⟨h.2.1, h.2.2.1, h.2.2.2.1⟩ ⟨hR.1, by have := h.2.2.2.2.1; show 8 + (xml q + 11) + 40 * (d + 1) ≤ R.locals; omega⟩
theorem x_cbNI {ix : Nat} {q : xM} (hts : ∀ w ∈ xT, w.before args s = true) (hNw : ∀ w ∈ xN, va_Nw w s) (h : xMw q) (hl : Cond.methodLinkNest own ix (xmy q) "RollCutter" ∈ xN) (hR : d + 2 ≤ R.frames ∧ 40 * (d + 2) ≤ R.locals) (hr : xmr q = none) : va_CN R s args own ix (xmy q) "RollCutter" (xmb q) (xml q) none (Cond.code (xmy q) (xmb q) (xml q) (xmr q) :: xT) { frames := d + 1, cells := xmc q, slots := xms q, locals := 40 * (d + 1) } (xmc q) (xms q) (xmn q) :=
  va_cnB (xmn q) hts (x_gin h) (by rw [hr]) rfl rfl (hNw _ hl) (hts _ h.2.2.2.2.2) ⟨h.2.1, h.2.2.1, h.2.2.2.1⟩ ⟨hR.1, by have := h.2.2.2.2.1; show 8 + (xml q + 11) + 40 * (d + 1) ≤ R.locals; omega⟩
/-- behind a call -/
theorem x_cal {H : Heap} {locs : List Loc} {cells slots mc ms pc : Nat} {ls : Array Slot} {st0 rest : List Value} {a : Array Value} {r : Option Value} {w1 : xW} (hB : B ≤ s.heap.size) (hS : va_S (fun q => B ≤ q) s.heap H locs) (hr : va_Run p l e R s m args below meth c H locs cells slots mc ms (F0 m pc ls st0) rest (xPost B ev sa cA D r w1 a) (fun z => B ≤ z))
    (kk : ∀ (H1 : Heap) (locs1 : List Loc), va_P D xcl (xWd B ev sa cA w1) H1 → va_S (fun q => B ≤ q) s.heap H1 locs1 → W p l e R s m args below meth c H1 locs1 (cells + mc) (slots + ms) Q (F0 m (pc + 3) ls ((r.map (xG B ev sa)).toList ++ rest))) : W p l e R s m args below meth c H locs cells slots Q (F0 m pc ls st0) := by
  intro T hT X
  obtain ⟨v, st₀, t, T', L, h0, X', hL, e1, e2, ⟨hv, hP, hz, hk⟩, st⟩ := hr T hT X
  cases hv
  rw [h0] at hz hk
  obtain ⟨t2, a1, b1⟩ := kk T'.heap (locs ++ L) (by rw [e1]; exact hP)
    ⟨Nat.le_trans hS.1 (by rw [e1]; exact hz), fun q h1 h2 => by rw [e1, hk q (Nat.lt_of_lt_of_le h1 hS.1) h2]; exact hS.2.1 q h1 h2, fun q hq => by
      rcases List.mem_append.mp hq with h | h
      · exact hS.2.2 q h
      · exact hL q h⟩ T' rfl X'
  exact ⟨t2, st t2 a1, b1⟩

set_option maxHeartbeats 4000000 in
set_option maxRecDepth 20000 in
theorem xS_ok {tab : List xE} {call : Nat → List Value → xW → Option (Option Value × xW)} (C0 : xCx p R s m args meth c own cc nL ini B ev cA D ivs d sa LL) (hca : xCa l B ev sa cA D d call) {MC MS : Nat} (hMC : MC ≤ R.cells) (hMS : MS ≤ R.slots) (htab : ∀ q ∈ tab, xOK own ini cc q) {en : xE} {cs : List xE} {lv : List (Nat × Value)} {st : List Value} {w : xW} {mc ms : Nat} {k : xX → Option xX} {X' : xX} (hen : xOK own ini cc en) (hcs : ∀ q ∈ cs, xOK own ini cc q) (h : xS LL ivs nL MC MS call tab (en :: cs, lv, st, w, mc, ms) k = some X') : xRs p l e R s m args below meth c Q own ini cc nL B ev sa cA D k X' (en :: cs) lv st w mc ms := by
  obtain ⟨hx, hb, hml, hown, hts, hK, hB, hini, hev, hR, hLL, hNw, hXs⟩ := C0
  obtain ⟨pc, ins, len, a1, a2, a3⟩ := en
  obtain ⟨hd, hln, hlk⟩ := hen
  dsimp only at hd hln hlk
  unfold xS at h
  cases ins with
  | iconst n =>
    dsimp only at h
    have hln : Nat.beq len 1 = true := hln
    obtain rfl := xlen hln
    replace h := xPu_ok h
    obtain ⟨hp, h⟩ := h
    refine Or.inr ⟨_, _, _, _, _, _, h, hcs, fun G H locs ls h1 h2 h3 h4 => ?_⟩
    have G := G H locs ls h1 h2 h3 h4
    rw [hp] at G
    exact lv_iconst hx hb hd rfl G
  | bipush n =>
    dsimp only at h
    have hln : Nat.beq len 2 = true := hln
    obtain rfl := xlen hln
    replace h := xPu_ok h
    obtain ⟨hp, h⟩ := h
    refine Or.inr ⟨_, _, _, _, _, _, h, hcs, fun G H locs ls h1 h2 h3 h4 => ?_⟩
    have G := G H locs ls h1 h2 h3 h4
    rw [hp] at G
    exact lv_bipush hx hb hd rfl G
  | sipush n =>
    dsimp only at h
    have hln : Nat.beq len 3 = true := hln
    obtain rfl := xlen hln
    replace h := xPu_ok h
    obtain ⟨hp, h⟩ := h
    refine Or.inr ⟨_, _, _, _, _, _, h, hcs, fun G H locs ls h1 h2 h3 h4 => ?_⟩
    have G := G H locs ls h1 h2 h3 h4
    rw [hp] at G
    exact lv_sipush hx hb hd rfl G
  | lconst n =>
    dsimp only at h
    have hln : Nat.beq len 1 = true := hln
    obtain rfl := xlen hln
    replace h := xPu_ok h
    obtain ⟨hp, h⟩ := h
    refine Or.inr ⟨_, _, _, _, _, _, h, hcs, fun G H locs ls h1 h2 h3 h4 => ?_⟩
    have G := G H locs ls h1 h2 h3 h4
    rw [hp] at G
    exact lv_lconst hx hb hd rfl G
  | ldc ix =>
    dsimp only at h
    have hln : Nat.beq len 2 = true := hln
    obtain rfl := xlen hln
    have hlk : cond (Nat.beq a3 1) (Nat.beq a2 9 || (decide (own = "RollCutter$Condition") && decide ((xstr[a2]?).map (fun z => z.1) = some ix))) (xw a1 (.constant own ix (Int32.ofNat a2))) = true := hlk
    have h : cond (Nat.beq a3 1) (xgd (Nat.ble a2 4) (xPu (pc, .ldc ix, 2, a1, a2, a3) cs lv w mc ms k (.retAddr a2) st)) (xPu (pc, .ldc ix, 2, a1, a2, a3) cs lv w mc ms k (.int (Int32.ofNat a2)) st) = some X' := h
    cases h3 : Nat.beq a3 1 with
    | true =>
      rw [h3] at h hlk
      have h : xgd (Nat.ble a2 4) (xPu (pc, .ldc ix, 2, a1, a2, a3) cs lv w mc ms k (.retAddr a2) st) = some X' := h
      replace h := xgd_ok h
      obtain ⟨h9, h⟩ := h
      have h9 := Nat.le_of_ble_eq_true h9
      have hlk : (Nat.beq a2 9 || (decide (own = "RollCutter$Condition") && decide ((xstr[a2]?).map (fun z => z.1) = some ix))) = true := hlk
      rw [Bool.or_eq_true, Bool.and_eq_true, decide_eq_true_eq, decide_eq_true_eq] at hlk
      rcases hlk with hlk | ⟨ho, hi⟩
      · have := xlen hlk; omega
      · cases hq : xstr[a2]? with
        | none => rw [hq] at hi; cases hi
        | some q =>
          rw [hq] at hi
          have hi : q.1 = ix := Option.some.inj hi
          subst ho
          subst hi
          replace h := xPu_ok h
          obtain ⟨hp, h⟩ := h
          refine Or.inr ⟨_, _, _, _, _, _, h, hcs, fun G H locs ls h1 h2 h5 h4 => ?_⟩
          have G := G H locs ls h1 h2 h5 h4
          rw [hp] at G
          exact va_ldcS hx hb hown (hXs.2.2.1 a2 q hq) hd G
    | false =>
      rw [h3] at h hlk
      have h : xPu (pc, .ldc ix, 2, a1, a2, a3) cs lv w mc ms k (.int (Int32.ofNat a2)) st = some X' := h
      have hlk : xw a1 (.constant own ix (Int32.ofNat a2)) = true := hlk
      replace h := xPu_ok h
      obtain ⟨hp, h⟩ := h
      refine Or.inr ⟨_, _, _, _, _, _, h, hcs, fun G H locs ls h1 h2 h5 h4 => ?_⟩
      have G := G H locs ls h1 h2 h5 h4
      rw [hp] at G
      exact lv_ldc hx hb hown (hts _ (xw_mem hlk)) hd G
  | ldc_w ix =>
    dsimp only at h
    have hln : Nat.beq len 3 = true := hln
    obtain rfl := xlen hln
    have hlk : cond (Nat.beq a3 1) (Nat.beq a2 9) (xw a1 (.constant own ix (Int32.ofNat a2))) = true := hlk
    have h : cond (Nat.beq a3 1) none (xPu (pc, .ldc_w ix, 3, a1, a2, a3) cs lv w mc ms k (.int (Int32.ofNat a2)) st) = some X' := h
    cases h3 : Nat.beq a3 1 with
    | true => rw [h3] at h; cases h
    | false =>
      rw [h3] at h hlk
      have h : xPu (pc, .ldc_w ix, 3, a1, a2, a3) cs lv w mc ms k (.int (Int32.ofNat a2)) st = some X' := h
      have hlk : xw a1 (.constant own ix (Int32.ofNat a2)) = true := hlk
      replace h := xPu_ok h
      obtain ⟨hp, h⟩ := h
      refine Or.inr ⟨_, _, _, _, _, _, h, hcs, fun G H locs ls h1 h2 h5 h4 => ?_⟩
      have G := G H locs ls h1 h2 h5 h4
      rw [hp] at G
      exact lv_ldcw hx hb hown (hts _ (xw_mem hlk)) hd G
  | ldc2_w ix =>
    dsimp only at h
    have hln : Nat.beq len 3 = true := hln
    obtain rfl := xlen hln
    replace h := xPu_ok h
    obtain ⟨hp, h⟩ := h
    refine Or.inr ⟨_, _, _, _, _, _, h, hcs, fun G H locs ls h1 h2 h3 h4 => ?_⟩
    have G := G H locs ls h1 h2 h3 h4
    rw [hp] at G
    exact lv_ldc2 hx hb hown (hts _ (xw_mem hlk)) hd G
  | iload_n i =>
    dsimp only at h
    have hln : Nat.beq len 1 = true := hln
    obtain rfl := xlen hln
    replace h := xOp_ok h
    obtain ⟨v, hv, h⟩ := h
    replace h := xgd_ok h
    obtain ⟨hk, h⟩ := h
    replace h := xPu_ok h
    obtain ⟨hp, h⟩ := h
    refine Or.inr ⟨_, _, _, _, _, _, h, hcs, fun G H locs ls h1 h2 h3 h4 => ?_⟩
    have G := G H locs ls h1 h2 h3 h4
    rw [hp] at G
    have hl := xlv_ls h4 hv
    rw [xkd0 hk] at hl
    rw [List.map_cons, xkd0 hk] at G
    exact lv_iload_n hx hb hd rfl hl G
  | iload i =>
    dsimp only at h
    have hln : Nat.beq len 2 = true := hln
    obtain rfl := xlen hln
    replace h := xOp_ok h
    obtain ⟨v, hv, h⟩ := h
    replace h := xgd_ok h
    obtain ⟨hk, h⟩ := h
    replace h := xPu_ok h
    obtain ⟨hp, h⟩ := h
    refine Or.inr ⟨_, _, _, _, _, _, h, hcs, fun G H locs ls h1 h2 h3 h4 => ?_⟩
    have G := G H locs ls h1 h2 h3 h4
    rw [hp] at G
    have hl := xlv_ls h4 hv
    rw [xkd0 hk] at hl
    rw [List.map_cons, xkd0 hk] at G
    exact lv_iload hx hb hd hl G
  | lload_n i =>
    dsimp only at h
    have hln : Nat.beq len 1 = true := hln
    obtain rfl := xlen hln
    replace h := xOp_ok h
    obtain ⟨v, hv, h⟩ := h
    replace h := xgd_ok h
    obtain ⟨hk, h⟩ := h
    replace h := xPu_ok h
    obtain ⟨hp, h⟩ := h
    refine Or.inr ⟨_, _, _, _, _, _, h, hcs, fun G H locs ls h1 h2 h3 h4 => ?_⟩
    have G := G H locs ls h1 h2 h3 h4
    rw [hp] at G
    have hl := xlv_ls h4 hv
    rw [xkd1 hk] at hl
    rw [List.map_cons, xkd1 hk] at G
    exact lv_lload_n hx hb hd rfl hl G
  | lload i =>
    dsimp only at h
    have hln : Nat.beq len 2 = true := hln
    obtain rfl := xlen hln
    replace h := xOp_ok h
    obtain ⟨v, hv, h⟩ := h
    replace h := xgd_ok h
    obtain ⟨hk, h⟩ := h
    replace h := xPu_ok h
    obtain ⟨hp, h⟩ := h
    refine Or.inr ⟨_, _, _, _, _, _, h, hcs, fun G H locs ls h1 h2 h3 h4 => ?_⟩
    have G := G H locs ls h1 h2 h3 h4
    rw [hp] at G
    have hl := xlv_ls h4 hv
    rw [xkd1 hk] at hl
    rw [List.map_cons, xkd1 hk] at G
    exact lv_lload hx hb hd hl G
  | aload_n i =>
    dsimp only at h
    have hln : Nat.beq len 1 = true := hln
    obtain rfl := xlen hln
    replace h := xOp_ok h
    obtain ⟨v, hv, h⟩ := h
    replace h := xgd_ok h
    obtain ⟨hk, h⟩ := h
    replace h := xPu_ok h
    obtain ⟨hp, h⟩ := h
    refine Or.inr ⟨_, _, _, _, _, _, h, hcs, fun G H locs ls h1 h2 h3 h4 => ?_⟩
    have G := G H locs ls h1 h2 h3 h4
    rw [hp] at G
    have hl := xlv_ls h4 hv
    obtain ⟨a, ha⟩ := xkd2 (B := B) (ev := ev) (sa := sa) hk
    rw [ha] at hl
    rw [List.map_cons, ha] at G
    exact lv_aload_n hx hb hd rfl hl G
  | aload i =>
    dsimp only at h
    have hln : Nat.beq len 2 = true := hln
    obtain rfl := xlen hln
    replace h := xOp_ok h
    obtain ⟨v, hv, h⟩ := h
    replace h := xgd_ok h
    obtain ⟨hk, h⟩ := h
    replace h := xPu_ok h
    obtain ⟨hp, h⟩ := h
    refine Or.inr ⟨_, _, _, _, _, _, h, hcs, fun G H locs ls h1 h2 h3 h4 => ?_⟩
    have G := G H locs ls h1 h2 h3 h4
    rw [hp] at G
    have hl := xlv_ls h4 hv
    obtain ⟨a, ha⟩ := xkd2 (B := B) (ev := ev) (sa := sa) hk
    rw [ha] at hl
    rw [List.map_cons, ha] at G
    exact lv_aload hx hb hd hl G
  | istore_n i =>
    dsimp only at h
    have hln : Nat.beq len 1 = true := hln
    obtain rfl := xlen hln
    replace h := xV1_ok h
    obtain ⟨v, r, rfl, h⟩ := h
    replace h := xgd_ok h
    obtain ⟨hk, h⟩ := h
    rw [Bool.and_eq_true] at hk
    obtain ⟨hk, hi⟩ := hk
    have hi := Nat.le_of_ble_eq_true hi
    rw [xfil_eq] at h
    replace h := xNx_ok h
    obtain ⟨hp, h⟩ := h
    refine Or.inr ⟨_, _, _, _, _, _, h, hcs, fun G H locs ls h1 h2 h3 h4 => ?_⟩
    have ha := xkd0 (B := B) (ev := ev) (sa := sa) hk
    have hst := x_st1 (B := B) (ev := ev) (sa := sa) (ls := ls) (lv := lv) (i := i.val) (v := v)
    rw [ha] at hst
    rw [List.map_cons, ha]
    refine lv_istore_n hx hb hd rfl h4 hi hst (fun ls hl => ?_)
    have G := G H locs ls h1 h2 h3 hl
    rw [hp] at G
    exact G
  | istore i =>
    dsimp only at h
    have hln : Nat.beq len 2 = true := hln
    obtain rfl := xlen hln
    replace h := xV1_ok h
    obtain ⟨v, r, rfl, h⟩ := h
    replace h := xgd_ok h
    obtain ⟨hk, h⟩ := h
    rw [Bool.and_eq_true] at hk
    obtain ⟨hk, hi⟩ := hk
    have hi := Nat.le_of_ble_eq_true hi
    rw [xfil_eq] at h
    replace h := xNx_ok h
    obtain ⟨hp, h⟩ := h
    refine Or.inr ⟨_, _, _, _, _, _, h, hcs, fun G H locs ls h1 h2 h3 h4 => ?_⟩
    have ha := xkd0 (B := B) (ev := ev) (sa := sa) hk
    have hst := x_st1 (B := B) (ev := ev) (sa := sa) (ls := ls) (lv := lv) (i := i) (v := v)
    rw [ha] at hst
    rw [List.map_cons, ha]
    refine lv_istore hx hb hd h4 hi hst (fun ls hl => ?_)
    have G := G H locs ls h1 h2 h3 hl
    rw [hp] at G
    exact G
  | astore_n i =>
    dsimp only at h
    have hln : Nat.beq len 1 = true := hln
    obtain rfl := xlen hln
    replace h := xV1_ok h
    obtain ⟨v, r, rfl, h⟩ := h
    replace h := xgd_ok h
    obtain ⟨hk, h⟩ := h
    rw [Bool.and_eq_true] at hk
    obtain ⟨hk, hi⟩ := hk
    have hi := Nat.le_of_ble_eq_true hi
    rw [xfil_eq] at h
    replace h := xNx_ok h
    obtain ⟨hp, h⟩ := h
    refine Or.inr ⟨_, _, _, _, _, _, h, hcs, fun G H locs ls h1 h2 h3 h4 => ?_⟩
    obtain ⟨a, ha⟩ := xkd2 (B := B) (ev := ev) (sa := sa) hk
    have hst := x_st1 (B := B) (ev := ev) (sa := sa) (ls := ls) (lv := lv) (i := i.val) (v := v)
    rw [ha] at hst
    rw [List.map_cons, ha]
    refine lv_astore_n hx hb hd rfl h4 hi hst (fun ls hl => ?_)
    have G := G H locs ls h1 h2 h3 hl
    rw [hp] at G
    exact G
  | astore i =>
    dsimp only at h
    have hln : Nat.beq len 2 = true := hln
    obtain rfl := xlen hln
    replace h := xV1_ok h
    obtain ⟨v, r, rfl, h⟩ := h
    replace h := xgd_ok h
    obtain ⟨hk, h⟩ := h
    rw [Bool.and_eq_true] at hk
    obtain ⟨hk, hi⟩ := hk
    have hi := Nat.le_of_ble_eq_true hi
    rw [xfil_eq] at h
    replace h := xNx_ok h
    obtain ⟨hp, h⟩ := h
    refine Or.inr ⟨_, _, _, _, _, _, h, hcs, fun G H locs ls h1 h2 h3 h4 => ?_⟩
    obtain ⟨a, ha⟩ := xkd2 (B := B) (ev := ev) (sa := sa) hk
    have hst := x_st1 (B := B) (ev := ev) (sa := sa) (ls := ls) (lv := lv) (i := i) (v := v)
    rw [ha] at hst
    rw [List.map_cons, ha]
    refine lv_astore hx hb hd h4 hi hst (fun ls hl => ?_)
    have G := G H locs ls h1 h2 h3 hl
    rw [hp] at G
    exact G
  | lstore_n i =>
    dsimp only at h
    have hln : Nat.beq len 1 = true := hln
    obtain rfl := xlen hln
    replace h := xV1_ok h
    obtain ⟨v, r, rfl, h⟩ := h
    replace h := xgd_ok h
    obtain ⟨hk, h⟩ := h
    rw [Bool.and_eq_true] at hk
    obtain ⟨hk, hi⟩ := hk
    have hi := Nat.le_of_ble_eq_true hi
    rw [xfil_eq] at h
    replace h := xNx_ok h
    obtain ⟨hp, h⟩ := h
    refine Or.inr ⟨_, _, _, _, _, _, h, hcs, fun G H locs ls h1 h2 h3 h4 => ?_⟩
    have ha := xkd1 (B := B) (ev := ev) (sa := sa) hk
    have hst := x_st2 (B := B) (ev := ev) (sa := sa) (ls := ls) (lv := lv) (i := i.val) (v := v)
    rw [ha] at hst
    rw [List.map_cons, ha]
    refine lv_lstore_n hx hb hd rfl h4 hi hst (fun ls hl => ?_)
    have G := G H locs ls h1 h2 h3 hl
    rw [hp] at G
    exact G
  | lstore i =>
    dsimp only at h
    have hln : Nat.beq len 2 = true := hln
    obtain rfl := xlen hln
    replace h := xV1_ok h
    obtain ⟨v, r, rfl, h⟩ := h
    replace h := xgd_ok h
    obtain ⟨hk, h⟩ := h
    rw [Bool.and_eq_true] at hk
    obtain ⟨hk, hi⟩ := hk
    have hi := Nat.le_of_ble_eq_true hi
    rw [xfil_eq] at h
    replace h := xNx_ok h
    obtain ⟨hp, h⟩ := h
    refine Or.inr ⟨_, _, _, _, _, _, h, hcs, fun G H locs ls h1 h2 h3 h4 => ?_⟩
    have ha := xkd1 (B := B) (ev := ev) (sa := sa) hk
    have hst := x_st2 (B := B) (ev := ev) (sa := sa) (ls := ls) (lv := lv) (i := i) (v := v)
    rw [ha] at hst
    rw [List.map_cons, ha]
    refine lv_lstore hx hb hd h4 hi hst (fun ls hl => ?_)
    have G := G H locs ls h1 h2 h3 hl
    rw [hp] at G
    exact G
  | iinc i n =>
    dsimp only at h
    have hln : Nat.beq len 3 = true := hln
    obtain rfl := xlen hln
    replace h := xOp_ok h
    obtain ⟨v, hv, h⟩ := h
    replace h := xUI_ok h
    obtain ⟨x, r, hr, h⟩ := h
    cases hr
    replace h := xgd_ok h
    obtain ⟨hi, h⟩ := h
    have hi := Nat.le_of_ble_eq_true hi
    rw [fI_eq, xfil_eq] at h
    replace h := xNx_ok h
    obtain ⟨hp, h⟩ := h
    refine Or.inr ⟨_, _, _, _, _, _, h, hcs, fun G H locs ls h1 h2 h3 h4 => ?_⟩
    obtain ⟨q, hq⟩ := List.getElem?_of_mem (List.mem_map.mpr ⟨(i, .int x), xlv_mem hv, rfl⟩ : (i, Value.int x) ∈ lv.map (xG2 B ev sa))
    refine lv_iinc hx hb hd h4 hq rfl hi (x_st1 (ls := ls) (v := .int (x + Int32.ofInt n))) (fun ls hl => ?_)
    have G := G H locs ls h1 h2 h3 hl
    rw [hp] at G
    exact G
  | iadd =>
    dsimp only at h
    have hln : Nat.beq len 1 = true := hln
    obtain rfl := xlen hln
    replace h := xBI_ok h
    obtain ⟨x, y, r, rfl, h⟩ := h
    replace h := xPu_ok h
    obtain ⟨hp, h⟩ := h
    refine Or.inr ⟨_, _, _, _, _, _, h, hcs, fun G H locs ls h1 h2 h3 h4 => ?_⟩
    have G := G H locs ls h1 h2 h3 h4
    rw [hp] at G
    exact lv_iadd hx hb hd G
  | isub =>
    dsimp only at h
    have hln : Nat.beq len 1 = true := hln
    obtain rfl := xlen hln
    replace h := xBI_ok h
    obtain ⟨x, y, r, rfl, h⟩ := h
    replace h := xPu_ok h
    obtain ⟨hp, h⟩ := h
    refine Or.inr ⟨_, _, _, _, _, _, h, hcs, fun G H locs ls h1 h2 h3 h4 => ?_⟩
    have G := G H locs ls h1 h2 h3 h4
    rw [hp] at G
    exact lv_isub hx hb hd G
  | imul =>
    dsimp only at h
    have hln : Nat.beq len 1 = true := hln
    obtain rfl := xlen hln
    replace h := xBI_ok h
    obtain ⟨x, y, r, rfl, h⟩ := h
    replace h := xPu_ok h
    obtain ⟨hp, h⟩ := h
    refine Or.inr ⟨_, _, _, _, _, _, h, hcs, fun G H locs ls h1 h2 h3 h4 => ?_⟩
    have G := G H locs ls h1 h2 h3 h4
    rw [hp] at G
    exact lv_imul hx hb hd G
  | ior =>
    dsimp only at h
    have hln : Nat.beq len 1 = true := hln
    obtain rfl := xlen hln
    replace h := xBI_ok h
    obtain ⟨x, y, r, rfl, h⟩ := h
    replace h := xPu_ok h
    obtain ⟨hp, h⟩ := h
    refine Or.inr ⟨_, _, _, _, _, _, h, hcs, fun G H locs ls h1 h2 h3 h4 => ?_⟩
    have G := G H locs ls h1 h2 h3 h4
    rw [hp] at G
    exact lv_ior hx hb hd G
  | ixor =>
    dsimp only at h
    have hln : Nat.beq len 1 = true := hln
    obtain rfl := xlen hln
    replace h := xBI_ok h
    obtain ⟨x, y, r, rfl, h⟩ := h
    replace h := xPu_ok h
    obtain ⟨hp, h⟩ := h
    refine Or.inr ⟨_, _, _, _, _, _, h, hcs, fun G H locs ls h1 h2 h3 h4 => ?_⟩
    have G := G H locs ls h1 h2 h3 h4
    rw [hp] at G
    exact lv_ixor hx hb hd G
  | ishl =>
    dsimp only at h
    have hln : Nat.beq len 1 = true := hln
    obtain rfl := xlen hln
    replace h := xBI_ok h
    obtain ⟨x, y, r, rfl, h⟩ := h
    replace h := xPu_ok h
    obtain ⟨hp, h⟩ := h
    refine Or.inr ⟨_, _, _, _, _, _, h, hcs, fun G H locs ls h1 h2 h3 h4 => ?_⟩
    have G := G H locs ls h1 h2 h3 h4
    rw [hp] at G
    exact lv_ishl hx hb hd G
  | ishr =>
    dsimp only at h
    have hln : Nat.beq len 1 = true := hln
    obtain rfl := xlen hln
    replace h := xBI_ok h
    obtain ⟨x, y, r, rfl, h⟩ := h
    replace h := xPu_ok h
    obtain ⟨hp, h⟩ := h
    refine Or.inr ⟨_, _, _, _, _, _, h, hcs, fun G H locs ls h1 h2 h3 h4 => ?_⟩
    have G := G H locs ls h1 h2 h3 h4
    rw [hp] at G
    exact lv_ishr hx hb hd G
  | idiv =>
    dsimp only at h
    have hln : Nat.beq len 1 = true := hln
    obtain rfl := xlen hln
    replace h := xBI_ok h
    obtain ⟨x, y, r, rfl, h⟩ := h
    replace h := xgd_ok h
    obtain ⟨h9, h⟩ := h
    have h9 : ¬ y = 0 := by simpa using h9
    replace h := xPu_ok h
    obtain ⟨hp, h⟩ := h
    refine Or.inr ⟨_, _, _, _, _, _, h, hcs, fun G H locs ls h1 h2 h3 h4 => ?_⟩
    have G := G H locs ls h1 h2 h3 h4
    rw [hp] at G
    exact lv_idiv hx hb hd h9 G
  | irem =>
    dsimp only at h
    have hln : Nat.beq len 1 = true := hln
    obtain rfl := xlen hln
    replace h := xBI_ok h
    obtain ⟨x, y, r, rfl, h⟩ := h
    replace h := xgd_ok h
    obtain ⟨h9, h⟩ := h
    have h9 : ¬ y = 0 := by simpa using h9
    replace h := xPu_ok h
    obtain ⟨hp, h⟩ := h
    refine Or.inr ⟨_, _, _, _, _, _, h, hcs, fun G H locs ls h1 h2 h3 h4 => ?_⟩
    have G := G H locs ls h1 h2 h3 h4
    rw [hp] at G
    exact lv_irem hx hb hd h9 G
  | ladd =>
    dsimp only at h
    have hln : Nat.beq len 1 = true := hln
    obtain rfl := xlen hln
    replace h := xBL_ok h
    obtain ⟨x, y, r, rfl, h⟩ := h
    replace h := xPu_ok h
    obtain ⟨hp, h⟩ := h
    refine Or.inr ⟨_, _, _, _, _, _, h, hcs, fun G H locs ls h1 h2 h3 h4 => ?_⟩
    have G := G H locs ls h1 h2 h3 h4
    rw [hp] at G
    exact lv_ladd hx hb hd G
  | lsub =>
    dsimp only at h
    have hln : Nat.beq len 1 = true := hln
    obtain rfl := xlen hln
    replace h := xBL_ok h
    obtain ⟨x, y, r, rfl, h⟩ := h
    replace h := xPu_ok h
    obtain ⟨hp, h⟩ := h
    refine Or.inr ⟨_, _, _, _, _, _, h, hcs, fun G H locs ls h1 h2 h3 h4 => ?_⟩
    have G := G H locs ls h1 h2 h3 h4
    rw [hp] at G
    exact lv_lsub hx hb hd G
  | lmul =>
    dsimp only at h
    have hln : Nat.beq len 1 = true := hln
    obtain rfl := xlen hln
    replace h := xBL_ok h
    obtain ⟨x, y, r, rfl, h⟩ := h
    replace h := xPu_ok h
    obtain ⟨hp, h⟩ := h
    refine Or.inr ⟨_, _, _, _, _, _, h, hcs, fun G H locs ls h1 h2 h3 h4 => ?_⟩
    have G := G H locs ls h1 h2 h3 h4
    rw [hp] at G
    exact lv_lmul hx hb hd G
  | ldiv =>
    dsimp only at h
    have hln : Nat.beq len 1 = true := hln
    obtain rfl := xlen hln
    replace h := xBL_ok h
    obtain ⟨x, y, r, rfl, h⟩ := h
    replace h := xgd_ok h
    obtain ⟨h9, h⟩ := h
    have h9 : ¬ y = 0 := by simpa using h9
    replace h := xPu_ok h
    obtain ⟨hp, h⟩ := h
    refine Or.inr ⟨_, _, _, _, _, _, h, hcs, fun G H locs ls h1 h2 h3 h4 => ?_⟩
    have G := G H locs ls h1 h2 h3 h4
    rw [hp] at G
    exact lv_ldiv hx hb hd h9 G
  | lrem =>
    dsimp only at h
    have hln : Nat.beq len 1 = true := hln
    obtain rfl := xlen hln
    replace h := xBL_ok h
    obtain ⟨x, y, r, rfl, h⟩ := h
    replace h := xgd_ok h
    obtain ⟨h9, h⟩ := h
    have h9 : ¬ y = 0 := by simpa using h9
    replace h := xPu_ok h
    obtain ⟨hp, h⟩ := h
    refine Or.inr ⟨_, _, _, _, _, _, h, hcs, fun G H locs ls h1 h2 h3 h4 => ?_⟩
    have G := G H locs ls h1 h2 h3 h4
    rw [hp] at G
    exact lv_lrem hx hb hd h9 G
  | lcmp =>
    dsimp only at h
    have hln : Nat.beq len 1 = true := hln
    obtain rfl := xlen hln
    replace h := xBL_ok h
    obtain ⟨x, y, r, rfl, h⟩ := h
    replace h := xPu_ok h
    obtain ⟨hp, h⟩ := h
    refine Or.inr ⟨_, _, _, _, _, _, h, hcs, fun G H locs ls h1 h2 h3 h4 => ?_⟩
    have G := G H locs ls h1 h2 h3 h4
    rw [hp] at G
    exact W.lcmp hx hb hd G
  | ineg =>
    dsimp only at h
    have hln : Nat.beq len 1 = true := hln
    obtain rfl := xlen hln
    replace h := xUI_ok h
    obtain ⟨x, r, rfl, h⟩ := h
    replace h := xPu_ok h
    obtain ⟨hp, h⟩ := h
    refine Or.inr ⟨_, _, _, _, _, _, h, hcs, fun G H locs ls h1 h2 h3 h4 => ?_⟩
    have G := G H locs ls h1 h2 h3 h4
    rw [hp] at G
    exact lv_ineg hx hb hd G
  | lneg =>
    dsimp only at h
    have hln : Nat.beq len 1 = true := hln
    obtain rfl := xlen hln
    replace h := xUL_ok h
    obtain ⟨x, r, rfl, h⟩ := h
    replace h := xPu_ok h
    obtain ⟨hp, h⟩ := h
    refine Or.inr ⟨_, _, _, _, _, _, h, hcs, fun G H locs ls h1 h2 h3 h4 => ?_⟩
    have G := G H locs ls h1 h2 h3 h4
    rw [hp] at G
    exact lv_lneg hx hb hd G
  | i2l =>
    dsimp only at h
    have hln : Nat.beq len 1 = true := hln
    obtain rfl := xlen hln
    replace h := xUI_ok h
    obtain ⟨x, r, rfl, h⟩ := h
    replace h := xPu_ok h
    obtain ⟨hp, h⟩ := h
    refine Or.inr ⟨_, _, _, _, _, _, h, hcs, fun G H locs ls h1 h2 h3 h4 => ?_⟩
    have G := G H locs ls h1 h2 h3 h4
    rw [hp] at G
    exact lv_i2l hx hb hd rfl G
  | l2i =>
    dsimp only at h
    have hln : Nat.beq len 1 = true := hln
    obtain rfl := xlen hln
    replace h := xUL_ok h
    obtain ⟨x, r, rfl, h⟩ := h
    replace h := xPu_ok h
    obtain ⟨hp, h⟩ := h
    refine Or.inr ⟨_, _, _, _, _, _, h, hcs, fun G H locs ls h1 h2 h3 h4 => ?_⟩
    have G := G H locs ls h1 h2 h3 h4
    rw [hp] at G
    exact lv_l2i hx hb hd rfl G
  | i2b =>
    dsimp only at h
    have hln : Nat.beq len 1 = true := hln
    obtain rfl := xlen hln
    replace h := xUI_ok h
    obtain ⟨x, r, rfl, h⟩ := h
    replace h := xPu_ok h
    obtain ⟨hp, h⟩ := h
    refine Or.inr ⟨_, _, _, _, _, _, h, hcs, fun G H locs ls h1 h2 h3 h4 => ?_⟩
    have G := G H locs ls h1 h2 h3 h4
    rw [hp] at G
    exact lv_i2b hx hb hd rfl G
  | iand =>
    dsimp only at h
    have hln : Nat.beq len 1 = true := hln
    obtain rfl := xlen hln
    replace h := xUI_ok h
    obtain ⟨y, r, rfl, h⟩ := h
    replace h := xV1_ok h
    obtain ⟨v, r, rfl, h⟩ := h
    cases v with
    | int x =>
      replace h := xPu_ok h
      obtain ⟨hp, h⟩ := h
      refine Or.inr ⟨_, _, _, _, _, _, h, hcs, fun G H locs ls h1 h2 h3 h4 => ?_⟩
      have G := G H locs ls h1 h2 h3 h4
      rw [hp] at G
      exact lv_iand hx hb hd G
    | float q =>
      replace h := xgd_ok h
      obtain ⟨h9, h⟩ := h
      rw [Bool.and_eq_true, decide_eq_true_eq] at h9
      obtain ⟨h9, h8⟩ := h9
      have h8 := xlen h8
      replace h := xPu_ok h
      obtain ⟨hp, h⟩ := h
      refine Or.inr ⟨_, _, _, _, _, _, h, hcs, fun G H locs ls h1 h2 h3 h4 => ?_⟩
      have G := G H locs ls h1 h2 h3 h4
      rw [hp] at G
      have G : W p l e R s m args below meth c H locs mc ms Q (F0 m (pc + 1) ls (.int (ev 4) :: r.map (xG B ev sa))) := G
      rw [hev.2] at G
      subst h9
      show W p l e R s m args below meth c H locs mc ms Q (F0 m pc ls (.int 63 :: .int (ev q.toNat) :: r.map (xG B ev sa)))
      rw [h8]
      exact lv_iand hx hb hd G
    | _ => exact nomatch h
  | dup =>
    dsimp only at h
    have hln : Nat.beq len 1 = true := hln
    obtain rfl := xlen hln
    replace h := xV1_ok h
    obtain ⟨v, r, rfl, h⟩ := h
    replace h := xgd_ok h
    obtain ⟨h9, h⟩ := h
    replace h := xNx_ok h
    obtain ⟨hp, h⟩ := h
    refine Or.inr ⟨_, _, _, _, _, _, h, hcs, fun G H locs ls h1 h2 h3 h4 => ?_⟩
    have G := G H locs ls h1 h2 h3 h4
    rw [hp] at G
    exact lv_dup hx hb hd (by rw [xG_cat]; exact xlen h9) G
  | dup2 =>
    dsimp only at h
    have hln : Nat.beq len 1 = true := hln
    obtain rfl := xlen hln
    replace h := xV1_ok h
    obtain ⟨v, r, rfl, h⟩ := h
    replace h := xV1_ok h
    obtain ⟨u, r, rfl, h⟩ := h
    replace h := xgd_ok h
    obtain ⟨h9, h⟩ := h
    rw [Bool.and_eq_true] at h9
    replace h := xNx_ok h
    obtain ⟨hp, h⟩ := h
    refine Or.inr ⟨_, _, _, _, _, _, h, hcs, fun G H locs ls h1 h2 h3 h4 => ?_⟩
    have G := G H locs ls h1 h2 h3 h4
    rw [hp] at G
    exact lv_dup2_11 hx hb hd (by rw [xG_cat]; exact xlen h9.1) (by rw [xG_cat]; exact xlen h9.2) G
  | pop =>
    dsimp only at h
    have hln : Nat.beq len 1 = true := hln
    obtain rfl := xlen hln
    replace h := xV1_ok h
    obtain ⟨v, r, rfl, h⟩ := h
    replace h := xgd_ok h
    obtain ⟨h9, h⟩ := h
    replace h := xNx_ok h
    obtain ⟨hp, h⟩ := h
    refine Or.inr ⟨_, _, _, _, _, _, h, hcs, fun G H locs ls h1 h2 h3 h4 => ?_⟩
    have G := G H locs ls h1 h2 h3 h4
    rw [hp] at G
    exact lv_pop hx hb hd (by rw [xG_cat]; exact xlen h9) G
  | if_icmp op off =>
    dsimp only at h
    have hln : Nat.beq len 3 = true := hln
    obtain rfl := xlen hln
    replace h := xV1_ok h
    obtain ⟨y, r, rfl, h⟩ := h
    replace h := xV1_ok h
    obtain ⟨x, r, rfl, h⟩ := h
    replace h := xBr_ok (B := B) (sa := sa) hev h
    obtain ⟨b, cs1, hgx, hgy, hr, h, ht, hf, hm, h0⟩ := h
    refine Or.inr ⟨_, _, _, _, _, _, h, fun q hq => (hm q hq).elim (htab q) (hcs q), fun G H locs ls h1 h2 h3 h4 => ?_⟩
    have G := G H locs ls h1 h2 h3 h4
    rw [List.map_cons, List.map_cons, hgx, hgy]
    exact x_icmp hx hb hd hr ht hf h0 G
  | ifCond op off =>
    dsimp only at h
    have hln : Nat.beq len 3 = true := hln
    obtain rfl := xlen hln
    replace h := xV1_ok h
    obtain ⟨x, r, rfl, h⟩ := h
    replace h := xBr_ok (B := B) (sa := sa) hev h
    obtain ⟨b, cs1, hgx, hgy, hr, h, ht, hf, hm, h0⟩ := h
    refine Or.inr ⟨_, _, _, _, _, _, h, fun q hq => (hm q hq).elim (htab q) (hcs q), fun G H locs ls h1 h2 h3 h4 => ?_⟩
    have G := G H locs ls h1 h2 h3 h4
    rw [List.map_cons, hgx]
    exact x_if hx hb hd hr ht hf h0 G
  | goto off =>
    dsimp only at h
    have hln : Nat.beq len 3 = true := hln
    obtain rfl := xlen hln
    replace h := xJm_ok h
    obtain ⟨cs1, h8, h, hm⟩ := h
    refine Or.inr ⟨_, _, _, _, _, _, h, fun q hq => htab q (hm q hq), fun G H locs ls h1 h2 h3 h4 => ?_⟩
    exact lv_goto hx hb hd h8 (G H locs ls h1 h2 h3 h4)
  | tableswitch dd lo hi offs =>
    dsimp only at h
    replace h := xV1_ok h
    obtain ⟨x, r, rfl, h⟩ := h
    replace h := xOp_ok h
    obtain ⟨a, ha, h⟩ := h
    have qa := xbd_ok hev ha (B := B) (sa := sa)
    cases hc : (decide (a.1 = a.2) && (decide (lo ≤ a.1) && decide (a.1 ≤ hi))) with
    | true =>
      rw [hc] at h
      simp only [Bool.and_eq_true, decide_eq_true_eq] at hc
      replace h := xOp_ok h
      obtain ⟨off, ho, h⟩ := h
      rw [xnth_eq, Array.getElem?_toList] at ho
      replace h := xJm_ok h
      obtain ⟨cs1, h8, h, hm⟩ := h
      refine Or.inr ⟨_, _, _, _, _, _, h, fun q hq => htab q (hm q hq), fun G H locs ls h1 h2 h3 h4 => ?_⟩
      have hv : (xi ev x).toInt = a.1 := by omega
      rw [List.map_cons, qa.2]
      exact lv_tableIn hx hb hd (by omega) (by omega) (by rw [hv]; exact ho) h8 (G H locs ls h1 h2 h3 h4)
    | false =>
      rw [hc] at h
      replace h := xgd_ok h
      obtain ⟨h9, h⟩ := h
      simp only [Bool.or_eq_true, decide_eq_true_eq] at h9
      replace h := xJm_ok h
      obtain ⟨cs1, h8, h, hm⟩ := h
      refine Or.inr ⟨_, _, _, _, _, _, h, fun q hq => htab q (hm q hq), fun G H locs ls h1 h2 h3 h4 => ?_⟩
      rw [List.map_cons, qa.2]
      exact lv_tableOut hx hb hd (by omega) h8 (G H locs ls h1 h2 h3 h4)
  | getfield ix =>
    dsimp only at h
    have hln : Nat.beq len 3 = true := hln
    obtain rfl := xlen hln
    replace h := xRf_ok h
    obtain ⟨a, r, rfl, h⟩ := h
    replace h := xOb_ok h
    obtain ⟨ci, fs, hw, h⟩ := h
    replace h := xgd_ok h
    obtain ⟨hc, h⟩ := h
    obtain rfl := xlen hc
    replace h := xOp_ok h
    obtain ⟨v, hv, h⟩ := h
    rw [xnth_eq] at hv
    replace h := xPu_ok h
    obtain ⟨hp, h⟩ := h
    obtain ⟨q, hq, k1, k2, k3⟩ := xFl_ok hlk
    refine Or.inr ⟨_, _, _, _, _, _, h, hcs, fun G H locs ls h1 h2 h3 h4 => ?_⟩
    have G := G H locs ls h1 h2 h3 h4
    rw [hp] at G
    exact va_get (D := D) (C := q.1) (T := q.2.1) (N := q.2.2) hx hb hts (x_hin hq) hown hK h2 a (xWd_get hw) hq (a2 % 100) k1 (hts _ k3) (fun _ z => by rw [k2] at z; exact z) (by rw [List.getElem?_map]; exact congrArg (Option.map _) hv) hd G
  | putfield ix =>
    dsimp only at h
    have hln : Nat.beq len 3 = true := hln
    obtain rfl := xlen hln
    replace h := xV1_ok h
    obtain ⟨v, r, rfl, h⟩ := h
    replace h := xRf_ok h
    obtain ⟨a, r, rfl, h⟩ := h
    replace h := xOb_ok h
    obtain ⟨ci, fs, hw, h⟩ := h
    replace h := xgd_ok h
    obtain ⟨hc, h⟩ := h
    simp only [Bool.and_eq_true] at hc
    obtain ⟨hc, hle, hft⟩ := hc
    obtain rfl := xlen hc
    have hle := Nat.le_of_ble_eq_true hle
    rw [setK_eq, setK_eq] at h
    replace h := xNx_ok h
    obtain ⟨hp, h⟩ := h
    have hlk : (xFl own ix (pc, .putfield ix, 3, a1, a2, a3) && xFt own ini (pc, .putfield ix, 3, a1, a2, a3)) = true := hlk
    rw [Bool.and_eq_true] at hlk
    obtain ⟨q, hq, k1, k2, k3⟩ := xFl_ok hlk.1
    obtain ⟨ty, hty, ht1, hfin⟩ := xFt_ok hlk.2 hq
    obtain ⟨ty', fs', hty', -, q1, q2, -, q4, -⟩ := x_cls _ q hq
    rw [hty] at hty'
    cases hty'
    have hnf := xft_ok (B := B) (ev := ev) (sa := sa) hft ht1
    refine Or.inr ⟨_, _, _, _, _, _, h, hcs, fun G H locs ls h1 h2 h3 h4 => ?_⟩
    have key : ∀ (H1 : Heap) (locs1 : List Loc), va_P D xcl ((xWd B ev sa cA w).set a (B + a, .inr (a2 / 100, (fs.map (xG B ev sa)).set (a2 % 100) (xG B ev sa v)))) H1 → va_S (fun q => B ≤ q) s.heap H1 locs1 → W p l e R s m args below meth c H1 locs1 mc ms Q (F0 m (pc + 3) ls (r.map (xG B ev sa))) := by
      intro H1 locs1 hP1 hS1
      have e1 : (B + a, (.inr (a2 / 100, (fs.map (xG B ev sa)).set (a2 % 100) (xG B ev sa v)) : va_E)) = (B + a, xCe B ev sa cA (.inr (a2 / 100, fs.set (a2 % 100) v))) := by
        show _ = (B + a, (.inr (a2 / 100, (fs.set (a2 % 100) v).map (xG B ev sa)) : va_E))
        rw [List.map_set]
      rw [e1, xWd_set] at hP1
      have G := G H1 locs1 ls (by rw [xw_set]; exact h1) hP1 hS1 h4
      rw [hp] at G
      exact G
    have hl9 : a2 % 100 < (fs.map (xG B ev sa)).length := by rw [List.length_map]; exact hle
    rcases hfin with hfin | ⟨hi1, hi2, hi3⟩
    · exact va_put (D := D) (C := q.1) (T := q.2.1) (N := q.2.2) hx hb hts (x_hin hq) ty q2 q4 hown hK h2 (xWd_D w) h3 a (xWd_get hw) hq (a2 % 100) k1 (hts _ k3) (fun _ z => by rw [k2] at z; exact z) hfin (q2 _ k1) hnf.1 hnf.2 hl9 hd (fun H1 locs1 hP1 _ hS1 => key H1 locs1 hP1 hS1)
    · exact va_putF (D := D) (C := q.1) (T := q.2.1) (N := q.2.2) hx hb hts (x_hin hq) ty q2 q4 hown hK h2 (xWd_D w) h3 a (xWd_get hw) hq (a2 % 100) k1 (hts _ k3) (fun _ z => by rw [k2] at z; exact z) hi3 (hini hi1) (by rw [k2]; exact hi2.symm) (q2 _ k1) hnf.1 hnf.2 hl9 hd (fun H1 locs1 hP1 _ hS1 => key H1 locs1 hP1 hS1)
  | new ix =>
    dsimp only at h
    have hln : Nat.beq len 3 = true := hln
    obtain rfl := xlen hln
    have hlk : (match xcl[a2]? with | some q => xw a1 (.classLink own ix q.1) | none => false) = true := hlk
    replace h := xOp_ok h
    obtain ⟨fs, hfs, h⟩ := h
    rw [xnth_eq] at hfs
    cases hq : xcl[a2]? with
    | none => rw [hq] at hlk; cases hlk
    | some q =>
      rw [hq] at hlk
      have hlk : xw a1 (.classLink own ix q.1) = true := hlk
      obtain ⟨ty, fs', hty, hfs', q1, q2, q3, q4, q5, q6, q7, q8⟩ := x_cls _ q hq
      cases Option.some.inj (hfs.symm.trans hfs')
      replace h := xNw_ok h
      obtain ⟨g1, g2, hp, h⟩ := h
      refine Or.inr ⟨_, _, _, _, _, _, h, hcs, fun G H locs ls h1 h2 h3 h4 => ?_⟩
      rw [q5] at g2 G
      refine va_new (D := D) (C := q.1) (T := q.2.1) (N := q.2.2) (fs := fs) hx hb hts q1 ty q2 hown (hts _ (xw_mem hlk)) (hts _ q7) (hts _ q8) hK h2 (xWd_D w) h3 (fun z hz => Nat.le_trans hB hz) hq q3 (by omega) (by omega) hd (fun z H1 hP1 hD1 hS1 => ?_)
      refine x_sz (fun hz => ?_)
      obtain rfl := x_new hP1 hD1 (by omega)
      have e1 : (B + w.length, (.inr (a2, fs) : va_E)) = (B + w.length, xCe B ev sa cA (.inr (a2, fs))) := by
        show _ = (B + w.length, (.inr (a2, fs.map (xG B ev sa)) : va_E))
        rw [x_plm q6]
      rw [e1, ← xWd_app] at hP1
      have G := G H1 locs ls (by rw [List.length_append]; show _ = B + (w.length + 1); omega) hP1 hS1 h4
      rw [hp] at G
      exact G
  | multianewarray ix nd =>
    dsimp only at h
    have hln : Nat.beq len 4 = true := hln
    obtain rfl := xlen hln
    have hlk : (Nat.beq nd 2 && xw a1 (.classLink own ix "[[J")) = true := hlk
    rw [Bool.and_eq_true] at hlk
    have hnd : nd = 2 := xlen hlk.1
    subst hnd
    replace h := xUI_ok h
    obtain ⟨kk, r, rfl, h⟩ := h
    replace h := xUI_ok h
    obtain ⟨n, r, rfl, h⟩ := h
    replace h := xgd_ok h
    obtain ⟨hg, h⟩ := h
    simp only [Bool.and_eq_true, decide_eq_true_eq] at hg
    obtain ⟨rfl, g2, g3, g4, g5⟩ := hg
    have g4 := Nat.le_of_ble_eq_true g4
    have g5 := Nat.le_of_ble_eq_true g5
    rw [fN_eq, fN_eq, fN_eq, fN_eq, xMa_eq] at h
    replace h := xNx_ok h
    obtain ⟨hp, h⟩ := h
    refine Or.inr ⟨_, _, _, _, _, _, h, hcs, fun G0 H locs ls h1 h2 h3 h4 => ?_⟩
    refine x_sz (fun hz0 => ?_)
    have hsz : H.size = B + w.length := by have := x_low h2 (Nat.le_trans hB h3.1); omega
    have hk0 : ¬ kk < 0 := by rw [Int32.lt_iff_toInt_lt, Int32.toInt_zero]; omega
    have hk1 : kk.toNatClampNeg ≤ 1000 := by
      have : kk.toNatClampNeg = kk.toInt.toNat := rfl
      omega
    have h6 : (6 : Int32).toNatClampNeg = 6 := by decide
    have es : "[" ++ (FieldType.array .long).toString = "[[J" := by decide +kernel
    intro T hT X
    obtain ⟨cO, cI, f1, f2, U, XU, hH, stp⟩ := mz_stand X hx hown (by rw [es]; exact hts _ (xw_mem hlk.2)) hXs.2.2.2 (hts _ ws_jl) (g := F0 m pc ls (.int kk :: .int 6 :: r.map (xG B ev sa))) rfl (by rw [hb]; exact hd) rfl (by decide) hk0 (by decide) hk1 (by rw [h6]; omega) (by rw [h6]; omega)
    rw [h6] at XU hH
    rw [hT] at hH
    have c4 : cO = cA 4 := Option.some.inj (f1.symm.trans (hK.2 4 _ rfl).2)
    have c1 : cI = cA 1 := Option.some.inj (f2.symm.trans (hK.2 1 _ rfl).2)
    rw [c4, c1] at hH
    have hP1 := x_ma7 h2 hsz hH
    have hS1 : va_S (fun q => B ≤ q) s.heap U.heap (locs ++ (List.range 6).map fun j => ⟨T.heap.size, j⟩) := by
      refine ⟨Nat.le_trans h3.1 (by rw [hH.1]; omega), fun q q1 q2 => by rw [hH.2.1 q (Nat.lt_of_lt_of_le q1 h3.1)]; exact h3.2.1 q q1 q2, fun z hz => ?_⟩
      rcases List.mem_append.mp hz with hz | hz
      · exact h3.2.2 z hz
      · obtain ⟨j, _, rfl⟩ := List.mem_map.mp hz
        show B ≤ T.heap.size
        rw [hT]; omega
    have e1 : mc + 1 + 6 = mc + 7 := by omega
    have e2 : ms + 6 + 6 * kk.toNatClampNeg = ms + (6 + 6 * kk.toNatClampNeg) := by omega
    rw [e1, e2] at XU
    obtain ⟨t2, a5, b5⟩ := G0 U.heap _ ls (by rw [x_ma7l]; omega) hP1 hS1 h4 U rfl XU
    refine ⟨t2, stp t2 ?_, b5⟩
    rw [hp] at a5
    rw [hT, hsz]
    exact a5
  | newarray t =>
    dsimp only at h
    have hln : Nat.beq len 2 = true := hln
    obtain rfl := xlen hln
    have hlk : (xat a2 t && xw a1 (.arrayClass (newarray.typeOf t))) = true := hlk
    rw [Bool.and_eq_true] at hlk
    replace h := xUI_ok h
    obtain ⟨n, r, rfl, h⟩ := h
    replace h := xgd_ok h
    obtain ⟨hg, h⟩ := h
    rw [Bool.and_eq_true, decide_eq_true_eq, decide_eq_true_eq] at hg
    rw [fN_eq] at h
    replace h := xNw_ok h
    obtain ⟨g1, g2, hp, h⟩ := h
    obtain ⟨z1, z2, z3, z4⟩ := x_nwa (B := B) (ev := ev) (cA := cA) (N := n.toNatClampNeg) hlk.1
    refine Or.inr ⟨_, _, _, _, _, _, h, hcs, fun G H locs ls h1 h2 h3 h4 => ?_⟩
    have hn0 : ¬ n < 0 := by rw [Int32.lt_iff_toInt_lt, Int32.toInt_zero]; omega
    have hn1 : n.toNatClampNeg ≤ 60000 := by
      have : n.toNatClampNeg = n.toInt.toNat := rfl
      omega
    refine va_newa (D := D) hx hb (hts _ (xw_mem hlk.2)) rfl hK h2 (xWd_D w) h3 (fun z hz => Nat.le_trans hB hz) z1 hn0 rfl (Nat.le_trans (Nat.mul_le_mul hn1 z4) (by decide)) (by omega) (by omega) hd (fun z c1 H1 hK1 hP1 hD1 hS1 => ?_)
    refine x_sz (fun hz => ?_)
    obtain rfl := x_new hP1 hD1 (by omega)
    have hc1 : c1 = cA a2 := z3 s c1 (hK1.2 5 (c1, newarray.typeOf t) rfl).2 (hK.2 a2 _ z2).2
    rw [hc1] at hP1
    have e1 : (B + w.length, (.inl (cA a2, xAr B ev (a2, n.toNatClampNeg, [])) : va_E)) = (B + w.length, xCe B ev sa cA (.inl (a2, n.toNatClampNeg, []))) := rfl
    rw [e1, ← xWd_app] at hP1
    have G := G H1 locs ls (by rw [List.length_append]; show _ = B + (w.length + 1); omega) hP1 hS1 h4
    rw [hp] at G
    exact G
  | iaload =>
    dsimp only at h
    have hln : Nat.beq len 1 = true := hln
    obtain rfl := xlen hln
    replace h := xUI_ok h
    obtain ⟨i, r, rfl, h⟩ := h
    replace h := xV1_ok h
    obtain ⟨v, r, rfl, h⟩ := h
    cases v with
    | ref a =>
      replace h := xAy_ok h
      obtain ⟨t, n, es, hw, h⟩ := h
      replace h := xgd_ok h
      obtain ⟨hg, h⟩ := h
      simp only [Bool.and_eq_true] at hg
      obtain ⟨ht, hin, hk⟩ := hg
      replace h := xPu_ok h
      obtain ⟨hp, h⟩ := h
      have ht : t = 0 := xlen ht
      subst ht
      refine Or.inr ⟨_, _, _, _, _, _, h, hcs, fun G H locs ls h1 h2 h3 h4 => ?_⟩
      have G := G H locs ls h1 h2 h3 h4
      rw [hp] at G
      rw [List.map_cons, xkd0 hk] at G
      exact va_iald hx hb hK h2 a 0 (xWd_get hw) rfl (x_in hin) hd G
    | retAddr q =>
      replace h := xOp_ok h
      obtain ⟨L, hL, h⟩ := h
      replace h := xgd_ok h
      obtain ⟨hg, h⟩ := h
      simp only [Bool.and_eq_true] at hg
      obtain ⟨ht, hin, hk⟩ := hg
      have ht : q = 5 := xlen ht
      subst ht
      have hk := Nat.le_of_ble_eq_true hk
      rw [fN_eq] at h
      obtain ⟨l1, l2, l3⟩ := hLL L hL
      replace h := xOp_ok h
      obtain ⟨iv, hiv, h⟩ := h
      rw [xnth_eq] at hiv
      have hb9 := hev.1 _ iv hiv
      cases hc9 : decide (iv.1 = iv.2) with
      | true =>
        rw [hc9] at h
        have h : xPu (pc, .iaload, 1, a1, a2, a3) cs lv w mc ms k (.int (Int32.ofInt iv.1)) r = some X' := h
        have hc9 := of_decide_eq_true hc9
        have hu : Int32.ofInt iv.1 = ev i.toNatClampNeg := by
          rw [show iv.1 = (ev i.toNatClampNeg).toInt by omega, Int32.ofInt_toInt]
        replace h := xPu_ok h
        obtain ⟨hp, h⟩ := h
        refine Or.inr ⟨_, _, _, _, _, _, h, hcs, fun G H locs ls h1 h2 h3 h4 => ?_⟩
        have G := G H locs ls h1 h2 h3 h4
        rw [hp] at G
        have G : W p l e R s m args below meth c H locs mc ms Q (F0 m (pc + 1) ls (.int (Int32.ofInt iv.1) :: r.map (xG B ev sa))) := G
        rw [hu] at G
        exact va_sld hx hb l1 l2 l3 h3 (x_in hin) hd G
      | false =>
        rw [hc9] at h
        have h : xPu (pc, .iaload, 1, a1, a2, a3) cs lv w mc ms k (.float (UInt32.ofNat i.toNatClampNeg)) r = some X' := h
        replace h := xPu_ok h
        obtain ⟨hp, h⟩ := h
        refine Or.inr ⟨_, _, _, _, _, _, h, hcs, fun G H locs ls h1 h2 h3 h4 => ?_⟩
        have G := G H locs ls h1 h2 h3 h4
        rw [hp] at G
        have hu : (UInt32.ofNat i.toNatClampNeg).toNat = i.toNatClampNeg := UInt32.toNat_ofNat_of_lt (Nat.lt_of_le_of_lt hk (by decide))
        have G : W p l e R s m args below meth c H locs mc ms Q (F0 m (pc + 1) ls (.int (ev (UInt32.ofNat i.toNatClampNeg).toNat) :: r.map (xG B ev sa))) := G
        rw [hu] at G
        exact va_sld hx hb l1 l2 l3 h3 (x_in hin) hd G
    | _ => exact nomatch h
  | baload =>
    dsimp only at h
    have hln : Nat.beq len 1 = true := hln
    obtain rfl := xlen hln
    replace h := xUI_ok h
    obtain ⟨i, r, rfl, h⟩ := h
    replace h := xRf_ok h
    obtain ⟨a, r, rfl, h⟩ := h
    replace h := xAy_ok h
    obtain ⟨t, n, es, hw, h⟩ := h
    replace h := xgd_ok h
    obtain ⟨hg, h⟩ := h
    simp only [Bool.and_eq_true, Bool.or_eq_true] at hg
    obtain ⟨ht, hin, hk⟩ := hg
    replace h := xPu_ok h
    obtain ⟨hp, h⟩ := h
    rcases ht with ht | ht
    · have ht : t = 2 := xlen ht
      subst ht
      refine Or.inr ⟨_, _, _, _, _, _, h, hcs, fun G H locs ls h1 h2 h3 h4 => ?_⟩
      have G := G H locs ls h1 h2 h3 h4
      rw [hp] at G
      rw [List.map_cons, xkd0 hk] at G
      exact va_bald hx hb hK h2 a 2 (xWd_get hw) rfl (x_in hin) hd G
    · have ht : t = 3 := xlen ht
      subst ht
      refine Or.inr ⟨_, _, _, _, _, _, h, hcs, fun G H locs ls h1 h2 h3 h4 => ?_⟩
      have G := G H locs ls h1 h2 h3 h4
      rw [hp] at G
      rw [List.map_cons, xkd0 hk] at G
      exact va_zald hx hb hK h2 a 3 (xWd_get hw) rfl (x_in hin) hd G
  | laload =>
    dsimp only at h
    have hln : Nat.beq len 1 = true := hln
    obtain rfl := xlen hln
    replace h := xUI_ok h
    obtain ⟨i, r, rfl, h⟩ := h
    replace h := xRf_ok h
    obtain ⟨a, r, rfl, h⟩ := h
    replace h := xAy_ok h
    obtain ⟨t, n, es, hw, h⟩ := h
    replace h := xgd_ok h
    obtain ⟨hg, h⟩ := h
    simp only [Bool.and_eq_true] at hg
    obtain ⟨ht, hin, hk⟩ := hg
    replace h := xPu_ok h
    obtain ⟨hp, h⟩ := h
    have ht : t = 1 := xlen ht
    subst ht
    refine Or.inr ⟨_, _, _, _, _, _, h, hcs, fun G H locs ls h1 h2 h3 h4 => ?_⟩
    have G := G H locs ls h1 h2 h3 h4
    rw [hp] at G
    rw [List.map_cons, xkd1 hk] at G
    exact va_lald hx hb hK h2 a 1 (xWd_get hw) rfl (x_in hin) hd G
  | iastore =>
    dsimp only at h
    have hln : Nat.beq len 1 = true := hln
    obtain rfl := xlen hln
    replace h := xV1_ok h
    obtain ⟨v, r, rfl, h⟩ := h
    replace h := xUI_ok h
    obtain ⟨i, r, rfl, h⟩ := h
    replace h := xRf_ok h
    obtain ⟨a, r, rfl, h⟩ := h
    replace h := xAy_ok h
    obtain ⟨t, n, es, hw, h⟩ := h
    replace h := xgd_ok h
    obtain ⟨hg, h⟩ := h
    simp only [Bool.and_eq_true] at hg
    obtain ⟨ht, hin, hk⟩ := hg
    rw [fN_eq, setK_eq] at h
    replace h := xNx_ok h
    obtain ⟨hp, h⟩ := h
    have ht : t = 0 := xlen ht
    subst ht
    refine Or.inr ⟨_, _, _, _, _, _, h, hcs, fun G H locs ls h1 h2 h3 h4 => ?_⟩
    rw [List.map_cons, xkd0 hk]
    refine va_iast hx hb hK h2 (xWd_D w) h3 a 0 (xWd_get hw) rfl (x_in hin) hd (fun H1 locs1 hP1 _ hS1 => ?_)
    have e1 : (B + a, (.inl (cA 0, n, .inl (upd (fun j => xi ev (xlk es (.int 0) j)) i.toNatClampNeg (xi ev v))) : va_E)) = (B + a, xCe B ev sa cA (.inl (0, n, (i.toNatClampNeg, v) :: es))) := by
      rw [x_upd (v := v) rfl]
      rfl
    
    rw [e1, xWd_set] at hP1
    have G := G H1 locs1 ls (by rw [xw_set]; exact h1) hP1 hS1 h4
    rw [hp] at G
    exact G
  | lastore =>
    dsimp only at h
    have hln : Nat.beq len 1 = true := hln
    obtain rfl := xlen hln
    replace h := xV1_ok h
    obtain ⟨v, r, rfl, h⟩ := h
    replace h := xUI_ok h
    obtain ⟨i, r, rfl, h⟩ := h
    replace h := xRf_ok h
    obtain ⟨a, r, rfl, h⟩ := h
    replace h := xAy_ok h
    obtain ⟨t, n, es, hw, h⟩ := h
    replace h := xgd_ok h
    obtain ⟨hg, h⟩ := h
    simp only [Bool.and_eq_true] at hg
    obtain ⟨ht, hin, hk⟩ := hg
    rw [fN_eq, setK_eq] at h
    replace h := xNx_ok h
    obtain ⟨hp, h⟩ := h
    have ht : t = 1 := xlen ht
    subst ht
    refine Or.inr ⟨_, _, _, _, _, _, h, hcs, fun G H locs ls h1 h2 h3 h4 => ?_⟩
    rw [List.map_cons, xkd1 hk]
    refine va_last hx hb hK h2 (xWd_D w) h3 a 1 (xWd_get hw) rfl (x_in hin) hd (fun H1 locs1 hP1 _ hS1 => ?_)
    have e1 : (B + a, (.inl (cA 1, n, .inr (.inl (vp_updL (fun j => xl (xlk es (.long 0) j)) i.toNatClampNeg (xl v)))) : va_E)) = (B + a, xCe B ev sa cA (.inl (1, n, (i.toNatClampNeg, v) :: es))) := by
      rw [x_updL (v := v) rfl]
      rfl
    
    rw [e1, xWd_set] at hP1
    have G := G H1 locs1 ls (by rw [xw_set]; exact h1) hP1 hS1 h4
    rw [hp] at G
    exact G
  | bastore =>
    dsimp only at h
    have hln : Nat.beq len 1 = true := hln
    obtain rfl := xlen hln
    replace h := xUI_ok h
    obtain ⟨x, r, rfl, h⟩ := h
    replace h := xUI_ok h
    obtain ⟨i, r, rfl, h⟩ := h
    replace h := xRf_ok h
    obtain ⟨a, r, rfl, h⟩ := h
    replace h := xAy_ok h
    obtain ⟨t, n, es, hw, h⟩ := h
    replace h := xgd_ok h
    obtain ⟨hg, h⟩ := h
    simp only [Bool.and_eq_true] at hg
    obtain ⟨ht, hin⟩ := hg
    rw [fN_eq, fI_eq, setK_eq] at h
    replace h := xNx_ok h
    obtain ⟨hp, h⟩ := h
    have ht : t = 2 := xlen ht
    subst ht
    refine Or.inr ⟨_, _, _, _, _, _, h, hcs, fun G H locs ls h1 h2 h3 h4 => ?_⟩
    refine va_bast hx hb hK h2 (xWd_D w) h3 a 2 (xWd_get hw) rfl (x_in hin) hd (fun H1 locs1 hP1 _ hS1 => ?_)
    have e1 : (B + a, (.inl (cA 2, n, .inl (upd (fun j => xi ev (xlk es (.int 0) j)) i.toNatClampNeg (vp_nar .byte x))) : va_E)) = (B + a, xCe B ev sa cA (.inl (2, n, (i.toNatClampNeg, .int (vp_nar .byte x)) :: es))) := by
      rw [x_upd (v := .int (vp_nar .byte x)) (x := vp_nar .byte x) rfl]
      rfl
    
    rw [e1, xWd_set] at hP1
    have G := G H1 locs1 ls (by rw [xw_set]; exact h1) hP1 hS1 h4
    rw [hp] at G
    exact G
  | arraylength =>
    dsimp only at h
    have hln : Nat.beq len 1 = true := hln
    obtain rfl := xlen hln
    replace h := xV1_ok h
    obtain ⟨v, r, rfl, h⟩ := h
    cases v with
    | retAddr q =>
      replace h := xOp_ok h
      obtain ⟨L, hL, h⟩ := h
      replace h := xgd_ok h
      obtain ⟨hg, h⟩ := h
      have ht : q = 5 := xlen hg
      subst ht
      replace h := xPu_ok h
      obtain ⟨hp, h⟩ := h
      obtain ⟨l1, l2, l3⟩ := hLL L hL
      refine Or.inr ⟨_, _, _, _, _, _, h, hcs, fun G H locs ls h1 h2 h3 h4 => ?_⟩
      have G := G H locs ls h1 h2 h3 h4
      rw [hp] at G
      exact va_slen hx hb l1 l2 l3 h3 hd G
    | _ => exact nomatch h
  | checkcast ix =>
    dsimp only at h
    have hln : Nat.beq len 3 = true := hln
    obtain rfl := xlen hln
    have hlk : xw a1 (.classLink own ix "[I") = true := hlk
    replace h := xRf_ok h
    obtain ⟨a, r, rfl, h⟩ := h
    replace h := xAy_ok h
    obtain ⟨t, n, es, hw, h⟩ := h
    replace h := xgd_ok h
    obtain ⟨hg, h⟩ := h
    have ht : t = 0 := xlen hg
    subst ht
    replace h := xNx_ok h
    obtain ⟨hp, h⟩ := h
    refine Or.inr ⟨_, _, _, _, _, _, h, hcs, fun G H locs ls h1 h2 h3 h4 => ?_⟩
    have G := G H locs ls h1 h2 h3 h4
    rw [hp] at G
    exact va_castA hx hb hown (hts _ (xw_mem hlk)) h2 a (xWd_get hw) (hK.2 0 _ rfl).2 hd G
  | invokevirtual ix =>
    dsimp only at h
    have hln : Nat.beq len 3 = true := hln
    obtain rfl := xlen hln
    split at h
    · rename_i hz
      have hz : a2 = 0 := hz
      subst hz
      have hlk : xIv own ix (pc, .invokevirtual ix, 3, a1, 0, a3) 0 = true := hlk
      replace h := xOp_ok h
      obtain ⟨q, hq, h⟩ := h
      rw [xnth_eq] at hq
      replace h := xsp_ok h
      obtain ⟨as, r, rfl, hn, h⟩ := h
      rw [List.append_nil] at h
      replace h := xRf_ok h
      obtain ⟨a, r, rfl, h⟩ := h
      replace h := xOb_ok h
      obtain ⟨ci, fs, hw, h⟩ := h
      replace h := xgd_ok h
      obtain ⟨hc, h⟩ := h
      have hc : ci = xmk q := xlen hc
      replace h := xCl_ok h
      obtain ⟨⟨b1, b2, b3⟩, z, hz, hp, h⟩ := h
      obtain ⟨q', hq', w1, w2⟩ := xIv_ok hlk
      cases Option.some.inj (hq.symm.trans hq')
      obtain ⟨hM, hlen⟩ := hca _ _ _ _ _ hz hq
      refine Or.inr ⟨_, _, _, _, _, _, h, hcs, fun G H locs ls h1 h2 h3 h4 => ?_⟩
      refine x_sz (fun hz0 => ?_)
      have hsz : H.size = B + w.length := by have := x_low h2 (Nat.le_trans hB h3.1); omega
      have hst : (as.reverse ++ .ref a :: r).map (xG B ev sa) = (as.map (xG B ev sa)).reverse ++ .ref (B + a) :: r.map (xG B ev sa) := by
        rw [List.map_append, List.map_reverse]; rfl
      rw [hst]
      have hrr : ((r.map (xG B ev sa)).map fun v => v.category).sum ≤ 8 := by rw [x_cats]; exact b1
      refine x_cal hB h3 (va_runV (As := as.map (xG B ev sa)) (rest := r.map (xG B ev sa)) ⟨hx, hb, hml, hown, hts⟩ hM ⟨x_cb hts w1 w2.1 hR, hts _ w2.2.1, hts _ w2.2.2.2⟩ ⟨x_blind, x_rcv hK h2 hw hc w2.2.2.1, x_pcU hsz (Nat.le_trans hB h3.1) h2 hK hNw (hXs.kept h3.2.1)⟩ rfl (by rw [List.length_map]; exact hn) h4.1 rfl (lv_room hrr) hd ⟨by omega, by omega⟩) (fun H1 locs1 hP1 hS1 => ?_)
      have G := G H1 locs1 ls (by omega) hP1 hS1 h4
      rw [hp, List.map_append, x_tol] at G
      exact G
    · rename_i hz
      have hz : a2 = 1 := hz
      subst hz
      have hlk : xIv own ix (pc, .invokevirtual ix, 3, a1, 1, a3) 1 = true := hlk
      replace h := xOp_ok h
      obtain ⟨q, hq, h⟩ := h
      rw [xnth_eq] at hq
      replace h := xsp_ok h
      obtain ⟨as, r, rfl, hn, h⟩ := h
      rw [List.append_nil] at h
      replace h := xRf_ok h
      obtain ⟨a, r, rfl, h⟩ := h
      replace h := xOb_ok h
      obtain ⟨ci, fs, hw, h⟩ := h
      replace h := xgd_ok h
      obtain ⟨hc, h⟩ := h
      have hc : ci = xmk q := xlen hc
      replace h := xCl_ok h
      obtain ⟨⟨b1, b2, b3⟩, z, hz, hp, h⟩ := h
      obtain ⟨q', hq', w1, w2⟩ := xIv_ok hlk
      cases Option.some.inj (hq.symm.trans hq')
      obtain ⟨hM, hlen⟩ := hca _ _ _ _ _ hz hq
      refine Or.inr ⟨_, _, _, _, _, _, h, hcs, fun G H locs ls h1 h2 h3 h4 => ?_⟩
      refine x_sz (fun hz0 => ?_)
      have hsz : H.size = B + w.length := by have := x_low h2 (Nat.le_trans hB h3.1); omega
      have hst : (as.reverse ++ .ref a :: r).map (xG B ev sa) = (as.map (xG B ev sa)).reverse ++ .ref (B + a) :: r.map (xG B ev sa) := by
        rw [List.map_append, List.map_reverse]; rfl
      rw [hst]
      have hrr : ((r.map (xG B ev sa)).map fun v => v.category).sum ≤ 8 := by rw [x_cats]; exact b1
      refine x_cal hB h3 (va_runVN (As := as.map (xG B ev sa)) (rest := r.map (xG B ev sa)) ⟨hx, hb, hml, hown, hts⟩ hM ⟨x_cbN hts hNw w1 w2.1 hR, hts _ w2.2.1, hts _ w2.2.2.2⟩ ⟨x_blind, x_rcv hK h2 hw hc w2.2.2.1, x_pcU hsz (Nat.le_trans hB h3.1) h2 hK hNw (hXs.kept h3.2.1)⟩ rfl (by rw [List.length_map]; exact hn) h4.1 rfl (lv_room hrr) hd ⟨by omega, by omega⟩) (fun H1 locs1 hP1 hS1 => ?_)
      have G := G H1 locs1 ls (by omega) hP1 hS1 h4
      rw [hp, List.map_append, x_tol] at G
      exact G
    · rename_i hz
      have hz : a2 = 10 := hz
      subst hz
      have hlk : xLv own ix (pc, .invokevirtual ix, 3, a1, 10, a3) = true := hlk
      simp only [xLv, Bool.and_eq_true] at hlk
      obtain ⟨k1, k2, k3, k4, k5, k6⟩ := hlk
      replace h := xRf_ok h
      obtain ⟨a, r, rfl, h⟩ := h
      replace h := xAy_ok h
      obtain ⟨t, n, es, hw, h⟩ := h
      replace h := xgd_ok h
      obtain ⟨hg, h⟩ := h
      rw [Bool.and_eq_true] at hg
      have ht : t = 0 := xlen hg.1
      subst ht
      have hrr : ((r.map (xG B ev sa)).map fun v => v.category).sum ≤ 8 := by rw [x_cats]; exact Nat.le_of_ble_eq_true hg.2
      replace h := xNw_ok h
      obtain ⟨g1, g2, hp, h⟩ := h
      refine Or.inr ⟨_, _, _, _, _, _, h, hcs, fun G H locs ls h1 h2 h3 h4 => ?_⟩
      refine va_clone (D := D) hx hb (hml.trans h4.1.symm) hown (hts _ (xw_mem k1)) (hts _ (xw_mem k2)) (hts _ (xw_mem k3)) (hts _ (xw_mem k4)) (hts _ (xw_mem k5)) (hNw _ (xwN_mem k6)) hK h2 (xWd_D w) h3 (fun z hz => Nat.le_trans hB hz) a 0 (xWd_get hw) rfl (hK.2 0 _ rfl).2 (fun i v hv => ?_) (by omega) (by omega) (by omega) (Nat.le_trans g2 hMS) hd (fun z H1 _ hP1 hD1 hS1 => ?_)
      · have hv : (arrV (cA 0) n (fun j => .int (xi ev (xlk es (.int 0) j)))).slots[i]? = some v := hv
        have hlt : i < n := by have := (Array.getElem?_eq_some_iff.mp hv).1; rw [arrV_size] at this; exact this
        rw [arrV_read _ _ hlt] at hv
        cases hv
        rfl
      · refine x_sz (fun hz => ?_)
        obtain rfl := x_new hP1 hD1 (by omega)
        have e1 : (B + w.length, (.inl (cA (0, n, es).1, xAr B ev (0, n, es)) : va_E)) = (B + w.length, xCe B ev sa cA (.inl (0, n, es))) := rfl
        rw [e1, ← xWd_app] at hP1
        have G := G H1 locs ls (by rw [List.length_append]; show _ = B + (w.length + 1); omega) hP1 hS1 h4
        rw [hp] at G
        exact G
    · rename_i hz
      have hz : a2 = 12 := hz
      subst hz
      have hlk : xw a1 (.methodLink own ix yLen) = true := hlk
      replace h := xV1_ok h
      obtain ⟨v, r, rfl, h⟩ := h
      cases v with
      | retAddr q =>
        replace h := xgd_ok h
        obtain ⟨hg, h⟩ := h
        simp only [Bool.and_eq_true] at hg
        obtain ⟨g0, g1, g2, g3⟩ := hg
        have g0 := Nat.le_of_ble_eq_true g0
        have g2 := Nat.le_of_ble_eq_true g2
        have g3 := Nat.le_of_ble_eq_true g3
        have hrr : ((r.map (xG B ev sa)).map fun v => v.category).sum ≤ 8 := by rw [x_cats]; exact Nat.le_of_ble_eq_true g1
        replace h := xPu_ok h
        obtain ⟨hp, h⟩ := h
        refine Or.inr ⟨_, _, _, _, _, _, h, hcs, fun G0 H locs ls h1 h2 h3 h4 => ?_⟩
        have hXH := hXs.kept h3.2.1
        have hgi : GoodIn xT (Cond.code yLen bLen 1 (some .int) :: xT) := fun w hw => by
          rcases List.mem_cons.mp hw with rfl | hw
          · exact ⟨ws_lc, x_good _ ws_lc⟩
          · exact ⟨hw, x_good _ hw⟩
        have hk5 : q < 5 := by omega
        have hrun := va_runV (p := p) (l := l) (e := e) (below := below) (meth := meth) (As := []) (rest := r.map (xG B ev sa)) (own := own) (b := sa q) (g := F0 m pc ls (.ref (sa q) :: r.map (xG B ev sa))) (H := H) (locs := locs) (cells := mc) (slots := ms) (R := R) ⟨hx, hb, hml, hown, hts⟩ (c_len l (B := B) (sa := sa) hk5) ⟨callB_of 0 hts hgi rfl rfl rfl (hts _ ws_ini) (hts _ (xw_mem hlk)) ⟨by decide, by decide, by decide +kernel⟩ ⟨by show 1 + 1 ≤ R.frames; omega, by show 8 + (1 + 11) + 20 ≤ R.locals; omega⟩, hts _ ws_li, hts _ ws_ls⟩ ⟨xSb_bl, x_rcS hXH hk5, xSb_U (Nat.le_trans hB h3.1) hXH⟩ rfl rfl h4.1 rfl (lv_room hrr) hd ⟨by omega, by omega⟩
        intro T hT X
        obtain ⟨v, st₀, t, T', L, e0, X2, hL, e1, e2, ⟨hv, hh⟩, stp⟩ := hrun T hT X
        cases hv
        obtain ⟨t2, a5, b5⟩ := (G0 H (locs ++ L) ls h1 h2 ⟨h3.1, h3.2.1, fun z hz => by
          rcases List.mem_append.mp hz with h | h
          · exact h3.2.2 z h
          · exact hL z h⟩ h4) T' (by rw [e1, hh, e0]) X2
        rw [hp] at a5
        exact ⟨t2, stp t2 a5, b5⟩
      | _ => exact nomatch h
    · exact nomatch h
  | invokestatic ix =>
    dsimp only at h
    have hln : Nat.beq len 3 = true := hln
    obtain rfl := xlen hln
    split at h
    · rename_i hz
      have hz : a2 = 2 := hz
      subst hz
      have hlk : xIv own ix (pc, .invokestatic ix, 3, a1, 2, a3) 2 = true := hlk
      replace h := xOp_ok h
      obtain ⟨q, hq, h⟩ := h
      rw [xnth_eq] at hq
      replace h := xsp_ok h
      obtain ⟨as, r, rfl, hn, h⟩ := h
      rw [List.append_nil] at h
      replace h := xCl_ok h
      obtain ⟨⟨b1, b2, b3⟩, z, hz, hp, h⟩ := h
      obtain ⟨q', hq', w1, w2⟩ := xIv_ok hlk
      cases Option.some.inj (hq.symm.trans hq')
      obtain ⟨hM, hlen⟩ := hca _ _ _ _ _ hz hq
      refine Or.inr ⟨_, _, _, _, _, _, h, hcs, fun G H locs ls h1 h2 h3 h4 => ?_⟩
      refine x_sz (fun hz0 => ?_)
      have hsz : H.size = B + w.length := by have := x_low h2 (Nat.le_trans hB h3.1); omega
      have hst : (as.reverse ++ r).map (xG B ev sa) = (as.map (xG B ev sa)).reverse ++ r.map (xG B ev sa) := by
        rw [List.map_append, List.map_reverse]
      rw [hst]
      have hrr : ((r.map (xG B ev sa)).map fun v => v.category).sum ≤ 8 := by rw [x_cats]; exact b1
      refine x_cal hB h3 (va_runS (As := as.map (xG B ev sa)) (rest := r.map (xG B ev sa)) ⟨hx, hb, hml, hown, hts⟩ hM ⟨x_cb hts w1 w2.1 hR, hts _ w2.2⟩ ⟨x_blind, x_pcU hsz (Nat.le_trans hB h3.1) h2 hK hNw (hXs.kept h3.2.1)⟩ rfl (by rw [List.length_map]; exact hn) h4.1 rfl (lv_room hrr) hd ⟨by omega, by omega⟩) (fun H1 locs1 hP1 hS1 => ?_)
      have G := G H1 locs1 ls (by omega) hP1 hS1 h4
      rw [hp, List.map_append, x_tol] at G
      exact G
    · rename_i hz
      have hz : a2 = 3 := hz
      subst hz
      have hlk : xIv own ix (pc, .invokestatic ix, 3, a1, 3, a3) 3 = true := hlk
      replace h := xOp_ok h
      obtain ⟨q, hq, h⟩ := h
      rw [xnth_eq] at hq
      replace h := xsp_ok h
      obtain ⟨as, r, rfl, hn, h⟩ := h
      rw [List.append_nil] at h
      replace h := xCl_ok h
      obtain ⟨⟨b1, b2, b3⟩, z, hz, hp, h⟩ := h
      obtain ⟨q', hq', w1, w2⟩ := xIv_ok hlk
      cases Option.some.inj (hq.symm.trans hq')
      obtain ⟨hM, hlen⟩ := hca _ _ _ _ _ hz hq
      refine Or.inr ⟨_, _, _, _, _, _, h, hcs, fun G H locs ls h1 h2 h3 h4 => ?_⟩
      refine x_sz (fun hz0 => ?_)
      have hsz : H.size = B + w.length := by have := x_low h2 (Nat.le_trans hB h3.1); omega
      have hst : (as.reverse ++ r).map (xG B ev sa) = (as.map (xG B ev sa)).reverse ++ r.map (xG B ev sa) := by
        rw [List.map_append, List.map_reverse]
      rw [hst]
      have hrr : ((r.map (xG B ev sa)).map fun v => v.category).sum ≤ 8 := by rw [x_cats]; exact b1
      refine x_cal hB h3 (va_runSN (As := as.map (xG B ev sa)) (rest := r.map (xG B ev sa)) ⟨hx, hb, hml, hown, hts⟩ hM ⟨x_cbN hts hNw w1 w2.1 hR, hts _ w2.2, trivial⟩ ⟨x_blind, x_pcU hsz (Nat.le_trans hB h3.1) h2 hK hNw (hXs.kept h3.2.1)⟩ rfl (by rw [List.length_map]; exact hn) h4.1 rfl (lv_room hrr) hd ⟨by omega, by omega⟩) (fun H1 locs1 hP1 hS1 => ?_)
      have G := G H1 locs1 ls (by omega) hP1 hS1 h4
      rw [hp, List.map_append, x_tol] at G
      exact G
    · rename_i hz
      have hz : a2 = 7 := hz
      subst hz
      have hlk : xLs own ix (pc, .invokestatic ix, 3, a1, 7, a3) = true := hlk
      simp only [xLs, Bool.and_eq_true] at hlk
      obtain ⟨k1, k2, k3, k4⟩ := hlk
      replace h := xBI_ok h
      obtain ⟨x, y, r, rfl, h⟩ := h
      replace h := xgd_ok h
      obtain ⟨hg, h⟩ := h
      simp only [Bool.and_eq_true] at hg
      obtain ⟨g1, g2, g3⟩ := hg
      have g2 := Nat.le_of_ble_eq_true g2
      have g3 := Nat.le_of_ble_eq_true g3
      have hrr : ((r.map (xG B ev sa)).map fun v => v.category).sum ≤ 8 := by rw [x_cats]; exact Nat.le_of_ble_eq_true g1
      replace h := xPu_ok h
      obtain ⟨hp, h⟩ := h
      refine Or.inr ⟨_, _, _, _, _, _, h, hcs, fun G H locs ls h1 h2 h3 h4 => ?_⟩
      have G := G H locs ls h1 h2 h3 h4
      rw [hp] at G
      exact va_mmax hx hb (hml.trans h4.1.symm) hown (hts _ (xw_mem k1)) (hts _ (xw_mem k2)) (hts _ (xw_mem k3)) (hts _ (xw_mem k4)) (by omega) (by omega) (by omega) (by omega) hd G
    · rename_i hz
      have hz : a2 = 11 := hz
      subst hz
      have hlk : xLs own ix (pc, .invokestatic ix, 3, a1, 11, a3) = true := hlk
      simp only [xLs, Bool.and_eq_true] at hlk
      obtain ⟨k1, k2, k3, k4⟩ := hlk
      replace h := xBI_ok h
      obtain ⟨x, y, r, rfl, h⟩ := h
      replace h := xgd_ok h
      obtain ⟨hg, h⟩ := h
      simp only [Bool.and_eq_true] at hg
      obtain ⟨g1, g2, g3⟩ := hg
      have g2 := Nat.le_of_ble_eq_true g2
      have g3 := Nat.le_of_ble_eq_true g3
      have hrr : ((r.map (xG B ev sa)).map fun v => v.category).sum ≤ 8 := by rw [x_cats]; exact Nat.le_of_ble_eq_true g1
      replace h := xPu_ok h
      obtain ⟨hp, h⟩ := h
      refine Or.inr ⟨_, _, _, _, _, _, h, hcs, fun G H locs ls h1 h2 h3 h4 => ?_⟩
      have G := G H locs ls h1 h2 h3 h4
      rw [hp] at G
      exact va_mmin hx hb (hml.trans h4.1.symm) hown (hts _ (xw_mem k1)) (hts _ (xw_mem k2)) (hts _ (xw_mem k3)) (hts _ (xw_mem k4)) (by omega) (by omega) (by omega) (by omega) hd G
    · rename_i hz
      have hz : a2 = 9 := hz
      subst hz
      have hlk : xLs own ix (pc, .invokestatic ix, 3, a1, 9, a3) = true := hlk
      simp only [xLs, Bool.and_eq_true] at hlk
      obtain ⟨k1, k2, k3, k4⟩ := hlk
      replace h := xUI_ok h
      obtain ⟨n, r, rfl, h⟩ := h
      replace h := xUI_ok h
      obtain ⟨dp, r, rfl, h⟩ := h
      replace h := xRf_ok h
      obtain ⟨a, r, rfl, h⟩ := h
      replace h := xUI_ok h
      obtain ⟨sp, r, rfl, h⟩ := h
      replace h := xRf_ok h
      obtain ⟨a0, r, rfl, h⟩ := h
      replace h := xAy_ok h
      obtain ⟨t0, n0, es0, hw0, h⟩ := h
      replace h := xAy_ok h
      obtain ⟨t, n1, es, hw, h⟩ := h
      replace h := xgd_ok h
      obtain ⟨hg, h⟩ := h
      simp only [Bool.and_eq_true, decide_eq_true_eq] at hg
      obtain ⟨g1, g2, g3, g4, rfl, rfl, g7, g8, g9, g0⟩ := hg
      have g1 : t0 = 0 := xlen g1
      have g2 : t = 0 := xlen g2
      have g3 : es0 = [] := List.length_eq_zero_iff.mp (xlen g3)
      have g4 : es = [] := List.length_eq_zero_iff.mp (xlen g4)
      have g8 := Nat.le_of_ble_eq_true g8
      have g9 := Nat.le_of_ble_eq_true g9
      subst g1
      subst g2
      subst g3
      subst g4
      have hrr : ((r.map (xG B ev sa)).map fun v => v.category).sum ≤ 8 := by rw [x_cats]; exact Nat.le_of_ble_eq_true g0
      replace h := xNx_ok h
      obtain ⟨hp, h⟩ := h
      refine Or.inr ⟨_, _, _, _, _, _, h, hcs, fun G H locs ls h1 h2 h3 h4 => ?_⟩
      have hfw : nativeFrameWords "java/lang/System" "arraycopy" 5 = 7 := by decide +kernel
      have hn0 : ¬ n < 0 := by rw [Int32.lt_iff_toInt_lt, Int32.toInt_zero]; omega
      have hz0 : (0 : Int32).toNatClampNeg = 0 := by decide
      refine va_copyi hx hb (hml.trans h4.1.symm) hown (hts _ (xw_mem k1)) (hts _ (xw_mem k2)) (hts _ (xw_mem k3)) (hts _ (xw_mem k4)) hK h2 (xWd_D w) h3 a0 a 0 0 (xWd_get hw0) (xWd_get hw) rfl rfl rfl (by decide) (by decide) hn0 (by rw [hz0]; show 0 + _ ≤ n0; omega) (by rw [hz0]; show 0 + _ ≤ n1; omega) (fun _ _ => rfl) (by omega) (by rw [hfw]; omega) hd (fun H1 locs1 hP1 _ hS1 => ?_)
      have e1 : va_cpy (fun j => xi ev (xlk [] (.int 0) j)) (fun j => xi ev (xlk [] (.int 0) j)) (0 : Int32).toNatClampNeg (0 : Int32).toNatClampNeg n.toNatClampNeg = fun j => xi ev (xlk [] (.int 0) j) := by
        funext j
        show (if _ then _ else _) = _
        split <;> rfl
      have e2 : (B + a, (.inl (cA 0, n1, .inl (va_cpy (fun j => xi ev (xlk [] (.int 0) j)) (fun j => xi ev (xlk [] (.int 0) j)) (0 : Int32).toNatClampNeg (0 : Int32).toNatClampNeg n.toNatClampNeg)) : va_E)) = (B + a, xCe B ev sa cA (.inl (0, n1, []))) := by
        rw [e1]; rfl
      rw [e2, xWd_set, x_setq hw] at hP1
      have G := G H1 locs1 ls h1 hP1 hS1 h4
      rw [hp] at G
      exact G
    · rename_i hz
      have hz : a2 = 8 := hz
      subst hz
      have hlk : xLs own ix (pc, .invokestatic ix, 3, a1, 8, a3) = true := hlk
      simp only [xLs, Bool.and_eq_true] at hlk
      obtain ⟨k1, k2, k3, k4⟩ := hlk
      replace h := xUL_ok h
      obtain ⟨x, r, rfl, h⟩ := h
      replace h := xgd_ok h
      obtain ⟨hg, h⟩ := h
      simp only [Bool.and_eq_true] at hg
      obtain ⟨g1, g2, g3⟩ := hg
      have g2 := Nat.le_of_ble_eq_true g2
      have g3 := Nat.le_of_ble_eq_true g3
      have hrr : ((r.map (xG B ev sa)).map fun v => v.category).sum ≤ 8 := by rw [x_cats]; exact Nat.le_of_ble_eq_true g1
      replace h := xPu_ok h
      obtain ⟨hp, h⟩ := h
      refine Or.inr ⟨_, _, _, _, _, _, h, hcs, fun G H locs ls h1 h2 h3 h4 => ?_⟩
      have G := G H locs ls h1 h2 h3 h4
      rw [hp] at G
      exact va_mabs_long hx hb (hml.trans h4.1.symm) hown (hts _ (xw_mem k1)) (hts _ (xw_mem k2)) (hts _ (xw_mem k3)) (hts _ (xw_mem k4)) (by omega) (by omega) (by omega) (by omega) hd G
    · exact nomatch h
  | invokespecial ix =>
    dsimp only at h
    have hln : Nat.beq len 3 = true := hln
    obtain rfl := xlen hln
    split at h
    · rename_i hz
      have hz : a2 = 4 := hz
      subst hz
      have hlk : xIv own ix (pc, .invokespecial ix, 3, a1, 4, a3) 4 = true := hlk
      replace h := xOp_ok h
      obtain ⟨q, hq, h⟩ := h
      rw [xnth_eq] at hq
      replace h := xsp_ok h
      obtain ⟨as, r, rfl, hn, h⟩ := h
      rw [List.append_nil] at h
      replace h := xRf_ok h
      obtain ⟨a, r, rfl, h⟩ := h
      replace h := xOb_ok h
      obtain ⟨ci, fs, hw, h⟩ := h
      replace h := xgd_ok h
      obtain ⟨hc, h⟩ := h
      have hc : ci = xmk q := xlen hc
      replace h := xCl_ok h
      obtain ⟨⟨b1, b2, b3⟩, z, hz, hp, h⟩ := h
      obtain ⟨q', hq', w1, w2⟩ := xIv_ok hlk
      cases Option.some.inj (hq.symm.trans hq')
      obtain ⟨hM, hlen⟩ := hca _ _ _ _ _ hz hq
      refine Or.inr ⟨_, _, _, _, _, _, h, hcs, fun G H locs ls h1 h2 h3 h4 => ?_⟩
      refine x_sz (fun hz0 => ?_)
      have hsz : H.size = B + w.length := by have := x_low h2 (Nat.le_trans hB h3.1); omega
      have hst : (as.reverse ++ .ref a :: r).map (xG B ev sa) = (as.map (xG B ev sa)).reverse ++ .ref (B + a) :: r.map (xG B ev sa) := by
        rw [List.map_append, List.map_reverse]; rfl
      rw [hst]
      have hrr : ((r.map (xG B ev sa)).map fun v => v.category).sum ≤ 8 := by rw [x_cats]; exact b1
      refine x_cal hB h3 (va_runI (As := as.map (xG B ev sa)) (rest := r.map (xG B ev sa)) ⟨hx, hb, hml, hown, hts⟩ hM ⟨x_cbI hts w1 w2.1 hR w2.2.2.2.2, w2.2.2.2.1, hts _ w2.2.1⟩ ⟨x_blind, x_pcU hsz (Nat.le_trans hB h3.1) h2 hK hNw (hXs.kept h3.2.1)⟩ rfl (by rw [List.length_map]; exact hn) h4.1 rfl (lv_room hrr) hd ⟨by omega, by omega⟩) (fun H1 locs1 hP1 hS1 => ?_)
      have G := G H1 locs1 ls (by omega) hP1 hS1 h4
      rw [hp, List.map_append, x_tol] at G
      exact G
    · rename_i hz
      have hz : a2 = 5 := hz
      subst hz
      have hlk : xIv own ix (pc, .invokespecial ix, 3, a1, 5, a3) 5 = true := hlk
      replace h := xOp_ok h
      obtain ⟨q, hq, h⟩ := h
      rw [xnth_eq] at hq
      replace h := xsp_ok h
      obtain ⟨as, r, rfl, hn, h⟩ := h
      rw [List.append_nil] at h
      replace h := xRf_ok h
      obtain ⟨a, r, rfl, h⟩ := h
      replace h := xOb_ok h
      obtain ⟨ci, fs, hw, h⟩ := h
      replace h := xgd_ok h
      obtain ⟨hc, h⟩ := h
      have hc : ci = xmk q := xlen hc
      replace h := xCl_ok h
      obtain ⟨⟨b1, b2, b3⟩, z, hz, hp, h⟩ := h
      obtain ⟨q', hq', w1, w2⟩ := xIv_ok hlk
      cases Option.some.inj (hq.symm.trans hq')
      obtain ⟨hM, hlen⟩ := hca _ _ _ _ _ hz hq
      refine Or.inr ⟨_, _, _, _, _, _, h, hcs, fun G H locs ls h1 h2 h3 h4 => ?_⟩
      refine x_sz (fun hz0 => ?_)
      have hsz : H.size = B + w.length := by have := x_low h2 (Nat.le_trans hB h3.1); omega
      have hst : (as.reverse ++ .ref a :: r).map (xG B ev sa) = (as.map (xG B ev sa)).reverse ++ .ref (B + a) :: r.map (xG B ev sa) := by
        rw [List.map_append, List.map_reverse]; rfl
      rw [hst]
      have hrr : ((r.map (xG B ev sa)).map fun v => v.category).sum ≤ 8 := by rw [x_cats]; exact b1
      refine x_cal hB h3 (va_runIN (As := as.map (xG B ev sa)) (rest := r.map (xG B ev sa)) ⟨hx, hb, hml, hown, hts⟩ hM ⟨x_cbNI hts hNw w1 w2.1 hR w2.2.2.2.2, w2.2.2.2.1, hts _ w2.2.1⟩ ⟨x_blind, x_pcU hsz (Nat.le_trans hB h3.1) h2 hK hNw (hXs.kept h3.2.1)⟩ rfl (by rw [List.length_map]; exact hn) h4.1 rfl (lv_room hrr) hd ⟨by omega, by omega⟩) (fun H1 locs1 hP1 hS1 => ?_)
      have G := G H1 locs1 ls (by omega) hP1 hS1 h4
      rw [hp, List.map_append, x_tol] at G
      exact G
    · rename_i hz
      have hz : a2 = 6 := hz
      subst hz
      have hlk : xLp own ix (pc, .invokespecial ix, 3, a1, 6, a3) = true := hlk
      simp only [xLp, Bool.and_eq_true] at hlk
      obtain ⟨k1, k2, k3⟩ := hlk
      replace h := xRf_ok h
      obtain ⟨a, r, rfl, h⟩ := h
      replace h := xgd_ok h
      obtain ⟨hg, h⟩ := h
      have hrr : ((r.map (xG B ev sa)).map fun v => v.category).sum ≤ 8 := by rw [x_cats]; exact Nat.le_of_ble_eq_true hg
      replace h := xNx_ok h
      obtain ⟨hp, h⟩ := h
      refine Or.inr ⟨_, _, _, _, _, _, h, hcs, fun G H locs ls h1 h2 h3 h4 => ?_⟩
      have G := G H locs ls h1 h2 h3 h4
      rw [hp] at G
      exact W.objInit hx hb hown (hts _ (xw_mem k1)) (hts _ (xw_mem k2)) (hts _ (xw_mem k3)) rfl (h4.1.trans hml.symm) rfl hd (by omega) (by show 2 * 0 + _ + 12 ≤ _; omega) G
    · exact nomatch h
  | ireturn =>
    dsimp only at h
    cases h
    exact Or.inl rfl
  | lreturn =>
    dsimp only at h
    cases h
    exact Or.inl rfl
  | areturn =>
    dsimp only at h
    cases h
    exact Or.inl rfl
  | return_ =>
    dsimp only at h
    cases h
    exact Or.inl rfl
  | _ => exact nomatch h
end XS
