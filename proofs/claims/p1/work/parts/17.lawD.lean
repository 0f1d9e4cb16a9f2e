/-! the law, and the claim out of it -/
set_option maxHeartbeats 4000000 in
set_option maxRecDepth 100000 in
/-- from the entry, for every script of at most 4 ints, the law comes to its end with true -/
theorem whole_start {p : Program} {e : Env} {s : State} {m : MethodId} {below : List Frame} {meth : Method} {c : Code} (l : Launch) (hflags : l.flags = flags0) {b L : Nat} {xs : Nat → Int32} (hL : L ≤ 4) (C0 : lw_At p s m meth c b L xs) : W p l e room_1 s m #[Value.ref b] below meth c s.heap [] 0 0 (lw_Z below #[Value.ref b] s) (entryFrame m ([Value.ref b] : List Value).toArray 4) := by
  obtain ⟨hx, hb, hr, hml, hown, hts0, hX, hbl, hlocks, hgv⟩ := C0
  have hts : ∀ w ∈ xT, w.before #[Value.ref b] s = true := fun w hw => hts0 w (List.mem_filter.mp hw).1
  have hNw : ∀ w ∈ xN, va_Nw w s := fun w hw => va_Nw.of (xNb_on (List.mem_filter.mp hw).2) (hts0 w (List.mem_filter.mp hw).1)
  have hF : mz_F s := mz_over (hts0 (Cond.arrayOver (.array .long)) (List.mem_of_getElem? (i := 213) (by decide +kernel)))
  obtain ⟨c0, a0, n0⟩ := x_arr (hts0 (Cond.arrayClass .int) (List.mem_of_getElem? (i := 170) (by decide +kernel)))
  obtain ⟨c1, a1, n1⟩ := x_arr (hts0 (Cond.arrayClass .long) (List.mem_of_getElem? (i := 205) (by decide +kernel)))
  obtain ⟨c2, a2, n2⟩ := x_arr (hts0 (Cond.arrayClass .byte) (List.mem_of_getElem? (i := 1064) (by decide +kernel)))
  obtain ⟨c3, a3, n3⟩ := x_arr (hts0 (Cond.arrayClass .boolean) (List.mem_of_getElem? (i := 425) (by decide +kernel)))
  obtain ⟨comp, c4, k4, f1, f2, f3, f4⟩ := id hF
  have a4 : ArrOfT s c4 (.array .long) := fun n z => ⟨fun k hk => (by cases hk), k4, f2, comp, f3⟩
  obtain ⟨D, hD⟩ : ∃ D : va_G, ∀ (k : Nat) (q : vw_C), xcl[k]? = some q → u_Kn s q.1 q.2.1 q.2.2 (D.1 k) (D.2 k) := by
    have h0 : ∀ k : Nat, ∃ z : ClassId × (Nat → Nat), ∀ q : vw_C, xcl[k]? = some q → u_Kn s q.1 q.2.1 q.2.2 z.1 z.2 := by
      intro k
      cases hq : xcl[k]? with
      | none => exact ⟨(c0, fun _ => 0), fun q h => by cases h⟩
      | some q =>
        obtain ⟨ty, fs, -, -, q1, -, -, -, -, -, q7, -⟩ := x_cls k q hq
        obtain ⟨cC, iS, hK⟩ := u_known hts q1 (hts _ q7)
        exact ⟨(cC, iS), fun q' h => by cases h; exact hK⟩
    obtain ⟨f, hf⟩ := Classical.axiomOfChoice h0
    exact ⟨(fun k => (f k).1, fun k => (f k).2), hf⟩
  obtain ⟨sa, hsa, hXs⟩ := x_strof hts0 hgv hF
  have hK : va_K D xcl (xTy (fun k => if k = 0 then c0 else if k = 1 then c1 else if k = 2 then c2 else if k = 3 then c3 else c4)) s := by
    refine ⟨hD, fun k q hk => ?_⟩
    match k, hk with
    | 0, hk => cases hk; exact ⟨a0, n0⟩
    | 1, hk => cases hk; exact ⟨a1, n1⟩
    | 2, hk => cases hk; exact ⟨a2, n2⟩
    | 3, hk => cases hk; exact ⟨a3, n3⟩
    | 4, hk => cases hk; exact ⟨a4, f4⟩
    | k + 5, hk => simp [xTy] at hk
  generalize (fun k : Nat => if k = 0 then c0 else if k = 1 then c1 else if k = 2 then c2 else if k = 3 then c3 else c4) = cA at hK
  obtain ⟨ev, hev⟩ : ∃ ev : Nat → Int32, ev = fun k => if k < 4 then xs k else if k = 4 then xs 0 &&& 63 else 0 := ⟨_, rfl⟩
  have h63 : ev 4 = ev 0 &&& 63 := by rw [hev]; rfl
  have hXv : va_X (sa 5) L ev s s.heap := by
    obtain ⟨scr, g1, g2, g3, g4, g5⟩ := hX
    rw [hsa]
    refine ⟨scr, g1, g2, g3, g4, fun j hj => ?_⟩
    rw [g5 j hj, hev]
    show _ = some (Value.int (if j < 4 then xs j else if j = 4 then xs 0 &&& 63 else 0))
    rw [if_pos (by omega)]
  have hroom : 20 + 2 ≤ room_1.frames ∧ 40 * (20 + 2) ≤ room_1.locals := ⟨by decide +kernel, by decide +kernel⟩
  have hown2 : s.vm.findClass "RollCutterLaw" = some m.cls := hown
  have hscr : ∀ L' : Nat, some L = some L' → va_X (sa 5) L' ev s s.heap ∧ sa 5 < s.heap.size ∧ ¬ s.heap.size ≤ sa 5 := by
    intro L' hL'
    have hL' := Option.some.inj hL'
    subst hL'
    exact ⟨hXv, by rw [hsa]; exact hbl, by rw [hsa]; exact Nat.not_le.mpr hbl⟩
  have hini : false = true → meth.name = "<init>" := fun h => by cases h
  have CX : ∀ ivs : List (Int × Int), (∀ (k : Nat) (q : Int × Int), ivs[k]? = some q → q.1 ≤ (ev k).toInt ∧ (ev k).toInt ≤ q.2) → xCx p room_1 s m #[Value.ref b] meth c "RollCutterLaw" code 4 false s.heap.size ev cA D ivs 20 sa (some L) := by
    intro ivs hi
    unfold xCx
    exact ⟨hx, hb, hml, hown2, hts, hK, Nat.le_refl _, hini, ⟨hi, h63⟩, hroom, hscr, hNw, hXs⟩
  have hbd : ∀ k : Nat, -2147483648 ≤ (ev k).toInt ∧ (ev k).toInt < 2147483648 := fun k => ⟨by have := Int32.le_toInt (ev k); omega, by have := Int32.toInt_lt (ev k); omega⟩
  have key : xGd p l e room_1 s m #[Value.ref b] below meth c (lw_Z below #[Value.ref b] s) 4 s.heap.size ev sa cA D xT_law [(0, .retAddr 5)] [] [] 0 0 := by
    have hnil : ∀ (k : Nat) (q : Int × Int), ([] : List (Int × Int))[k]? = some q → q.1 ≤ (ev k).toInt ∧ (ev k).toInt ≤ q.2 := fun k q h => by simp at h
    have h5 : L = 0 ∨ L = 1 ∨ L = 2 ∨ L = 3 ∨ L = 4 := by omega
    rcases h5 with rfl | rfl | rfl | rfl | rfl
    · exact x_lawrun (CX [] hnil) hr hlocks xk_lawE xr_L0
    · exact x_lawrun (CX [] hnil) hr hlocks xk_lawE xr_L1
    · exact x_lawrun (CX [] hnil) hr hlocks xk_lawE xr_L2
    · exact x_lawrun (CX [] hnil) hr hlocks xk_lawE xr_L3
    · obtain ⟨g1, g2⟩ := xGo_ok (Q := lw_Z below #[Value.ref b] s) (below := below) (l := l) (e := e) (CX [] hnil) (xCall_ok (CX [] hnil).2.2.2.2.2.2.2.2.1 x_tok 20) (Nat.le_refl 600000) (Nat.le_refl 7302250) xk_lawE 10 xk_lawE xr_pre
      refine g2 ?_
      obtain ⟨j, hj, hjx⟩ := pk_andE (ev 0) (m := 63) 6 (by decide)
      have hj4 : (ev 4).toInt = (j : Int) := by rw [h63, hjx, nI_toInt (by omega)]
      rcases Nat.lt_or_ge j 38 with hj38 | hj38
      · obtain ⟨lr, hlr⟩ := xr_all j hj38
        obtain ⟨ia, ib, ha, hb9, hrun⟩ := xOk_ok hlr (ev 1).toInt (ev 2).toInt (hbd 1) (hbd 2)
        refine x_lawrun (CX [xAny, ia, ib, xAny, ((j : Int), (j : Int))] (fun k q hq => ?_)) hr hlocks g1 hrun
        match k, hq with
        | 0, hq => cases hq; exact ⟨(hbd 0).1, by have := (hbd 0).2; show _ ≤ (2147483647 : Int); omega⟩
        | 1, hq => cases hq; exact ha
        | 2, hq => cases hq; exact hb9
        | 3, hq => cases hq; exact ⟨(hbd 3).1, by have := (hbd 3).2; show _ ≤ (2147483647 : Int); omega⟩
        | 4, hq => cases hq; exact ⟨by show (j : Int) ≤ _; omega, by show _ ≤ (j : Int); omega⟩
        | k + 5, hq => simp at hq
      · refine x_lawrun (CX [xAny, xAny, xAny, xAny, (38, 63)] (fun k q hq => ?_)) hr hlocks g1 xr_def
        match k, hq with
        | 0, hq => cases hq; exact ⟨(hbd 0).1, by have := (hbd 0).2; show _ ≤ (2147483647 : Int); omega⟩
        | 1, hq => cases hq; exact ⟨(hbd 1).1, by have := (hbd 1).2; show _ ≤ (2147483647 : Int); omega⟩
        | 2, hq => cases hq; exact ⟨(hbd 2).1, by have := (hbd 2).2; show _ ≤ (2147483647 : Int); omega⟩
        | 3, hq => cases hq; exact ⟨(hbd 3).1, by have := (hbd 3).2; show _ ≤ (2147483647 : Int); omega⟩
        | 4, hq => cases hq; exact ⟨by show (38 : Int) ≤ _; omega, by show _ ≤ (63 : Int); omega⟩
        | k + 5, hq => simp at hq
  have hl := lv_entry ([.ref b]) (n := 4) (Nat.le_of_ble_eq_true rfl)
  rw [lg_entry_eq]
  generalize (lg_sl ([.ref b]) ++ List.replicate (4 - (lg_sl ([.ref b])).length) Slot.unset).toArray = ls at hl ⊢
  have hl : lv_has ls 4 [(0, .ref b)] := hl
  refine key s.heap [] ls (by show s.heap.size + 0 = s.heap.size + 0; rfl) (fun k q h => by simp [xWd] at h) va_S.rf ?_
  show lv_has ls 4 [(0, .ref (sa 5))]
  rw [hsa]
  exact hl
-- ===== YOUR PART ENDS =====
set_option maxHeartbeats 4000000 in
theorem lw_walk (l : Launch) (hflags : l.flags = flags0) (b : Addr) (xs : List Int32) : MetFree l x (headSpec (Jvm.Cond.code x code maxLocals ret :: tables_1) room_1) (lw_P b xs) (fun _ _ _ _ _ => True) lw_Q := by
  refine MetFree.of_bodyS (code := code) (maxLocals := maxLocals) (ret := ret) (by decide) ?_ ?_
  · intro args s m h hn
    obtain ⟨meth, c, h1, h2, h3, h4, h5, h6, -, -⟩ := Cond.code_spec hn (atoms_spec (ws := Jvm.Cond.code x code maxLocals ret :: tables_1) h _ List.mem_cons_self)
    exact ⟨meth, c, h1, h2, h3, h4, h5, h6⟩
  · intro p e s m args below meth c s₁ B hml0 hP _
    obtain ⟨rfl, hx, hbd, hgv⟩ := hP
    obtain ⟨scr, harrAt, hlist, hof, hsmall⟩ := hx
    obtain ⟨hcb, hkn, -, -⟩ := State.arrayAt?_spec harrAt
    have hown : s.vm.findClass R_law = some m.cls := findClass_of_methodNamed B.named
    have hts0 : ∀ c ∈ (Jvm.Cond.code x code maxLocals ret :: tables_1), c.before #[Value.ref b] s = true := atoms_spec (ws := Jvm.Cond.code x code maxLocals ret :: tables_1) B.pre
    have hts : ∀ w ∈ lw_tbl, w.before #[Value.ref b] s = true := k2_hts_sels lw_privs (fun w hw => hts0 w (List.mem_cons_of_mem _ hw)) lw_privs_ok
    have hml : c.maxLocals = 4 := B.maxLocals_eq (hts0 _ List.mem_cons_self)
    have X₀ : Stand p l e room_1 s m #[Value.ref b] below meth c s₁ [] 0 0 := Stand.of_body B
    have hh0 : s₁.heap = s.heap := by rw [B.state]; rfl
    have hsz : scr.slots.size = xs.length := by rw [← Array.length_toList, hlist, List.length_map]
    have hval : ∀ j : Nat, j < xs.length → scr.slots[j]? = some (.int (xs.getD j 0)) := fun j hj => by
      rw [← Array.getElem?_toList, hlist]
      simp [hj]
    have hbl : b < s.heap.size := (Array.getElem?_eq_some_iff.mp hcb).1
    have hX : va_X b xs.length (fun j => xs.getD j 0) s s.heap := ⟨scr, hcb, hof, hkn, hsz, hval⟩
    have K : W p l e room_1 s m #[Value.ref b] below meth c s₁.heap [] 0 0 (lw_Z below #[Value.ref b] s) (entryFrame m ([Value.ref b] : List Value).toArray 4) := by
      rw [hh0]
      exact whole_start l hflags hbd ⟨B.exec, B.bytes, B.returns, hml, hown, hts, hX, hbl, B.notSynchronized, hgv⟩
    obtain ⟨t, a1, o, b1, b2, b3⟩ := K s₁ rfl X₀
    exact ⟨t, o, a1, b1, b2, b3⟩
theorem lw_pre_spec {args : Array Value} {s : State} (h : (Jvm.Cond.and given_1 narrow_1).before args s = true) (hr : rest_1_c.before args s = true) : ∃ (b : Addr) (xs : List Int32), lw_P b xs args s := by
  have hs := flat_of_before _ h
  have hq := flat_of_before _ hr
  have hc : (Cond.count 1).before args s = true := hs _ (by decide +kernel)
  have harr : (Cond.arrayOf (.arg 0) .int).before args s = true := hs _ (by decide +kernel)
  have hle : (Cond.le (.length (.arg 0)) (.int 4)).before args s = true := hs _ (by decide +kernel)
  have hlen : (Cond.isInt (.length (.arg 0))).before args s = true := hq _ (by decide +kernel)
  have hall : (Cond.all (.arg 0) (.isInt (.elem (.arg 0) (.index 0)))).before args s = true := hq _ (by decide +kernel)
  obtain ⟨b, xs, hb, hx⟩ := State.ints_of_pre rfl harr hlen hall
  have hsm : xs.length < 2 ^ 31 := hx.choose_spec.2.2.2
  have hev : (Term.length (.arg 0)).eval args s none [] s = some (.int xs.length.toInt32) := hx.length_eval hb
  have hv := Cond.le_ints hev (show (Term.int 4).eval args s none [] s = some (.int 4) from rfl)
  have hd : xs.length.toInt32 ≤ 4 := by
    simpa [Cond.before, Cond.holds, hv] using hle
  have hN : xs.length ≤ 4 := (Int32.ofNat_le_ofNat hsm (by decide)).mp (show Int32.ofNat xs.length ≤ Int32.ofNat 4 from hd)
  exact ⟨b, xs, Cond.one_arg hc (show args[0]? = some (.ref b) from hb), hx, hN, h⟩
theorem lw_comes (l : Launch) (hflags : l.flags = flags0) : Comes l x (Jvm.Cond.code x code maxLocals ret :: tables_1) room_1 (fun tb e args s => Calls_1 tb e args s ∧ rest_1 tb e args s ∧ Pre_1 tb e args s)
    (fun _ _ args s o t => lw_Q args s o t) := by
  intro p e ha hc hk s m args below hf hfit hheap happ hpre
  obtain ⟨b, xs, hP⟩ := lw_pre_spec hpre.2.2 hpre.2.1
  obtain ⟨k, o, h1, h2, h3, hQ⟩ := lw_walk l hflags b xs p e ha hc hk s m args below hf ((Spec.applies_iff_loose hf).mp happ).1 hP trivial
  exact ⟨k, o, h1, h2, h3, hQ⟩
theorem lw_frame {s t : State} {o : Outcome} {args : Array Value} (h : Framed s o t [] 600000 7302250) :
    Framed s o t (fieldLocs frame_1_writes args s ++ arrayLocs frame_1_arrays args s ++ staticLocs frame_1_statics s) 600000 7302250 := h
theorem lw_limb (L : Cond) (hL : ∀ (args : Array Value) (s t : State), L.after args s (.returned (some (.int 1))) t = true) :
    ArmFor flags0 classFile x code maxLocals ret World_1 tables_1 room_1 Calls_1 rest_1 Pre_1
      (fun tb e a s o t => postC L tb e a s o t ∧ Framed s o t (fieldLocs frame_1_writes a s ++ arrayLocs frame_1_arrays a s ++ staticLocs frame_1_statics s) 600000 7302250) := by
  intro l hflags _ _ p e ha hc hk s m args below hf hfit hheap happ hpre
  obtain ⟨k, o, h1, h2, h3, rfl, hF⟩ := lw_comes l hflags p e ha hc hk s m args below hf hfit hheap happ hpre
  exact ⟨k, _, h1, h2, h3, hL args s _, lw_frame hF⟩
theorem i_vc : Claimed_1_1 ∧ Claimed_1_2 := ⟨lw_limb limb_1_1 (fun args s t => by simp [limb_1_1, Cond.after, Cond.holds, Cond.value]), lw_limb limb_1_2 (fun args s t => Cond.after_iff.mpr (by
  first | (rw [show limb_1_2 = Cond.eq .result (.int 1) from rfl, Cond.eq_ints (x := 1) (y := 1) rfl rfl]; simp; done) | (simp [limb_1_2, Cond.value, Term.eval]; done)))⟩
