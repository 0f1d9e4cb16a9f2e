/-! the law's runs on a fresh object, region by region of what the script holds -/
def xFin (X : Option xX) : Bool := match X with
  | some (en :: _, _, st, _, mc, ms) => (match en.2.1, st with
    | .ireturn, [.int x] => decide (x = 1) && (Nat.ble mc 600000 && Nat.ble ms 7302250)
    | _, _ => false)
  | _ => false
def xAny : Int × Int := (-2147483648, 2147483647)
def xX0 : xX := (xT_law, [(0, .retAddr 5)], [], [], 0, 0)
noncomputable def xLaw (L : Nat) (ivs : List (Int × Int)) (X : xX) : Option xX := xGo (some L) ivs 4 600000 7302250 (xCall ivs 20) xT_law 4000 X
def xW1 : xW := [.inr (0, [.ref 1, .ref 5, .int (Int32.ofNat 0), .ref 9, .ref 16, .ref 34, .ref 43, .ref 48, .ref 50, .ref 53, .ref 60, .ref 62, .int (Int32.ofNat 0)]),
  .inr (1, [.int (Int32.ofNat 0), .ref 2, .ref 3, .int (Int32.ofNat 60), .int (Int32.ofNat 0), .int (Int32.ofNat 12), .int (Int32.ofNat 10), .ref 4]),
  .inl (0, 6, []),
  .inl (0, 6, []),
  .inl (0, 61, []),
  .inr (1, [.int (Int32.ofNat 0), .ref 6, .ref 7, .int (Int32.ofNat 60), .int (Int32.ofNat 0), .int (Int32.ofNat 12), .int (Int32.ofNat 10), .ref 8]),
  .inl (0, 6, []),
  .inl (0, 6, []),
  .inl (0, 61, []),
  .inr (2, [.int (Int32.ofNat 0), .ref 10, .ref 11, .ref 12, .ref 13, .ref 14, .ref 15, .long (Int64.ofNat 0), .int (Int32.ofNat 0)]),
  .inl (0, 6, []),
  .inl (0, 6, []),
  .inl (0, 6, []),
  .inl (1, 6, []),
  .inl (1, 7, []),
  .inl (0, 7, []),
  .inr (3, [.int (Int32.ofNat 0), .ref 17, .ref 18, .ref 19, .ref 20, .ref 21, .ref 22, .ref 29, .ref 30, .ref 31, .long (Int64.ofNat 1), .int (Int32.ofNat 0), .ref 32, .ref 33]),
  .inl (0, 6, []),
  .inl (0, 6, []),
  .inl (0, 6, []),
  .inl (0, 6, []),
  .inl (0, 6, []),
  .inl (4, 6, [(0, .ref 23), (1, .ref 24), (2, .ref 25), (3, .ref 26), (4, .ref 27), (5, .ref 28)]),
  .inl (1, 6, []),
  .inl (1, 6, []),
  .inl (1, 6, []),
  .inl (1, 6, []),
  .inl (1, 6, []),
  .inl (1, 6, []),
  .inl (1, 6, []),
  .inl (1, 6, []),
  .inl (1, 6, []),
  .inl (0, 64, []),
  .inl (0, 64, []),
  .inr (4, [.ref 35, .ref 38, .ref 41, .ref 42, .int (Int32.ofNat 0)]),
  .inr (5, [.int (Int32.ofNat 0), .int (Int32.ofNat 0), .ref 36, .ref 37]),
  .inl (0, 246, []),
  .inl (0, 246, []),
  .inr (5, [.int (Int32.ofNat 0), .int (Int32.ofNat 0), .ref 39, .ref 40]),
  .inl (0, 246, []),
  .inl (0, 246, []),
  .inl (0, 6, []),
  .inl (0, 246, []),
  .inr (6, [.ref 44, .ref 45, .ref 46, .ref 47, .int (Int32.ofNat 0), .int (Int32.ofNat 0)]),
  .inl (0, 6, []),
  .inl (0, 64, []),
  .inl (0, 6, []),
  .inl (0, 6, []),
  .inr (7, [.ref 49, .int (Int32.ofNat 0), .int (Int32.ofNat 0), .int (Int32.ofNat 4294967295)]),
  .inl (0, 90, []),
  .inr (8, [.int (Int32.ofNat 0), .ref 51, .ref 52]),
  .inl (0, 6, []),
  .inl (0, 6, []),
  .inr (9, [.ref 54, .ref 55, .ref 56, .ref 57, .int (Int32.ofNat 0), .ref 58, .ref 59]),
  .inl (0, 90, []),
  .inl (0, 90, []),
  .inl (0, 90, []),
  .inl (0, 90, []),
  .inl (0, 11, []),
  .inl (3, 91, []),
  .inr (10, [.ref 61, .int (Int32.ofNat 0)]),
  .inl (0, 128, []),
  .inl (0, 2, [(1, .int (Int32.ofNat 4294967295)), (0, .int (Int32.ofNat 4294967295))]),
  .inr (11, [.ref 64, .ref 65, .int (Int32.ofNat 0), .int (Int32.ofNat 0), .ref 66, .ref 67, .ref 68, .long (Int64.ofNat 0), .int (Int32.ofNat 0), .ref 69, .ref 70, .ref 71, .ref 72, .ref 73, .ref 74, .ref 75, .long (Int64.ofNat 0), .int (Int32.ofNat 0), .ref 76, .ref 77, .int (Int32.ofNat 0), .ref 78, .ref 79, .ref 80, .ref 81, .int (Int32.ofNat 0), .ref 82, .int (Int32.ofNat 0), .ref 83, .ref 84, .ref 85, .int (Int32.ofNat 0), .int (Int32.ofNat 0), .int (Int32.ofNat 0), .int (Int32.ofNat 0), .int (Int32.ofNat 0), .ref 86, .ref 87, .int (Int32.ofNat 0), .int (Int32.ofNat 0), .int (Int32.ofNat 0), .ref 88, .int (Int32.ofNat 0)]),
  .inl (0, 78, [(3, .int (Int32.ofNat 10)), (2, .int (Int32.ofNat 12)), (0, .int (Int32.ofNat 60))]),
  .inl (0, 78, []),
  .inl (0, 6, []),
  .inl (0, 6, []),
  .inl (0, 6, []),
  .inl (0, 6, []),
  .inl (0, 36, []),
  .inl (0, 36, []),
  .inl (1, 36, []),
  .inl (1, 6, []),
  .inl (1, 6, []),
  .inl (1, 6, []),
  .inl (0, 300, []),
  .inl (0, 1800, []),
  .inl (0, 260, []),
  .inl (0, 1560, []),
  .inl (0, 2, []),
  .inl (0, 6, []),
  .inl (0, 1560, []),
  .inl (0, 6, []),
  .inl (0, 6, []),
  .inl (2, 90, []),
  .inl (0, 6, []),
  .inl (0, 6, []),
  .inl (0, 6000, [])]
def xX1 : xX := (xT_law.drop 10, [(3, .int (Int32.ofNat 0)), (2, .ref 63), (1, .ref 0), (0, .retAddr 5)], [], xW1, 89, 14452)
noncomputable def xRun (c : Int) (a b : Int × Int) : Bool := xFin (xLaw 4 [xAny, a, b, xAny, (c, c)] xX1)
/-- intervals side by side, from one end to the other -/
def xCon : Int → List (Int × Int) → Bool
  | n, [] => decide (n = 2147483648)
  | n, q :: r => decide (q.1 = n) && (decide (q.1 ≤ q.2) && xCon (q.2 + 1) r)
noncomputable def xOk (c : Int) (l : List ((Int × Int) × List (Int × Int))) : Bool := xCon (-2147483648) (l.map fun q => q.1) && l.all fun q => xCon (-2147483648) q.2 && q.2.all (xRun c q.1)
def xXe (X Y : xX) : Bool := decide (X.1 = Y.1) && (decide (X.2.1 = Y.2.1) && (decide (X.2.2.1 = Y.2.2.1) && (decide (X.2.2.2.1 = Y.2.2.2.1) && decide (X.2.2.2.2 = Y.2.2.2.2))))
def xOe (o : Option xX) (Y : xX) : Bool := match o with
  | some X => xXe X Y
  | none => false
theorem xOe_ok {o : Option xX} {Y : xX} (h : xOe o Y = true) : o = some Y := by
  cases o with
  | none => cases h
  | some X =>
    have h : xXe X Y = true := h
    unfold xXe at h
    simp only [Bool.and_eq_true, decide_eq_true_eq] at h
    obtain ⟨a, b, c, d, e⟩ := X
    obtain ⟨a2, b2, c2, d2, e2⟩ := Y
    simp only at h
    obtain ⟨h1, h2, h3, h4, h5⟩ := h
    rw [h1, h2, h3, h4, h5]
set_option maxRecDepth 100000 in
theorem xr_pre1 : xOe (xGo (some 4) [] 4 600000 7302250 (xCall [] 20) xT_law 10 xX0) xX1 = true := by decide +kernel
theorem xr_pre : xGo (some 4) [] 4 600000 7302250 (xCall [] 20) xT_law 10 xX0 = some xX1 := xOe_ok xr_pre1
