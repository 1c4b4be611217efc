-- inside, in numbers: count, pairs, offset, the row's code
abbrev ISt : Type := Nat × Nat × Nat × Nat
def insO (ss : List Sg) (h mk : Nat) (s : List Nat) (N c : Nat) : Int := obF h (drvN s N c) (drnN s N c) mk ss
def insK (mk : Nat) (z : Int) : Nat := if z = (mk : Int) then 0 else z.toNat
def istep (ss : List Sg) (h mk : Nat) (s : List Nat) (N c : Nat) (b : ISt) : ISt := if insO ss h mk s N c = -1 then b else (b.1 + (if insO ss h mk s N c = (mk : Int) then mk else 1), if b.2.1 = 0 ∨ (b.2.1 = N / 2 ∧ insK mk (insO ss h mk s N c) < b.2.2.1) then (N / 2, insK mk (insO ss h mk s N c), c) else b.2)
def insF (ss : List Sg) (h mk : Nat) (s : List Nat) : ISt := foldP (vld s.length 4) (istep ss h mk s 4) 65536 (foldP (vld s.length 2) (istep ss h mk s 2) 256 (0, 0, 0, 0))
def insV (b : ISt) (w : Nat) : Int := if w = 0 then (b.1 : Int) else if b.1 = 0 then -1 else if w = 1 then (b.2.1 : Int) else if w = 2 then (b.2.2.1 : Int) else if 2 * b.2.1 < w - 2 then -1 else (dg (2 * b.2.1) b.2.2.2 (w - 3) : Int)
def s_inside (A : Ab) (h w : Int) : Int := match hdAt (cor A) h with
  | none => -1
  | some y => if 0 ≤ w ∧ w ≤ 6 then insV (insF (sgs (cor A)) h.toNat y.1 (stk (cor A))) w.toNat else -1
def ISOK (c : Nat) (b : ISt) : Prop := b.1 ≤ 400 * c ∧ b.2.1 ≤ 2 ∧ b.2.2.1 < 401 ∧ (b.1 = 0 ↔ b.2.1 = 0)
