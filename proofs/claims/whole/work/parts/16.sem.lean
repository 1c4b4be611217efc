/-! WHAT A LAW'S TEXT MEANS, in numbers: sums and tests over an environment (1 day, 2 hand, 3 marks, 4 turn, 5 offset); and what it is that a stretch of code of either class tells that meaning. -/
abbrev SV : Type := (Nat → Int) → Option Int
abbrev TV : Type := (Nat → Int) → Option Bool
def limZ (z : Int) : Option Int := if -1000000000 ≤ z ∧ z ≤ 1000000000 then some z else none
/-- the five sums, by the reference's numbers -/
def arZ (op : Nat) (a b : Int) : Option Int :=
  if op = 19 then limZ (a + b) else if op = 20 then limZ (a - b) else if op = 21 then limZ (a * b)
  else if op = 22 then (if b = 0 then none else limZ (a.tmod b)) else (if b = 0 then none else limZ (a.tdiv b))
def cmpZ (op : Nat) (a b : Int) : Bool := if op = 24 then decide (a < b) else if op = 25 then decide (b < a) else decide (a = b)
def b2i (b : Bool) : Int := if b = true then 1 else 0
def svLeaf (k : Nat) (v : Nat) : SV := fun e => some (if k = 0 then (v : Int) else e k)
def sv2 (op : Nat) (v w : SV) : SV := fun e => (v e).bind fun a => (w e).bind fun b => arZ op a b
def tv2 (op : Nat) (v w : SV) : TV := fun e => (v e).bind fun a => (w e).bind fun b => some (cmpZ op a b)
def tvNot (t : TV) : TV := fun e => (t e).map (fun b => !b)
def tvAnd (t u : TV) : TV := fun e => (t e).bind fun b => if b = true then u e else some false
def tvOr (t u : TV) : TV := fun e => (t e).bind fun b => if b = true then some true else u e
abbrev ClA : Type := SV × Option TV
def clSem (q : ClA) (e : Nat → Int) : Option Int := (q.1 e).bind fun z => match q.2 with
  | none => some z
  | some t => if t e = some true then some z else none
def lawSem (l : List ClA) : (Nat → Int) → Option Int := fun e => l.foldl (fun acc q => (clSem q e).or acc) none
-- the reference's code: c k is a step's op and what it needs
def stpR (c : Nat → Int × Int) (e : Nat → Int) (k : Nat) (S : List Int) : Option (Option (Nat × List Int)) :=
  if (c k).1 < 0 then none
  else if (c k).1 ≤ 5 then some (some (k + 1, (if (c k).1 = 0 then (c k).2 else e (c k).1.toNat) :: S))
  else if (c k).1 < 19 then none
  else if (c k).1 < 24 then (match S with
    | b :: a :: S' => (match arZ (c k).1.toNat a b with
      | some z => some (some (k + 1, z :: S'))
      | none => some none)
    | _ => none)
  else if (c k).1 < 27 then (match S with
    | b :: a :: S' => some (some (k + 1, b2i (cmpZ (c k).1.toNat a b) :: S'))
    | _ => none)
  else if (c k).1 = 27 then (match S with
    | a :: S' => some (some (k + 1, (1 - a) :: S'))
    | _ => none)
  else if (c k).1 ≤ 29 then (match S with
    | a :: S' => if a = (if (c k).1 = 28 then 0 else 1) then (if (k : Int) < (c k).2 then some (some ((c k).2.toNat, a :: S')) else none) else some (some (k + 1, S'))
    | _ => none)
  else none
def CloR (c : Nat → Int × Int) (e : Nat → Int) (a b : Nat) (K : Nat → List Int → Prop) (B : Prop) : Prop :=
  (∀ k S k' S', a ≤ k → k < b → stpR c e k S = some (some (k', S')) → K k' S' → K k S) ∧ ∀ k S, a ≤ k → k < b → stpR c e k S = some none → B → K k S
/-- the reference's code from a to b tells v -/
def RealR (c : Nat → Int × Int) (a b : Nat) (v : SV) : Prop := ∀ (e : Nat → Int) (K : Nat → List Int → Prop) (B : Prop), CloR c e a b K B → ∀ S, (∀ z, v e = some z → K b (z :: S)) → (v e = none → B) → K a S
def RealRT (c : Nat → Int × Int) (a b : Nat) (t : TV) : Prop := RealR c a b (fun e => (t e).map b2i)
-- the class's code: c k % 32 is the kind, c k / 32 what it needs
def arX (kd : Nat) : Nat := if kd = 6 then 19 else if kd = 7 then 20 else if kd = 8 then 21 else if kd = 9 then 23 else 22
def cmX (kd : Nat) : Nat := kd + 13
def stpX (c : Nat → Nat) (e : Nat → Int) (k : Nat) (S : List Int) (so : Bool) : Option (Option (Nat × List Int × Bool)) :=
  if c k % 32 = 0 then some (some (k + 1, ((c k / 32 : Nat) : Int) :: S, so))
  else if c k % 32 ≤ 5 then some (some (k + 1, e (c k % 32) :: S, so))
  else if c k % 32 ≤ 10 then (match S with
    | b :: a :: S' => (match arZ (arX (c k % 32)) a b with
      | some z => some (some (k + 1, z :: S', so))
      | none => some none)
    | _ => none)
  else if c k % 32 ≤ 13 then (match S with
    | b :: a :: S' => some (some (k + 1, S', cmpZ (cmX (c k % 32)) a b))
    | _ => none)
  else if c k % 32 = 14 then some (some (k + 1, S, !so))
  else if c k % 32 ≤ 16 then (if so = decide (c k % 32 = 16) then (if k < c k / 32 then some (some (c k / 32, S, so)) else none) else some (some (k + 1, S, so)))
  else none
def CloX (c : Nat → Nat) (e : Nat → Int) (a b : Nat) (K : Nat → List Int → Bool → Prop) (B : Prop) : Prop :=
  (∀ k S so k' S' so', a ≤ k → k < b → stpX c e k S so = some (some (k', S', so')) → K k' S' so' → K k S so) ∧ ∀ k S so, a ≤ k → k < b → stpX c e k S so = some none → B → K k S so
/-- the class's code from a to b tells v -/
def RealX (c : Nat → Nat) (a b : Nat) (v : SV) : Prop := ∀ (e : Nat → Int) (K : Nat → List Int → Bool → Prop) (B : Prop), CloX c e a b K B → ∀ S so, (∀ z, v e = some z → K b (z :: S) so) → (v e = none → B) → K a S so
def RealXT (c : Nat → Nat) (a b : Nat) (t : TV) : Prop := ∀ (e : Nat → Int) (K : Nat → List Int → Bool → Prop) (B : Prop), CloX c e a b K B → ∀ S so, (∀ z, t e = some z → K b S z) → (t e = none → B) → K a S so
/-- how many steps below k open a number -/
def lcX (c : Nat → Nat) : Nat → Nat
  | 0 => 0
  | k + 1 => lcX c k + (if c k % 32 ≤ 5 then 1 else 0)
