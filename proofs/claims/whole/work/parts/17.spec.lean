-- WHAT THE CLOCK IS, in numbers and lists; both classes are tied to it
abbrev Hd : Type := Nat × Nat × Nat × List (Nat × Nat)
abbrev Sg : Type := Nat × Nat × Nat
abbrev Lw : Type := (Nat → Int) → Option Int
/-- hands (marks, offset, gap, train), stock, laws, force, sights (hand, day, mark), knobs, wear -/
abbrev Core : Type := List Hd × List Nat × List Lw × Int × List Sg × List (Nat → Nat) × Nat
abbrev hds (c : Core) : List Hd := c.1
abbrev stk (c : Core) : List Nat := c.2.1
abbrev lws (c : Core) : List Lw := c.2.2.1
abbrev frc (c : Core) : Int := c.2.2.2.1
abbrev sgs (c : Core) : List Sg := c.2.2.2.2.1
abbrev kns (c : Core) : List (Nat → Nat) := c.2.2.2.2.2.1
abbrev wer (c : Core) : Nat := c.2.2.2.2.2.2
/-- core, images, tape, fault, bent, how often refused by a reason, status, the latest storm (mark, lost) by hand -/
abbrev Ab : Type := Core × (Nat → Option Core) × List Nat × Int × Nat × (Int → Nat) × Int × List (Nat × Nat)
abbrev cor (A : Ab) : Core := A.1
abbrev img (A : Ab) : Nat → Option Core := A.2.1
abbrev tap (A : Ab) : List Nat := A.2.2.1
abbrev flt (A : Ab) : Int := A.2.2.2.1
abbrev bnt (A : Ab) : Nat := A.2.2.2.2.1
abbrev rfs (A : Ab) : Int → Nat := A.2.2.2.2.2.1
abbrev sts (A : Ab) : Int := A.2.2.2.2.2.2.1
abbrev stm (A : Ab) : List (Nat × Nat) := A.2.2.2.2.2.2.2
def HdOK (x : Hd) : Prop := 1 ≤ x.1 ∧ x.1 ≤ 400 ∧ x.2.1 < x.1 ∧ x.2.2.1 ≤ 9999 ∧ x.2.2.2.length ≤ 4 ∧ ∀ q ∈ x.2.2.2, 6 ≤ q.1 ∧ q.1 ≤ 120 ∧ 6 ≤ q.2 ∧ q.2 ≤ 120
def CoreOK (c : Core) : Prop := (hds c).length ≤ 6 ∧ (∀ x ∈ hds c, HdOK x) ∧ (stk c).length ≤ 12 ∧ (∀ t ∈ stk c, 6 ≤ t ∧ t ≤ 120) ∧ (lws c).length ≤ 6 ∧ -1 ≤ frc c ∧ frc c < (lws c).length ∧ (sgs c).length ≤ 10 ∧ (∀ s ∈ sgs c, s.1 < (hds c).length ∧ s.2.1 ≤ 1000000 ∧ ∀ x, (hds c)[s.1]? = some x → s.2.2 < x.1) ∧ (kns c).length ≤ 4 ∧ (∀ f ∈ kns c, ∀ h, f h ≤ 9) ∧ 1 ≤ wer c ∧ wer c ≤ 1000000
def AbOK (A : Ab) : Prop := CoreOK (cor A) ∧ (∀ k c, img A k = some c → CoreOK c) ∧ (tap A).length ≤ 400 ∧ (∀ t ∈ tap A, t ≤ 255) ∧ (stm A).length ≤ 6
/-- refused by v (below 0), or not -/
def tellA (A : Ab) (v : Int) : Ab := if v < 0 then (cor A, img A, tap A, flt A, bnt A, fun w => if w = v then rfs A w + 1 else rfs A w, v, stm A) else (cor A, img A, tap A, flt A, bnt A, rfs A, 0, stm A)
def wasA (A : Ab) : Ab := (cor A, img A, tap A, flt A, bnt A, rfs A, 0, stm A)
def corA (A : Ab) (c : Core) : Ab := (c, A.2)
def tapA (A : Ab) (t : List Nat) : Ab := (cor A, img A, t, A.2.2.2)
-- rows of the reference
/-- what a law's row of the reference tells: a clause's sum is its code from a to b, its test that from b to c -/
def LwM (f : Nat → Int) (w : Lw) : Prop := ∃ cl : List (Nat × Nat × Nat × ClA), f 1 = (cl.length : Int) ∧ cl.length ≤ 12 ∧ w = lawSem (cl.map (fun q => q.2.2.2)) ∧ ∀ (i : Nat) (q : Nat × Nat × Nat × ClA), cl[i]? = some q →
  (f (2 + 8 * i + 3) = (q.1 : Int) ∧ f (2 + 8 * i + 4) = (q.2.1 : Int) ∧ f (2 + 8 * i + 5) = (q.2.1 : Int) ∧ f (2 + 8 * i + 6) = (q.2.2.1 : Int)) ∧ q.1 ≤ q.2.1 ∧ q.2.1 ≤ q.2.2.1 ∧ q.2.2.1 ≤ 400 ∧ RealR (fun k => (f (98 + 2 * k), f (98 + 2 * k + 1))) q.1 q.2.1 q.2.2.2.1 ∧ (match q.2.2.2.2 with
  | none => q.2.2.1 = q.2.1
  | some t => q.2.1 < q.2.2.1 ∧ RealRT (fun k => (f (98 + 2 * k), f (98 + 2 * k + 1))) q.2.1 q.2.2.1 t)
def HdRow (r : Nat → Int32) (at_ : Nat) (x : Hd) : Prop := r at_ = nI x.1 ∧ r (at_ + 1) = nI x.2.1 ∧ r (at_ + 2) = nI x.2.2.1 ∧ r (at_ + 3) = nI x.2.2.2.length ∧ ∀ (p : Nat) (q : Nat × Nat), x.2.2.2[p]? = some q → r (at_ + 4 + 2 * p) = nI q.1 ∧ r (at_ + 5 + 2 * p) = nI q.2
def LwRow (r : Nat → Int32) (at_ : Nat) (w : Lw) : Prop := ∃ f : Nat → Int, (∀ j, j < 900 → (r (at_ + j)).toInt = f j) ∧ LwM f w
def RowRep (r : Nat → Int32) (c : Core) : Prop :=
  (r 0 = nI (hds c).length ∧ r 1 = nI (stk c).length ∧ r 2 = nI (lws c).length ∧ r 3 = iI (frc c) ∧ r 4 = nI (sgs c).length ∧ r 5 = nI (kns c).length ∧ r 6 = nI (wer c)) ∧
  (∀ (h : Nat) (x : Hd), (hds c)[h]? = some x → HdRow r (10 + 12 * h) x) ∧ (∀ (i t : Nat), (stk c)[i]? = some t → r (82 + i) = nI t) ∧
  (∀ (i : Nat) (s : Sg), (sgs c)[i]? = some s → r (94 + 3 * i) = nI s.1 ∧ r (94 + 3 * i + 1) = nI s.2.1 ∧ r (94 + 3 * i + 2) = nI s.2.2) ∧
  (∀ (k : Nat) (f : Nat → Nat), (kns c)[k]? = some f → ∀ h, h < 6 → r (124 + 6 * k + h) = nI (f h)) ∧ (∀ (i : Nat) (w : Lw), (lws c)[i]? = some w → LwRow r (150 + 900 * i) w)
def RepM (I : mI) (J : mJ) (m : Nat) (A : Ab) : Prop :=
  (I m 1 = iI (sts A) ∧ I m 6 = nI (bnt A) ∧ I m 8 = nI (tap A).length ∧ I m 13 = iI (flt A) ∧ I m 42 = nI (stm A).length) ∧
  (I (m + 1) 1 = nI (rfs A (-1)) ∧ I (m + 1) 2 = nI (rfs A (-2)) ∧ I (m + 1) 5 = nI (rfs A (-5)) ∧ I (m + 1) 6 = nI (rfs A (-6))) ∧
  RowRep (I (m + 2)) (cor A) ∧ (∀ k, k < 2 → I (m + 4) k = (if (img A k).isSome then 1 else 0) ∧ ∀ c, img A k = some c → RowRep (fun i => I (m + 3) (5550 * k + i)) c) ∧
  (∀ (i t : Nat), (tap A)[i]? = some t → I (m + 5) i = nI t) ∧ (∀ (h : Nat) (x : Nat × Nat), (stm A)[h]? = some x → I (m + 20) h = nI x.1 ∧ I (m + 19) h = nI x.2) ∧
  (J (m + 11) 0 = 4153 ∧ J (m + 11) 1 = 263620 ∧ J (m + 11) 2 = 13683059 ∧ J (m + 11) 3 = 677454 ∧ J (m + 11) 4 = 509824180)
theorem up2_at {α : Type} {f : Nat → Nat → α} {a k : Nat} {v : α} : up2 f a k v a = fun j => if j = k then v else f a j := by funext j; simp [up2]
theorem up2_off {α : Type} {f : Nat → Nat → α} {a b k : Nat} {v : α} (h : b ≠ a) : up2 f a k v b = f b := by funext j; simp [up2, h]
/-- what lies where: the reference's object at m, its rows behind it -/
def MS (T : mT) (F : mF) (m : Nat) : Prop := T m = some (.inl 11) ∧
  (F m 2 = some (m + 1) ∧ T (m + 1) = some (.inr (.int, 7))) ∧ (F m 3 = some (m + 2) ∧ T (m + 2) = some (.inr (.int, 5550))) ∧ (F m 4 = some (m + 3) ∧ T (m + 3) = some (.inr (.int, 11100))) ∧ (F m 5 = some (m + 4) ∧ T (m + 4) = some (.inr (.boolean, 2))) ∧
  (F m 7 = some (m + 5) ∧ T (m + 5) = some (.inr (.int, 400))) ∧ (F m 16 = some (m + 6) ∧ T (m + 6) = some (.inr (.int, 96))) ∧ (F m 18 = some (m + 7) ∧ T (m + 7) = some (.inr (.int, 400))) ∧ (F m 19 = some (m + 8) ∧ T (m + 8) = some (.inr (.int, 400))) ∧
  (F m 21 = some (m + 9) ∧ T (m + 9) = some (.inr (.int, 400))) ∧ (F m 22 = some (m + 10) ∧ T (m + 10) = some (.inr (.int, 400))) ∧ (F m 25 = some (m + 11) ∧ T (m + 11) = some (.inr (.long, 5))) ∧ (F m 27 = some (m + 12) ∧ T (m + 12) = some (.inr (.long, 13))) ∧
  (F m 28 = some (m + 13) ∧ T (m + 13) = some (.inr (.long, 400))) ∧ (F m 32 = some (m + 14) ∧ T (m + 14) = some (.inr (.int, 4))) ∧ (F m 33 = some (m + 15) ∧ T (m + 15) = some (.inr (.int, 4))) ∧ (F m 37 = some (m + 16) ∧ T (m + 16) = some (.inr (.int, 2001))) ∧
  (F m 38 = some (m + 17) ∧ T (m + 17) = some (.inr (.int, 800000))) ∧ (F m 39 = some (m + 18) ∧ T (m + 18) = some (.inr (.int, 160000))) ∧ (F m 40 = some (m + 19) ∧ T (m + 19) = some (.inr (.int, 6))) ∧ (F m 41 = some (m + 20) ∧ T (m + 20) = some (.inr (.int, 6)))
section MSP
variable {T : mT} {F : mF} {m : Nat}
theorem MS.o (h : MS T F m) : T m = some (.inl 11) := h.1
theorem MS.f2 (h : MS T F m) : F m 2 = some (m + 1) := h.2.1.1
theorem MS.t2 (h : MS T F m) : T (m + 1) = some (.inr (.int, 7)) := h.2.1.2
theorem MS.f3 (h : MS T F m) : F m 3 = some (m + 2) := h.2.2.1.1
theorem MS.t3 (h : MS T F m) : T (m + 2) = some (.inr (.int, 5550)) := h.2.2.1.2
theorem MS.f4 (h : MS T F m) : F m 4 = some (m + 3) := h.2.2.2.1.1
theorem MS.t4 (h : MS T F m) : T (m + 3) = some (.inr (.int, 11100)) := h.2.2.2.1.2
theorem MS.f5 (h : MS T F m) : F m 5 = some (m + 4) := h.2.2.2.2.1.1
theorem MS.t5 (h : MS T F m) : T (m + 4) = some (.inr (.boolean, 2)) := h.2.2.2.2.1.2
theorem MS.f7 (h : MS T F m) : F m 7 = some (m + 5) := h.2.2.2.2.2.1.1
theorem MS.t7 (h : MS T F m) : T (m + 5) = some (.inr (.int, 400)) := h.2.2.2.2.2.1.2
theorem MS.f16 (h : MS T F m) : F m 16 = some (m + 6) := h.2.2.2.2.2.2.1.1
theorem MS.t16 (h : MS T F m) : T (m + 6) = some (.inr (.int, 96)) := h.2.2.2.2.2.2.1.2
theorem MS.f18 (h : MS T F m) : F m 18 = some (m + 7) := h.2.2.2.2.2.2.2.1.1
theorem MS.t18 (h : MS T F m) : T (m + 7) = some (.inr (.int, 400)) := h.2.2.2.2.2.2.2.1.2
theorem MS.f19 (h : MS T F m) : F m 19 = some (m + 8) := h.2.2.2.2.2.2.2.2.1.1
theorem MS.t19 (h : MS T F m) : T (m + 8) = some (.inr (.int, 400)) := h.2.2.2.2.2.2.2.2.1.2
theorem MS.f21 (h : MS T F m) : F m 21 = some (m + 9) := h.2.2.2.2.2.2.2.2.2.1.1
theorem MS.t21 (h : MS T F m) : T (m + 9) = some (.inr (.int, 400)) := h.2.2.2.2.2.2.2.2.2.1.2
theorem MS.f22 (h : MS T F m) : F m 22 = some (m + 10) := h.2.2.2.2.2.2.2.2.2.2.1.1
theorem MS.t22 (h : MS T F m) : T (m + 10) = some (.inr (.int, 400)) := h.2.2.2.2.2.2.2.2.2.2.1.2
theorem MS.f25 (h : MS T F m) : F m 25 = some (m + 11) := h.2.2.2.2.2.2.2.2.2.2.2.1.1
theorem MS.t25 (h : MS T F m) : T (m + 11) = some (.inr (.long, 5)) := h.2.2.2.2.2.2.2.2.2.2.2.1.2
theorem MS.f27 (h : MS T F m) : F m 27 = some (m + 12) := h.2.2.2.2.2.2.2.2.2.2.2.2.1.1
theorem MS.t27 (h : MS T F m) : T (m + 12) = some (.inr (.long, 13)) := h.2.2.2.2.2.2.2.2.2.2.2.2.1.2
theorem MS.f28 (h : MS T F m) : F m 28 = some (m + 13) := h.2.2.2.2.2.2.2.2.2.2.2.2.2.1.1
theorem MS.t28 (h : MS T F m) : T (m + 13) = some (.inr (.long, 400)) := h.2.2.2.2.2.2.2.2.2.2.2.2.2.1.2
theorem MS.f32 (h : MS T F m) : F m 32 = some (m + 14) := h.2.2.2.2.2.2.2.2.2.2.2.2.2.2.1.1
theorem MS.t32 (h : MS T F m) : T (m + 14) = some (.inr (.int, 4)) := h.2.2.2.2.2.2.2.2.2.2.2.2.2.2.1.2
theorem MS.f33 (h : MS T F m) : F m 33 = some (m + 15) := h.2.2.2.2.2.2.2.2.2.2.2.2.2.2.2.1.1
theorem MS.t33 (h : MS T F m) : T (m + 15) = some (.inr (.int, 4)) := h.2.2.2.2.2.2.2.2.2.2.2.2.2.2.2.1.2
theorem MS.f37 (h : MS T F m) : F m 37 = some (m + 16) := h.2.2.2.2.2.2.2.2.2.2.2.2.2.2.2.2.1.1
theorem MS.t37 (h : MS T F m) : T (m + 16) = some (.inr (.int, 2001)) := h.2.2.2.2.2.2.2.2.2.2.2.2.2.2.2.2.1.2
theorem MS.f38 (h : MS T F m) : F m 38 = some (m + 17) := h.2.2.2.2.2.2.2.2.2.2.2.2.2.2.2.2.2.1.1
theorem MS.t38 (h : MS T F m) : T (m + 17) = some (.inr (.int, 800000)) := h.2.2.2.2.2.2.2.2.2.2.2.2.2.2.2.2.2.1.2
theorem MS.f39 (h : MS T F m) : F m 39 = some (m + 18) := h.2.2.2.2.2.2.2.2.2.2.2.2.2.2.2.2.2.2.1.1
theorem MS.t39 (h : MS T F m) : T (m + 18) = some (.inr (.int, 160000)) := h.2.2.2.2.2.2.2.2.2.2.2.2.2.2.2.2.2.2.1.2
theorem MS.f40 (h : MS T F m) : F m 40 = some (m + 19) := h.2.2.2.2.2.2.2.2.2.2.2.2.2.2.2.2.2.2.2.1.1
theorem MS.t40 (h : MS T F m) : T (m + 19) = some (.inr (.int, 6)) := h.2.2.2.2.2.2.2.2.2.2.2.2.2.2.2.2.2.2.2.1.2
theorem MS.f41 (h : MS T F m) : F m 41 = some (m + 20) := h.2.2.2.2.2.2.2.2.2.2.2.2.2.2.2.2.2.2.2.2.1
theorem MS.t41 (h : MS T F m) : T (m + 20) = some (.inr (.int, 6)) := h.2.2.2.2.2.2.2.2.2.2.2.2.2.2.2.2.2.2.2.2.2
end MSP
