-- THE CLASS: what lies where (x: the clock; o: a state; a: a hand), and what it stands for
def HN (T : mT) (F : mF) (a : Nat) : Prop := T a = some (.inl 1) ∧ F a 4 = some (a + 1) ∧ T (a + 1) = some (.inr (.int, 8))
def SS (T : mT) (F : mF) (o : Nat) : Prop := T o = some (.inl 7) ∧ (F o 1 = some (o + 1) ∧ T (o + 1) = some (.inr (.object "WheelYear$Hand", 6))) ∧ (F o 3 = some (o + 2) ∧ T (o + 2) = some (.inr (.int, 12))) ∧ (F o 6 = some (o + 3) ∧ T (o + 3) = some (.inr (.object "WheelYear$Law", 6))) ∧
  (F o 9 = some (o + 4) ∧ T (o + 4) = some (.inr (.int, 10))) ∧ (F o 10 = some (o + 5) ∧ T (o + 5) = some (.inr (.int, 10))) ∧ (F o 11 = some (o + 6) ∧ T (o + 6) = some (.inr (.int, 10))) ∧ (F o 13 = some (o + 7) ∧ T (o + 7) = some (.inr (.int, 24))) ∧ ∀ h, h < 6 → F (o + 1) h = some (o + 8 + 2 * h) ∧ HN T F (o + 8 + 2 * h)
section SSP
variable {T : mT} {F : mF} {u a : Nat}
theorem HN.o (h : HN T F a) : T a = some (.inl 1) := h.1
theorem HN.f4 (h : HN T F a) : F a 4 = some (a + 1) := h.2.1
theorem HN.t4 (h : HN T F a) : T (a + 1) = some (.inr (.int, 8)) := h.2.2
theorem SS.o (h : SS T F u) : T u = some (.inl 7) := h.1
theorem SS.f1 (h : SS T F u) : F u 1 = some (u + 1) := h.2.1.1
theorem SS.t1 (h : SS T F u) : T (u + 1) = some (.inr (.object "WheelYear$Hand", 6)) := h.2.1.2
theorem SS.f3 (h : SS T F u) : F u 3 = some (u + 2) := h.2.2.1.1
theorem SS.t3 (h : SS T F u) : T (u + 2) = some (.inr (.int, 12)) := h.2.2.1.2
theorem SS.f6 (h : SS T F u) : F u 6 = some (u + 3) := h.2.2.2.1.1
theorem SS.t6 (h : SS T F u) : T (u + 3) = some (.inr (.object "WheelYear$Law", 6)) := h.2.2.2.1.2
theorem SS.f9 (h : SS T F u) : F u 9 = some (u + 4) := h.2.2.2.2.1.1
theorem SS.t9 (h : SS T F u) : T (u + 4) = some (.inr (.int, 10)) := h.2.2.2.2.1.2
theorem SS.f10 (h : SS T F u) : F u 10 = some (u + 5) := h.2.2.2.2.2.1.1
theorem SS.t10 (h : SS T F u) : T (u + 5) = some (.inr (.int, 10)) := h.2.2.2.2.2.1.2
theorem SS.f11 (h : SS T F u) : F u 11 = some (u + 6) := h.2.2.2.2.2.2.1.1
theorem SS.t11 (h : SS T F u) : T (u + 6) = some (.inr (.int, 10)) := h.2.2.2.2.2.2.1.2
theorem SS.f13 (h : SS T F u) : F u 13 = some (u + 7) := h.2.2.2.2.2.2.2.1.1
theorem SS.t13 (h : SS T F u) : T (u + 7) = some (.inr (.int, 24)) := h.2.2.2.2.2.2.2.1.2
theorem SS.h (hS : SS T F u) {h : Nat} (hh : h < 6) : F (u + 1) h = some (u + 8 + 2 * h) := (hS.2.2.2.2.2.2.2.2 h hh).1
theorem SS.n (hS : SS T F u) {h : Nat} (hh : h < 6) : HN T F (u + 8 + 2 * h) := (hS.2.2.2.2.2.2.2.2 h hh).2
end SSP
/-- a hand of the class at a -/
def HdX (I : mI) (J : mJ) (a : Nat) (y : Hd) : Prop := I a 0 = nI y.1 ∧ I a 1 = nI y.2.1 ∧ I a 2 = nI y.2.2.1 ∧ I a 3 = nI y.2.2.2.length ∧ (∀ (p : Nat) (q : Nat × Nat), y.2.2.2[p]? = some q → I (a + 1) (2 * p) = nI q.1 ∧ I (a + 1) (2 * p + 1) = nI q.2) ∧ J a 5 = lN (upN y.2.2.2 / Nat.gcd (upN y.2.2.2) (loN y.2.2.2)) ∧ J a 6 = lN (loN y.2.2.2 / Nat.gcd (upN y.2.2.2) (loN y.2.2.2))
/-- what a law of the class tells: lc steps f, the clauses' starts st -/
def LwXs (lc ls : Nat) (f s : Nat → Int) (w : Lw) : Prop := ∃ (cl : List ClA) (c st : Nat → Nat), ls = cl.length + 1 ∧ cl.length ≤ 12 ∧ w = lawSem cl ∧ lc ≤ 400 ∧ lcX c lc ≤ 50 ∧ (∀ i, i < lc → f i = (c i : Int) ∧ c i < 2 ^ 20) ∧ (∀ i, i ≤ cl.length → s i = (st i : Int) ∧ st i ≤ lc) ∧ ∀ (i : Nat) (q : ClA), cl[i]? = some q → ∃ b, st i ≤ b ∧ b ≤ st (i + 1) ∧ RealX c (st i) b q.1 ∧ (match q.2 with
  | none => st (i + 1) = b
  | some t => RealXT c b (st (i + 1)) t)
def LwX (T : mT) (I : mI) (F : mF) (lo a : Nat) (w : Lw) : Prop := lo ≤ a ∧ T a = some (.inl 2) ∧ ∃ c s lc ls : Nat, lo ≤ c ∧ lo ≤ s ∧ F a 0 = some c ∧ T c = some (.inr (.int, lc)) ∧ F a 1 = some s ∧ T s = some (.inr (.int, ls)) ∧ LwXs lc ls (fun i => (I c i).toInt) (fun i => (I s i).toInt) w
def StX (T : mT) (I : mI) (J : mJ) (F : mF) (lo o : Nat) (c : Core) : Prop :=
  (I o 2 = nI (hds c).length ∧ I o 4 = nI (stk c).length ∧ I o 5 = nI (wer c) ∧ I o 7 = nI (lws c).length ∧ I o 8 = iI (frc c) ∧ I o 12 = nI (sgs c).length ∧ I o 14 = nI (kns c).length) ∧
  (∀ (h : Nat) (y : Hd), (hds c)[h]? = some y → HdX I J (o + 8 + 2 * h) y) ∧ (∀ (i t : Nat), (stk c)[i]? = some t → I (o + 2) i = nI t) ∧
  (∀ (i : Nat) (s : Sg), (sgs c)[i]? = some s → I (o + 4) i = nI s.1 ∧ I (o + 5) i = nI s.2.1 ∧ I (o + 6) i = nI s.2.2) ∧
  ((∀ (k : Nat) (f : Nat → Nat), (kns c)[k]? = some f → ∀ h, h < 6 → I (o + 7) (6 * k + h) = nI (f h)) ∧ ∀ j, 6 * (kns c).length ≤ j → j < 24 → I (o + 7) j = 0) ∧
  ((∀ (i : Nat) (w : Lw), (lws c)[i]? = some w → ∃ a, F (o + 3) i = some a ∧ LwX T I F lo a w) ∧ ∀ i, i < 6 → F (o + 3) i = none ∨ ∃ a, F (o + 3) i = some a ∧ lo ≤ a ∧ T a = some (.inl 2))
/-- what lies where, of the clock at x -/
def XS0 (T : mT) (F : mF) (x : Nat) : Prop := T x = some (.inl 10) ∧ F x 0 = some (x + 1) ∧ SS T F (x + 1) ∧ (F x 1 = some (x + 21) ∧ T (x + 21) = some (.inr (.object "WheelYear$State", 2))) ∧ (F (x + 21) 0 = some (x + 50) ∧ F (x + 21) 1 = some (x + 70)) ∧ SS T F (x + 50) ∧ SS T F (x + 70) ∧
  (F x 2 = some (x + 22) ∧ T (x + 22) = some (.inr (.int, 400))) ∧ (F x 6 = some (x + 23) ∧ T (x + 23) = some (.inr (.int, 4))) ∧
  (F x 8 = some (x + 24) ∧ T (x + 24) = some (.inl 4)) ∧ (F (x + 24) 0 = some (x + 25) ∧ T (x + 25) = some (.inl 9)) ∧ (F (x + 25) 0 = some (x + 26) ∧ T (x + 26) = some (.inr (.int, 401))) ∧ (F (x + 25) 1 = some (x + 27) ∧ T (x + 27) = some (.inr (.int, 401))) ∧ (F (x + 25) 2 = some (x + 28) ∧ T (x + 28) = some (.inr (.int, 401))) ∧ (F (x + 24) 8 = some (x + 29) ∧ T (x + 29) = some (.inr (.int, 400))) ∧ (F (x + 24) 9 = some (x + 30) ∧ T (x + 30) = some (.inr (.int, 13))) ∧
  (F x 9 = some (x + 31) ∧ T (x + 31) = some (.inl 0)) ∧ (F (x + 31) 0 = some (x + 32) ∧ T (x + 32) = some (.inr (.long, 64))) ∧
  (F x 10 = some (x + 33) ∧ T (x + 33) = some (.inl 3)) ∧ (F (x + 33) 0 = some (x + 34) ∧ T (x + 34) = some (.inr (.int, 4))) ∧ (F (x + 33) 1 = some (x + 35) ∧ T (x + 35) = some (.inr (.int, 4))) ∧
  (F x 11 = some (x + 36) ∧ T (x + 36) = some (.inl 6)) ∧ (F (x + 36) 0 = some (x + 37) ∧ T (x + 37) = some (.inr (.int, 4))) ∧ (F (x + 36) 1 = some (x + 38) ∧ T (x + 38) = some (.inr (.int, 4))) ∧ (F (x + 36) 5 = some (x + 39) ∧ T (x + 39) = some (.inr (.int, 10))) ∧ (F (x + 36) 6 = some (x + 40) ∧ T (x + 40) = some (.inr (.int, 10))) ∧
  (F x 12 = some (x + 41) ∧ T (x + 41) = some (.inl 5)) ∧ (F (x + 41) 3 = some (x + 42) ∧ T (x + 42) = some (.inr (.int, 4))) ∧ (F (x + 41) 4 = some (x + 43) ∧ T (x + 43) = some (.inr (.int, 4))) ∧ (F (x + 41) 5 = some (x + 44) ∧ T (x + 44) = some (.inr (.int, 4))) ∧
  (F x 13 = some (x + 46) ∧ T (x + 46) = some (.inl 8)) ∧ (F (x + 46) 1 = some (x + 47) ∧ T (x + 47) = some (.inr (.int, 6))) ∧ (F (x + 46) 2 = some (x + 48) ∧ T (x + 48) = some (.inr (.int, 6))) ∧ (F x 14 = some (x + 49) ∧ T (x + 49) = some (.inr (.int, 2001)))
/-- the links of the setting, and that no law lies there -/
def LK (T : mT) (F : mF) (x : Nat) : Prop := ∃ l k : Nat, F (x + 41) 7 = some l ∧ T l = some (.inr (.int, k)) ∧ k ≤ 160000 ∧ (l = x + 45 ∨ x + 111 ≤ l) ∧ ∀ a, T a = some (.inl 2) → x + 111 ≤ a ∧ ∃ c s lc ls : Nat, F a 0 = some c ∧ F a 1 = some s ∧ T c = some (.inr (.int, lc)) ∧ T s = some (.inr (.int, ls)) ∧ c ≠ l ∧ s ≠ l ∧ x + 111 ≤ c ∧ x + 111 ≤ s
def XS (T : mT) (F : mF) (x : Nat) : Prop := XS0 T F x ∧ LK T F x
section XSP
variable {T : mT} {F : mF} {x : Nat}
theorem XS.o (h : XS T F x) : T x = some (.inl 10) := h.1.1
theorem XS.f0 (h : XS T F x) : F x 0 = some (x + 1) := h.1.2.1
theorem XS.s (h : XS T F x) : SS T F (x + 1) := h.1.2.2.1
theorem XS.s0 (h : XS T F x) : SS T F (x + 50) := h.1.2.2.2.2.2.1
theorem XS.s1 (h : XS T F x) : SS T F (x + 70) := h.1.2.2.2.2.2.2.1
theorem XS.f1 (h : XS T F x) : F x 1 = some (x + 21) := h.1.2.2.2.1.1
theorem XS.t1 (h : XS T F x) : T (x + 21) = some (.inr (.object "WheelYear$State", 2)) := h.1.2.2.2.1.2
theorem XS.i0 (h : XS T F x) : F (x + 21) 0 = some (x + 50) := h.1.2.2.2.2.1.1
theorem XS.i1 (h : XS T F x) : F (x + 21) 1 = some (x + 70) := h.1.2.2.2.2.1.2
theorem XS.f2 (h : XS T F x) : F x 2 = some (x + 22) := h.1.2.2.2.2.2.2.2.1.1
theorem XS.t2 (h : XS T F x) : T (x + 22) = some (.inr (.int, 400)) := h.1.2.2.2.2.2.2.2.1.2
theorem XS.f6 (h : XS T F x) : F x 6 = some (x + 23) := h.1.2.2.2.2.2.2.2.2.1.1
theorem XS.t6 (h : XS T F x) : T (x + 23) = some (.inr (.int, 4)) := h.1.2.2.2.2.2.2.2.2.1.2
theorem XS.f8 (h : XS T F x) : F x 8 = some (x + 24) := h.1.2.2.2.2.2.2.2.2.2.1.1
theorem XS.o8 (h : XS T F x) : T (x + 24) = some (.inl 4) := h.1.2.2.2.2.2.2.2.2.2.1.2
theorem XS.g24_0 (h : XS T F x) : F (x + 24) 0 = some (x + 25) := h.1.2.2.2.2.2.2.2.2.2.2.1.1
theorem XS.o25 (h : XS T F x) : T (x + 25) = some (.inl 9) := h.1.2.2.2.2.2.2.2.2.2.2.1.2
theorem XS.g25_0 (h : XS T F x) : F (x + 25) 0 = some (x + 26) := h.1.2.2.2.2.2.2.2.2.2.2.2.1.1
theorem XS.u26 (h : XS T F x) : T (x + 26) = some (.inr (.int, 401)) := h.1.2.2.2.2.2.2.2.2.2.2.2.1.2
theorem XS.g25_1 (h : XS T F x) : F (x + 25) 1 = some (x + 27) := h.1.2.2.2.2.2.2.2.2.2.2.2.2.1.1
theorem XS.u27 (h : XS T F x) : T (x + 27) = some (.inr (.int, 401)) := h.1.2.2.2.2.2.2.2.2.2.2.2.2.1.2
theorem XS.g25_2 (h : XS T F x) : F (x + 25) 2 = some (x + 28) := h.1.2.2.2.2.2.2.2.2.2.2.2.2.2.1.1
theorem XS.u28 (h : XS T F x) : T (x + 28) = some (.inr (.int, 401)) := h.1.2.2.2.2.2.2.2.2.2.2.2.2.2.1.2
theorem XS.g24_8 (h : XS T F x) : F (x + 24) 8 = some (x + 29) := h.1.2.2.2.2.2.2.2.2.2.2.2.2.2.2.1.1
theorem XS.u29 (h : XS T F x) : T (x + 29) = some (.inr (.int, 400)) := h.1.2.2.2.2.2.2.2.2.2.2.2.2.2.2.1.2
theorem XS.g24_9 (h : XS T F x) : F (x + 24) 9 = some (x + 30) := h.1.2.2.2.2.2.2.2.2.2.2.2.2.2.2.2.1.1
theorem XS.u30 (h : XS T F x) : T (x + 30) = some (.inr (.int, 13)) := h.1.2.2.2.2.2.2.2.2.2.2.2.2.2.2.2.1.2
theorem XS.f9 (h : XS T F x) : F x 9 = some (x + 31) := h.1.2.2.2.2.2.2.2.2.2.2.2.2.2.2.2.2.1.1
theorem XS.o9 (h : XS T F x) : T (x + 31) = some (.inl 0) := h.1.2.2.2.2.2.2.2.2.2.2.2.2.2.2.2.2.1.2
theorem XS.g31_0 (h : XS T F x) : F (x + 31) 0 = some (x + 32) := h.1.2.2.2.2.2.2.2.2.2.2.2.2.2.2.2.2.2.1.1
theorem XS.u32 (h : XS T F x) : T (x + 32) = some (.inr (.long, 64)) := h.1.2.2.2.2.2.2.2.2.2.2.2.2.2.2.2.2.2.1.2
theorem XS.f10 (h : XS T F x) : F x 10 = some (x + 33) := h.1.2.2.2.2.2.2.2.2.2.2.2.2.2.2.2.2.2.2.1.1
theorem XS.o10 (h : XS T F x) : T (x + 33) = some (.inl 3) := h.1.2.2.2.2.2.2.2.2.2.2.2.2.2.2.2.2.2.2.1.2
theorem XS.g33_0 (h : XS T F x) : F (x + 33) 0 = some (x + 34) := h.1.2.2.2.2.2.2.2.2.2.2.2.2.2.2.2.2.2.2.2.1.1
theorem XS.u34 (h : XS T F x) : T (x + 34) = some (.inr (.int, 4)) := h.1.2.2.2.2.2.2.2.2.2.2.2.2.2.2.2.2.2.2.2.1.2
theorem XS.g33_1 (h : XS T F x) : F (x + 33) 1 = some (x + 35) := h.1.2.2.2.2.2.2.2.2.2.2.2.2.2.2.2.2.2.2.2.2.1.1
theorem XS.u35 (h : XS T F x) : T (x + 35) = some (.inr (.int, 4)) := h.1.2.2.2.2.2.2.2.2.2.2.2.2.2.2.2.2.2.2.2.2.1.2
theorem XS.f11 (h : XS T F x) : F x 11 = some (x + 36) := h.1.2.2.2.2.2.2.2.2.2.2.2.2.2.2.2.2.2.2.2.2.2.1.1
theorem XS.o11 (h : XS T F x) : T (x + 36) = some (.inl 6) := h.1.2.2.2.2.2.2.2.2.2.2.2.2.2.2.2.2.2.2.2.2.2.1.2
theorem XS.g36_0 (h : XS T F x) : F (x + 36) 0 = some (x + 37) := h.1.2.2.2.2.2.2.2.2.2.2.2.2.2.2.2.2.2.2.2.2.2.2.1.1
theorem XS.u37 (h : XS T F x) : T (x + 37) = some (.inr (.int, 4)) := h.1.2.2.2.2.2.2.2.2.2.2.2.2.2.2.2.2.2.2.2.2.2.2.1.2
theorem XS.g36_1 (h : XS T F x) : F (x + 36) 1 = some (x + 38) := h.1.2.2.2.2.2.2.2.2.2.2.2.2.2.2.2.2.2.2.2.2.2.2.2.1.1
theorem XS.u38 (h : XS T F x) : T (x + 38) = some (.inr (.int, 4)) := h.1.2.2.2.2.2.2.2.2.2.2.2.2.2.2.2.2.2.2.2.2.2.2.2.1.2
theorem XS.g36_5 (h : XS T F x) : F (x + 36) 5 = some (x + 39) := h.1.2.2.2.2.2.2.2.2.2.2.2.2.2.2.2.2.2.2.2.2.2.2.2.2.1.1
theorem XS.u39 (h : XS T F x) : T (x + 39) = some (.inr (.int, 10)) := h.1.2.2.2.2.2.2.2.2.2.2.2.2.2.2.2.2.2.2.2.2.2.2.2.2.1.2
theorem XS.g36_6 (h : XS T F x) : F (x + 36) 6 = some (x + 40) := h.1.2.2.2.2.2.2.2.2.2.2.2.2.2.2.2.2.2.2.2.2.2.2.2.2.2.1.1
theorem XS.u40 (h : XS T F x) : T (x + 40) = some (.inr (.int, 10)) := h.1.2.2.2.2.2.2.2.2.2.2.2.2.2.2.2.2.2.2.2.2.2.2.2.2.2.1.2
theorem XS.f12 (h : XS T F x) : F x 12 = some (x + 41) := h.1.2.2.2.2.2.2.2.2.2.2.2.2.2.2.2.2.2.2.2.2.2.2.2.2.2.2.1.1
theorem XS.o12 (h : XS T F x) : T (x + 41) = some (.inl 5) := h.1.2.2.2.2.2.2.2.2.2.2.2.2.2.2.2.2.2.2.2.2.2.2.2.2.2.2.1.2
theorem XS.g41_3 (h : XS T F x) : F (x + 41) 3 = some (x + 42) := h.1.2.2.2.2.2.2.2.2.2.2.2.2.2.2.2.2.2.2.2.2.2.2.2.2.2.2.2.1.1
theorem XS.u42 (h : XS T F x) : T (x + 42) = some (.inr (.int, 4)) := h.1.2.2.2.2.2.2.2.2.2.2.2.2.2.2.2.2.2.2.2.2.2.2.2.2.2.2.2.1.2
theorem XS.g41_4 (h : XS T F x) : F (x + 41) 4 = some (x + 43) := h.1.2.2.2.2.2.2.2.2.2.2.2.2.2.2.2.2.2.2.2.2.2.2.2.2.2.2.2.2.1.1
theorem XS.u43 (h : XS T F x) : T (x + 43) = some (.inr (.int, 4)) := h.1.2.2.2.2.2.2.2.2.2.2.2.2.2.2.2.2.2.2.2.2.2.2.2.2.2.2.2.2.1.2
theorem XS.g41_5 (h : XS T F x) : F (x + 41) 5 = some (x + 44) := h.1.2.2.2.2.2.2.2.2.2.2.2.2.2.2.2.2.2.2.2.2.2.2.2.2.2.2.2.2.2.1.1
theorem XS.u44 (h : XS T F x) : T (x + 44) = some (.inr (.int, 4)) := h.1.2.2.2.2.2.2.2.2.2.2.2.2.2.2.2.2.2.2.2.2.2.2.2.2.2.2.2.2.2.1.2
theorem XS.f13 (h : XS T F x) : F x 13 = some (x + 46) := h.1.2.2.2.2.2.2.2.2.2.2.2.2.2.2.2.2.2.2.2.2.2.2.2.2.2.2.2.2.2.2.1.1
theorem XS.o13 (h : XS T F x) : T (x + 46) = some (.inl 8) := h.1.2.2.2.2.2.2.2.2.2.2.2.2.2.2.2.2.2.2.2.2.2.2.2.2.2.2.2.2.2.2.1.2
theorem XS.g46_1 (h : XS T F x) : F (x + 46) 1 = some (x + 47) := h.1.2.2.2.2.2.2.2.2.2.2.2.2.2.2.2.2.2.2.2.2.2.2.2.2.2.2.2.2.2.2.2.1.1
theorem XS.u47 (h : XS T F x) : T (x + 47) = some (.inr (.int, 6)) := h.1.2.2.2.2.2.2.2.2.2.2.2.2.2.2.2.2.2.2.2.2.2.2.2.2.2.2.2.2.2.2.2.1.2
theorem XS.g46_2 (h : XS T F x) : F (x + 46) 2 = some (x + 48) := h.1.2.2.2.2.2.2.2.2.2.2.2.2.2.2.2.2.2.2.2.2.2.2.2.2.2.2.2.2.2.2.2.2.1.1
theorem XS.u48 (h : XS T F x) : T (x + 48) = some (.inr (.int, 6)) := h.1.2.2.2.2.2.2.2.2.2.2.2.2.2.2.2.2.2.2.2.2.2.2.2.2.2.2.2.2.2.2.2.2.1.2
theorem XS.f14 (h : XS T F x) : F x 14 = some (x + 49) := h.1.2.2.2.2.2.2.2.2.2.2.2.2.2.2.2.2.2.2.2.2.2.2.2.2.2.2.2.2.2.2.2.2.2.1
theorem XS.t14 (h : XS T F x) : T (x + 49) = some (.inr (.int, 2001)) := h.1.2.2.2.2.2.2.2.2.2.2.2.2.2.2.2.2.2.2.2.2.2.2.2.2.2.2.2.2.2.2.2.2.2.2
end XSP
/-- the class's memory stands for A -/
def RepX (T : mT) (I : mI) (J : mJ) (F : mF) (x : Nat) (A : Ab) : Prop :=
  (I x 3 = nI (tap A).length ∧ I x 4 = iI (flt A) ∧ I x 5 = nI (bnt A) ∧ I x 7 = iI (sts A)) ∧
  (I (x + 23) 0 = nI (rfs A (-1)) ∧ I (x + 23) 1 = nI (rfs A (-2)) ∧ I (x + 23) 2 = nI (rfs A (-5)) ∧ I (x + 23) 3 = nI (rfs A (-6))) ∧
  StX T I J F (x + 111) (x + 1) (cor A) ∧
  ((I (x + 50) 0 = (if (img A 0).isSome then 1 else 0) ∧ ∀ c, img A 0 = some c → StX T I J F (x + 111) (x + 50) c) ∧ (I (x + 70) 0 = (if (img A 1).isSome then 1 else 0) ∧ ∀ c, img A 1 = some c → StX T I J F (x + 111) (x + 70) c)) ∧
  ((∀ i, i < 6 → F (x + 53) i = none ∨ ∃ a, F (x + 53) i = some a ∧ x + 111 ≤ a ∧ T a = some (.inl 2)) ∧ (∀ i, i < 6 → F (x + 73) i = none ∨ ∃ a, F (x + 73) i = some a ∧ x + 111 ≤ a ∧ T a = some (.inl 2))) ∧
  (∀ (i t : Nat), (tap A)[i]? = some t → I (x + 22) i = nI t) ∧ (I (x + 46) 0 = nI (stm A).length ∧ ∀ (h : Nat) (y : Nat × Nat), (stm A)[h]? = some y → I (x + 47) h = nI y.1 ∧ I (x + 48) h = nI y.2)
/-- cells that a class's call leaves as they are: those of the reference, and the setting's object -/
def FrX {α : Type} (x : Nat) (I I' : Nat → α) : Prop := ∀ b, (x + 90 ≤ b ∨ b = x + 41) → b ≤ x + 110 → I' b = I b
/-- behind a call of the class -/
def QX (x : Nat) (T : mT) (n : Nat) (I : mI) (J : mJ) (F : mF) (r : Option Value) (A' : Ab) : mQ := fun r' T' n' I' J' F' => r' = r ∧ (∀ a sh, T a = some sh → T' a = some sh) ∧ n ≤ n' ∧ FrX x I I' ∧ FrX x J J' ∧ FrX x F F' ∧ XS T' F' x ∧ RepX T' I' J' F' x A'
