/-- nothing changed, the answer is r -/
def pureQ (T : mT) (n : Nat) (I : mI) (J : mJ) (F : mF) (r : Option Value) : mQ := fun r' T' n' I' J' F' => r' = r ∧ T' = T ∧ n' = n ∧ I' = I ∧ J' = J ∧ F' = F
def c1 : Option Value → Bool
  | none => true
  | some v => v.category == 1
theorem c1_no {o : Option Value} (h : c1 o = true) {w : Value} (hw : o = some w) : ¬ w.category = 2 := by
  subst hw
  intro q
  have h' : (w.category == 1) = true := h
  rw [q] at h'
  cases h'

theorem st1_0 {x : Option Value} {L : List (Option Value)} {v : Value} : st1 (x :: L) (some v :: L) 0 v := by
  intro j w h
  match j, h with
  | 0, h => left; exact ⟨rfl, (Option.some.inj (Option.some.inj h)).symm⟩
  | j + 1, h => right; exact ⟨h, by omega, fun q => by omega⟩

theorem st2_0 {x y : Option Value} {L : List (Option Value)} {v : Value} : st2 (x :: y :: L) (some v :: none :: L) 0 v := by
  intro j w h
  match j, h with
  | 0, h => left; exact ⟨rfl, (Option.some.inj (Option.some.inj h)).symm⟩
  | 1, h => cases h
  | j + 2, h => right; exact ⟨h, by omega, by omega, fun q => by omega⟩

theorem wk_0 {x : Option Value} {L : List (Option Value)} : ∀ (j : Nat) (w : Value), (none :: L)[j]? = some (some w) → (x :: L)[j]? = some (some w) := by
  intro j w h
  match j, h with
  | 0, h => cases h
  | j + 1, h => exact h

theorem st1_1 {a0 x : Option Value} {L : List (Option Value)} {v : Value} (hc : c1 a0 = true) : st1 (a0 :: x :: L) (a0 :: some v :: L) 1 v := by
  intro j w h
  match j, h with
  | 0, h => right; exact ⟨h, by omega, fun q => c1_no hc (Option.some.inj h) q.2⟩
  | 1, h => left; exact ⟨rfl, (Option.some.inj (Option.some.inj h)).symm⟩
  | j + 2, h => right; exact ⟨h, by omega, fun q => by omega⟩

theorem st2_1 {a0 x y : Option Value} {L : List (Option Value)} {v : Value} (hc : c1 a0 = true) : st2 (a0 :: x :: y :: L) (a0 :: some v :: none :: L) 1 v := by
  intro j w h
  match j, h with
  | 0, h => right; exact ⟨h, by omega, by omega, fun q => c1_no hc (Option.some.inj h) q.2⟩
  | 1, h => left; exact ⟨rfl, (Option.some.inj (Option.some.inj h)).symm⟩
  | 2, h => cases h
  | j + 3, h => right; exact ⟨h, by omega, by omega, fun q => by omega⟩

theorem wk_1 {a0 x : Option Value} {L : List (Option Value)} : ∀ (j : Nat) (w : Value), (a0 :: none :: L)[j]? = some (some w) → (a0 :: x :: L)[j]? = some (some w) := by
  intro j w h
  match j, h with
  | 0, h => exact h
  | 1, h => cases h
  | j + 2, h => exact h

theorem st1_2 {a0 a1 x : Option Value} {L : List (Option Value)} {v : Value} (hc : c1 a1 = true) : st1 (a0 :: a1 :: x :: L) (a0 :: a1 :: some v :: L) 2 v := by
  intro j w h
  match j, h with
  | 0, h => right; exact ⟨h, by omega, fun q => by omega⟩
  | 1, h => right; exact ⟨h, by omega, fun q => c1_no hc (Option.some.inj h) q.2⟩
  | 2, h => left; exact ⟨rfl, (Option.some.inj (Option.some.inj h)).symm⟩
  | j + 3, h => right; exact ⟨h, by omega, fun q => by omega⟩

theorem st2_2 {a0 a1 x y : Option Value} {L : List (Option Value)} {v : Value} (hc : c1 a1 = true) : st2 (a0 :: a1 :: x :: y :: L) (a0 :: a1 :: some v :: none :: L) 2 v := by
  intro j w h
  match j, h with
  | 0, h => right; exact ⟨h, by omega, by omega, fun q => by omega⟩
  | 1, h => right; exact ⟨h, by omega, by omega, fun q => c1_no hc (Option.some.inj h) q.2⟩
  | 2, h => left; exact ⟨rfl, (Option.some.inj (Option.some.inj h)).symm⟩
  | 3, h => cases h
  | j + 4, h => right; exact ⟨h, by omega, by omega, fun q => by omega⟩

theorem wk_2 {a0 a1 x : Option Value} {L : List (Option Value)} : ∀ (j : Nat) (w : Value), (a0 :: a1 :: none :: L)[j]? = some (some w) → (a0 :: a1 :: x :: L)[j]? = some (some w) := by
  intro j w h
  match j, h with
  | 0, h => exact h
  | 1, h => exact h
  | 2, h => cases h
  | j + 3, h => exact h

theorem st1_3 {a0 a1 a2 x : Option Value} {L : List (Option Value)} {v : Value} (hc : c1 a2 = true) : st1 (a0 :: a1 :: a2 :: x :: L) (a0 :: a1 :: a2 :: some v :: L) 3 v := by
  intro j w h
  match j, h with
  | 0, h => right; exact ⟨h, by omega, fun q => by omega⟩
  | 1, h => right; exact ⟨h, by omega, fun q => by omega⟩
  | 2, h => right; exact ⟨h, by omega, fun q => c1_no hc (Option.some.inj h) q.2⟩
  | 3, h => left; exact ⟨rfl, (Option.some.inj (Option.some.inj h)).symm⟩
  | j + 4, h => right; exact ⟨h, by omega, fun q => by omega⟩

theorem st2_3 {a0 a1 a2 x y : Option Value} {L : List (Option Value)} {v : Value} (hc : c1 a2 = true) : st2 (a0 :: a1 :: a2 :: x :: y :: L) (a0 :: a1 :: a2 :: some v :: none :: L) 3 v := by
  intro j w h
  match j, h with
  | 0, h => right; exact ⟨h, by omega, by omega, fun q => by omega⟩
  | 1, h => right; exact ⟨h, by omega, by omega, fun q => by omega⟩
  | 2, h => right; exact ⟨h, by omega, by omega, fun q => c1_no hc (Option.some.inj h) q.2⟩
  | 3, h => left; exact ⟨rfl, (Option.some.inj (Option.some.inj h)).symm⟩
  | 4, h => cases h
  | j + 5, h => right; exact ⟨h, by omega, by omega, fun q => by omega⟩

theorem wk_3 {a0 a1 a2 x : Option Value} {L : List (Option Value)} : ∀ (j : Nat) (w : Value), (a0 :: a1 :: a2 :: none :: L)[j]? = some (some w) → (a0 :: a1 :: a2 :: x :: L)[j]? = some (some w) := by
  intro j w h
  match j, h with
  | 0, h => exact h
  | 1, h => exact h
  | 2, h => exact h
  | 3, h => cases h
  | j + 4, h => exact h

theorem st1_4 {a0 a1 a2 a3 x : Option Value} {L : List (Option Value)} {v : Value} (hc : c1 a3 = true) : st1 (a0 :: a1 :: a2 :: a3 :: x :: L) (a0 :: a1 :: a2 :: a3 :: some v :: L) 4 v := by
  intro j w h
  match j, h with
  | 0, h => right; exact ⟨h, by omega, fun q => by omega⟩
  | 1, h => right; exact ⟨h, by omega, fun q => by omega⟩
  | 2, h => right; exact ⟨h, by omega, fun q => by omega⟩
  | 3, h => right; exact ⟨h, by omega, fun q => c1_no hc (Option.some.inj h) q.2⟩
  | 4, h => left; exact ⟨rfl, (Option.some.inj (Option.some.inj h)).symm⟩
  | j + 5, h => right; exact ⟨h, by omega, fun q => by omega⟩

theorem st2_4 {a0 a1 a2 a3 x y : Option Value} {L : List (Option Value)} {v : Value} (hc : c1 a3 = true) : st2 (a0 :: a1 :: a2 :: a3 :: x :: y :: L) (a0 :: a1 :: a2 :: a3 :: some v :: none :: L) 4 v := by
  intro j w h
  match j, h with
  | 0, h => right; exact ⟨h, by omega, by omega, fun q => by omega⟩
  | 1, h => right; exact ⟨h, by omega, by omega, fun q => by omega⟩
  | 2, h => right; exact ⟨h, by omega, by omega, fun q => by omega⟩
  | 3, h => right; exact ⟨h, by omega, by omega, fun q => c1_no hc (Option.some.inj h) q.2⟩
  | 4, h => left; exact ⟨rfl, (Option.some.inj (Option.some.inj h)).symm⟩
  | 5, h => cases h
  | j + 6, h => right; exact ⟨h, by omega, by omega, fun q => by omega⟩

theorem wk_4 {a0 a1 a2 a3 x : Option Value} {L : List (Option Value)} : ∀ (j : Nat) (w : Value), (a0 :: a1 :: a2 :: a3 :: none :: L)[j]? = some (some w) → (a0 :: a1 :: a2 :: a3 :: x :: L)[j]? = some (some w) := by
  intro j w h
  match j, h with
  | 0, h => exact h
  | 1, h => exact h
  | 2, h => exact h
  | 3, h => exact h
  | 4, h => cases h
  | j + 5, h => exact h

theorem st1_5 {a0 a1 a2 a3 a4 x : Option Value} {L : List (Option Value)} {v : Value} (hc : c1 a4 = true) : st1 (a0 :: a1 :: a2 :: a3 :: a4 :: x :: L) (a0 :: a1 :: a2 :: a3 :: a4 :: some v :: L) 5 v := by
  intro j w h
  match j, h with
  | 0, h => right; exact ⟨h, by omega, fun q => by omega⟩
  | 1, h => right; exact ⟨h, by omega, fun q => by omega⟩
  | 2, h => right; exact ⟨h, by omega, fun q => by omega⟩
  | 3, h => right; exact ⟨h, by omega, fun q => by omega⟩
  | 4, h => right; exact ⟨h, by omega, fun q => c1_no hc (Option.some.inj h) q.2⟩
  | 5, h => left; exact ⟨rfl, (Option.some.inj (Option.some.inj h)).symm⟩
  | j + 6, h => right; exact ⟨h, by omega, fun q => by omega⟩

theorem st2_5 {a0 a1 a2 a3 a4 x y : Option Value} {L : List (Option Value)} {v : Value} (hc : c1 a4 = true) : st2 (a0 :: a1 :: a2 :: a3 :: a4 :: x :: y :: L) (a0 :: a1 :: a2 :: a3 :: a4 :: some v :: none :: L) 5 v := by
  intro j w h
  match j, h with
  | 0, h => right; exact ⟨h, by omega, by omega, fun q => by omega⟩
  | 1, h => right; exact ⟨h, by omega, by omega, fun q => by omega⟩
  | 2, h => right; exact ⟨h, by omega, by omega, fun q => by omega⟩
  | 3, h => right; exact ⟨h, by omega, by omega, fun q => by omega⟩
  | 4, h => right; exact ⟨h, by omega, by omega, fun q => c1_no hc (Option.some.inj h) q.2⟩
  | 5, h => left; exact ⟨rfl, (Option.some.inj (Option.some.inj h)).symm⟩
  | 6, h => cases h
  | j + 7, h => right; exact ⟨h, by omega, by omega, fun q => by omega⟩

theorem wk_5 {a0 a1 a2 a3 a4 x : Option Value} {L : List (Option Value)} : ∀ (j : Nat) (w : Value), (a0 :: a1 :: a2 :: a3 :: a4 :: none :: L)[j]? = some (some w) → (a0 :: a1 :: a2 :: a3 :: a4 :: x :: L)[j]? = some (some w) := by
  intro j w h
  match j, h with
  | 0, h => exact h
  | 1, h => exact h
  | 2, h => exact h
  | 3, h => exact h
  | 4, h => exact h
  | 5, h => cases h
  | j + 6, h => exact h

theorem st1_6 {a0 a1 a2 a3 a4 a5 x : Option Value} {L : List (Option Value)} {v : Value} (hc : c1 a5 = true) : st1 (a0 :: a1 :: a2 :: a3 :: a4 :: a5 :: x :: L) (a0 :: a1 :: a2 :: a3 :: a4 :: a5 :: some v :: L) 6 v := by
  intro j w h
  match j, h with
  | 0, h => right; exact ⟨h, by omega, fun q => by omega⟩
  | 1, h => right; exact ⟨h, by omega, fun q => by omega⟩
  | 2, h => right; exact ⟨h, by omega, fun q => by omega⟩
  | 3, h => right; exact ⟨h, by omega, fun q => by omega⟩
  | 4, h => right; exact ⟨h, by omega, fun q => by omega⟩
  | 5, h => right; exact ⟨h, by omega, fun q => c1_no hc (Option.some.inj h) q.2⟩
  | 6, h => left; exact ⟨rfl, (Option.some.inj (Option.some.inj h)).symm⟩
  | j + 7, h => right; exact ⟨h, by omega, fun q => by omega⟩

theorem st2_6 {a0 a1 a2 a3 a4 a5 x y : Option Value} {L : List (Option Value)} {v : Value} (hc : c1 a5 = true) : st2 (a0 :: a1 :: a2 :: a3 :: a4 :: a5 :: x :: y :: L) (a0 :: a1 :: a2 :: a3 :: a4 :: a5 :: some v :: none :: L) 6 v := by
  intro j w h
  match j, h with
  | 0, h => right; exact ⟨h, by omega, by omega, fun q => by omega⟩
  | 1, h => right; exact ⟨h, by omega, by omega, fun q => by omega⟩
  | 2, h => right; exact ⟨h, by omega, by omega, fun q => by omega⟩
  | 3, h => right; exact ⟨h, by omega, by omega, fun q => by omega⟩
  | 4, h => right; exact ⟨h, by omega, by omega, fun q => by omega⟩
  | 5, h => right; exact ⟨h, by omega, by omega, fun q => c1_no hc (Option.some.inj h) q.2⟩
  | 6, h => left; exact ⟨rfl, (Option.some.inj (Option.some.inj h)).symm⟩
  | 7, h => cases h
  | j + 8, h => right; exact ⟨h, by omega, by omega, fun q => by omega⟩

theorem wk_6 {a0 a1 a2 a3 a4 a5 x : Option Value} {L : List (Option Value)} : ∀ (j : Nat) (w : Value), (a0 :: a1 :: a2 :: a3 :: a4 :: a5 :: none :: L)[j]? = some (some w) → (a0 :: a1 :: a2 :: a3 :: a4 :: a5 :: x :: L)[j]? = some (some w) := by
  intro j w h
  match j, h with
  | 0, h => exact h
  | 1, h => exact h
  | 2, h => exact h
  | 3, h => exact h
  | 4, h => exact h
  | 5, h => exact h
  | 6, h => cases h
  | j + 7, h => exact h

theorem st1_7 {a0 a1 a2 a3 a4 a5 a6 x : Option Value} {L : List (Option Value)} {v : Value} (hc : c1 a6 = true) : st1 (a0 :: a1 :: a2 :: a3 :: a4 :: a5 :: a6 :: x :: L) (a0 :: a1 :: a2 :: a3 :: a4 :: a5 :: a6 :: some v :: L) 7 v := by
  intro j w h
  match j, h with
  | 0, h => right; exact ⟨h, by omega, fun q => by omega⟩
  | 1, h => right; exact ⟨h, by omega, fun q => by omega⟩
  | 2, h => right; exact ⟨h, by omega, fun q => by omega⟩
  | 3, h => right; exact ⟨h, by omega, fun q => by omega⟩
  | 4, h => right; exact ⟨h, by omega, fun q => by omega⟩
  | 5, h => right; exact ⟨h, by omega, fun q => by omega⟩
  | 6, h => right; exact ⟨h, by omega, fun q => c1_no hc (Option.some.inj h) q.2⟩
  | 7, h => left; exact ⟨rfl, (Option.some.inj (Option.some.inj h)).symm⟩
  | j + 8, h => right; exact ⟨h, by omega, fun q => by omega⟩

theorem st2_7 {a0 a1 a2 a3 a4 a5 a6 x y : Option Value} {L : List (Option Value)} {v : Value} (hc : c1 a6 = true) : st2 (a0 :: a1 :: a2 :: a3 :: a4 :: a5 :: a6 :: x :: y :: L) (a0 :: a1 :: a2 :: a3 :: a4 :: a5 :: a6 :: some v :: none :: L) 7 v := by
  intro j w h
  match j, h with
  | 0, h => right; exact ⟨h, by omega, by omega, fun q => by omega⟩
  | 1, h => right; exact ⟨h, by omega, by omega, fun q => by omega⟩
  | 2, h => right; exact ⟨h, by omega, by omega, fun q => by omega⟩
  | 3, h => right; exact ⟨h, by omega, by omega, fun q => by omega⟩
  | 4, h => right; exact ⟨h, by omega, by omega, fun q => by omega⟩
  | 5, h => right; exact ⟨h, by omega, by omega, fun q => by omega⟩
  | 6, h => right; exact ⟨h, by omega, by omega, fun q => c1_no hc (Option.some.inj h) q.2⟩
  | 7, h => left; exact ⟨rfl, (Option.some.inj (Option.some.inj h)).symm⟩
  | 8, h => cases h
  | j + 9, h => right; exact ⟨h, by omega, by omega, fun q => by omega⟩

theorem wk_7 {a0 a1 a2 a3 a4 a5 a6 x : Option Value} {L : List (Option Value)} : ∀ (j : Nat) (w : Value), (a0 :: a1 :: a2 :: a3 :: a4 :: a5 :: a6 :: none :: L)[j]? = some (some w) → (a0 :: a1 :: a2 :: a3 :: a4 :: a5 :: a6 :: x :: L)[j]? = some (some w) := by
  intro j w h
  match j, h with
  | 0, h => exact h
  | 1, h => exact h
  | 2, h => exact h
  | 3, h => exact h
  | 4, h => exact h
  | 5, h => exact h
  | 6, h => exact h
  | 7, h => cases h
  | j + 8, h => exact h

theorem st1_8 {a0 a1 a2 a3 a4 a5 a6 a7 x : Option Value} {L : List (Option Value)} {v : Value} (hc : c1 a7 = true) : st1 (a0 :: a1 :: a2 :: a3 :: a4 :: a5 :: a6 :: a7 :: x :: L) (a0 :: a1 :: a2 :: a3 :: a4 :: a5 :: a6 :: a7 :: some v :: L) 8 v := by
  intro j w h
  match j, h with
  | 0, h => right; exact ⟨h, by omega, fun q => by omega⟩
  | 1, h => right; exact ⟨h, by omega, fun q => by omega⟩
  | 2, h => right; exact ⟨h, by omega, fun q => by omega⟩
  | 3, h => right; exact ⟨h, by omega, fun q => by omega⟩
  | 4, h => right; exact ⟨h, by omega, fun q => by omega⟩
  | 5, h => right; exact ⟨h, by omega, fun q => by omega⟩
  | 6, h => right; exact ⟨h, by omega, fun q => by omega⟩
  | 7, h => right; exact ⟨h, by omega, fun q => c1_no hc (Option.some.inj h) q.2⟩
  | 8, h => left; exact ⟨rfl, (Option.some.inj (Option.some.inj h)).symm⟩
  | j + 9, h => right; exact ⟨h, by omega, fun q => by omega⟩

theorem st2_8 {a0 a1 a2 a3 a4 a5 a6 a7 x y : Option Value} {L : List (Option Value)} {v : Value} (hc : c1 a7 = true) : st2 (a0 :: a1 :: a2 :: a3 :: a4 :: a5 :: a6 :: a7 :: x :: y :: L) (a0 :: a1 :: a2 :: a3 :: a4 :: a5 :: a6 :: a7 :: some v :: none :: L) 8 v := by
  intro j w h
  match j, h with
  | 0, h => right; exact ⟨h, by omega, by omega, fun q => by omega⟩
  | 1, h => right; exact ⟨h, by omega, by omega, fun q => by omega⟩
  | 2, h => right; exact ⟨h, by omega, by omega, fun q => by omega⟩
  | 3, h => right; exact ⟨h, by omega, by omega, fun q => by omega⟩
  | 4, h => right; exact ⟨h, by omega, by omega, fun q => by omega⟩
  | 5, h => right; exact ⟨h, by omega, by omega, fun q => by omega⟩
  | 6, h => right; exact ⟨h, by omega, by omega, fun q => by omega⟩
  | 7, h => right; exact ⟨h, by omega, by omega, fun q => c1_no hc (Option.some.inj h) q.2⟩
  | 8, h => left; exact ⟨rfl, (Option.some.inj (Option.some.inj h)).symm⟩
  | 9, h => cases h
  | j + 10, h => right; exact ⟨h, by omega, by omega, fun q => by omega⟩

theorem wk_8 {a0 a1 a2 a3 a4 a5 a6 a7 x : Option Value} {L : List (Option Value)} : ∀ (j : Nat) (w : Value), (a0 :: a1 :: a2 :: a3 :: a4 :: a5 :: a6 :: a7 :: none :: L)[j]? = some (some w) → (a0 :: a1 :: a2 :: a3 :: a4 :: a5 :: a6 :: a7 :: x :: L)[j]? = some (some w) := by
  intro j w h
  match j, h with
  | 0, h => exact h
  | 1, h => exact h
  | 2, h => exact h
  | 3, h => exact h
  | 4, h => exact h
  | 5, h => exact h
  | 6, h => exact h
  | 7, h => exact h
  | 8, h => cases h
  | j + 9, h => exact h

theorem st1_9 {a0 a1 a2 a3 a4 a5 a6 a7 a8 x : Option Value} {L : List (Option Value)} {v : Value} (hc : c1 a8 = true) : st1 (a0 :: a1 :: a2 :: a3 :: a4 :: a5 :: a6 :: a7 :: a8 :: x :: L) (a0 :: a1 :: a2 :: a3 :: a4 :: a5 :: a6 :: a7 :: a8 :: some v :: L) 9 v := by
  intro j w h
  match j, h with
  | 0, h => right; exact ⟨h, by omega, fun q => by omega⟩
  | 1, h => right; exact ⟨h, by omega, fun q => by omega⟩
  | 2, h => right; exact ⟨h, by omega, fun q => by omega⟩
  | 3, h => right; exact ⟨h, by omega, fun q => by omega⟩
  | 4, h => right; exact ⟨h, by omega, fun q => by omega⟩
  | 5, h => right; exact ⟨h, by omega, fun q => by omega⟩
  | 6, h => right; exact ⟨h, by omega, fun q => by omega⟩
  | 7, h => right; exact ⟨h, by omega, fun q => by omega⟩
  | 8, h => right; exact ⟨h, by omega, fun q => c1_no hc (Option.some.inj h) q.2⟩
  | 9, h => left; exact ⟨rfl, (Option.some.inj (Option.some.inj h)).symm⟩
  | j + 10, h => right; exact ⟨h, by omega, fun q => by omega⟩

theorem st2_9 {a0 a1 a2 a3 a4 a5 a6 a7 a8 x y : Option Value} {L : List (Option Value)} {v : Value} (hc : c1 a8 = true) : st2 (a0 :: a1 :: a2 :: a3 :: a4 :: a5 :: a6 :: a7 :: a8 :: x :: y :: L) (a0 :: a1 :: a2 :: a3 :: a4 :: a5 :: a6 :: a7 :: a8 :: some v :: none :: L) 9 v := by
  intro j w h
  match j, h with
  | 0, h => right; exact ⟨h, by omega, by omega, fun q => by omega⟩
  | 1, h => right; exact ⟨h, by omega, by omega, fun q => by omega⟩
  | 2, h => right; exact ⟨h, by omega, by omega, fun q => by omega⟩
  | 3, h => right; exact ⟨h, by omega, by omega, fun q => by omega⟩
  | 4, h => right; exact ⟨h, by omega, by omega, fun q => by omega⟩
  | 5, h => right; exact ⟨h, by omega, by omega, fun q => by omega⟩
  | 6, h => right; exact ⟨h, by omega, by omega, fun q => by omega⟩
  | 7, h => right; exact ⟨h, by omega, by omega, fun q => by omega⟩
  | 8, h => right; exact ⟨h, by omega, by omega, fun q => c1_no hc (Option.some.inj h) q.2⟩
  | 9, h => left; exact ⟨rfl, (Option.some.inj (Option.some.inj h)).symm⟩
  | 10, h => cases h
  | j + 11, h => right; exact ⟨h, by omega, by omega, fun q => by omega⟩

theorem wk_9 {a0 a1 a2 a3 a4 a5 a6 a7 a8 x : Option Value} {L : List (Option Value)} : ∀ (j : Nat) (w : Value), (a0 :: a1 :: a2 :: a3 :: a4 :: a5 :: a6 :: a7 :: a8 :: none :: L)[j]? = some (some w) → (a0 :: a1 :: a2 :: a3 :: a4 :: a5 :: a6 :: a7 :: a8 :: x :: L)[j]? = some (some w) := by
  intro j w h
  match j, h with
  | 0, h => exact h
  | 1, h => exact h
  | 2, h => exact h
  | 3, h => exact h
  | 4, h => exact h
  | 5, h => exact h
  | 6, h => exact h
  | 7, h => exact h
  | 8, h => exact h
  | 9, h => cases h
  | j + 10, h => exact h

theorem st1_10 {a0 a1 a2 a3 a4 a5 a6 a7 a8 a9 x : Option Value} {L : List (Option Value)} {v : Value} (hc : c1 a9 = true) : st1 (a0 :: a1 :: a2 :: a3 :: a4 :: a5 :: a6 :: a7 :: a8 :: a9 :: x :: L) (a0 :: a1 :: a2 :: a3 :: a4 :: a5 :: a6 :: a7 :: a8 :: a9 :: some v :: L) 10 v := by
  intro j w h
  match j, h with
  | 0, h => right; exact ⟨h, by omega, fun q => by omega⟩
  | 1, h => right; exact ⟨h, by omega, fun q => by omega⟩
  | 2, h => right; exact ⟨h, by omega, fun q => by omega⟩
  | 3, h => right; exact ⟨h, by omega, fun q => by omega⟩
  | 4, h => right; exact ⟨h, by omega, fun q => by omega⟩
  | 5, h => right; exact ⟨h, by omega, fun q => by omega⟩
  | 6, h => right; exact ⟨h, by omega, fun q => by omega⟩
  | 7, h => right; exact ⟨h, by omega, fun q => by omega⟩
  | 8, h => right; exact ⟨h, by omega, fun q => by omega⟩
  | 9, h => right; exact ⟨h, by omega, fun q => c1_no hc (Option.some.inj h) q.2⟩
  | 10, h => left; exact ⟨rfl, (Option.some.inj (Option.some.inj h)).symm⟩
  | j + 11, h => right; exact ⟨h, by omega, fun q => by omega⟩

theorem st2_10 {a0 a1 a2 a3 a4 a5 a6 a7 a8 a9 x y : Option Value} {L : List (Option Value)} {v : Value} (hc : c1 a9 = true) : st2 (a0 :: a1 :: a2 :: a3 :: a4 :: a5 :: a6 :: a7 :: a8 :: a9 :: x :: y :: L) (a0 :: a1 :: a2 :: a3 :: a4 :: a5 :: a6 :: a7 :: a8 :: a9 :: some v :: none :: L) 10 v := by
  intro j w h
  match j, h with
  | 0, h => right; exact ⟨h, by omega, by omega, fun q => by omega⟩
  | 1, h => right; exact ⟨h, by omega, by omega, fun q => by omega⟩
  | 2, h => right; exact ⟨h, by omega, by omega, fun q => by omega⟩
  | 3, h => right; exact ⟨h, by omega, by omega, fun q => by omega⟩
  | 4, h => right; exact ⟨h, by omega, by omega, fun q => by omega⟩
  | 5, h => right; exact ⟨h, by omega, by omega, fun q => by omega⟩
  | 6, h => right; exact ⟨h, by omega, by omega, fun q => by omega⟩
  | 7, h => right; exact ⟨h, by omega, by omega, fun q => by omega⟩
  | 8, h => right; exact ⟨h, by omega, by omega, fun q => by omega⟩
  | 9, h => right; exact ⟨h, by omega, by omega, fun q => c1_no hc (Option.some.inj h) q.2⟩
  | 10, h => left; exact ⟨rfl, (Option.some.inj (Option.some.inj h)).symm⟩
  | 11, h => cases h
  | j + 12, h => right; exact ⟨h, by omega, by omega, fun q => by omega⟩

theorem wk_10 {a0 a1 a2 a3 a4 a5 a6 a7 a8 a9 x : Option Value} {L : List (Option Value)} : ∀ (j : Nat) (w : Value), (a0 :: a1 :: a2 :: a3 :: a4 :: a5 :: a6 :: a7 :: a8 :: a9 :: none :: L)[j]? = some (some w) → (a0 :: a1 :: a2 :: a3 :: a4 :: a5 :: a6 :: a7 :: a8 :: a9 :: x :: L)[j]? = some (some w) := by
  intro j w h
  match j, h with
  | 0, h => exact h
  | 1, h => exact h
  | 2, h => exact h
  | 3, h => exact h
  | 4, h => exact h
  | 5, h => exact h
  | 6, h => exact h
  | 7, h => exact h
  | 8, h => exact h
  | 9, h => exact h
  | 10, h => cases h
  | j + 11, h => exact h

theorem st1_11 {a0 a1 a2 a3 a4 a5 a6 a7 a8 a9 a10 x : Option Value} {L : List (Option Value)} {v : Value} (hc : c1 a10 = true) : st1 (a0 :: a1 :: a2 :: a3 :: a4 :: a5 :: a6 :: a7 :: a8 :: a9 :: a10 :: x :: L) (a0 :: a1 :: a2 :: a3 :: a4 :: a5 :: a6 :: a7 :: a8 :: a9 :: a10 :: some v :: L) 11 v := by
  intro j w h
  match j, h with
  | 0, h => right; exact ⟨h, by omega, fun q => by omega⟩
  | 1, h => right; exact ⟨h, by omega, fun q => by omega⟩
  | 2, h => right; exact ⟨h, by omega, fun q => by omega⟩
  | 3, h => right; exact ⟨h, by omega, fun q => by omega⟩
  | 4, h => right; exact ⟨h, by omega, fun q => by omega⟩
  | 5, h => right; exact ⟨h, by omega, fun q => by omega⟩
  | 6, h => right; exact ⟨h, by omega, fun q => by omega⟩
  | 7, h => right; exact ⟨h, by omega, fun q => by omega⟩
  | 8, h => right; exact ⟨h, by omega, fun q => by omega⟩
  | 9, h => right; exact ⟨h, by omega, fun q => by omega⟩
  | 10, h => right; exact ⟨h, by omega, fun q => c1_no hc (Option.some.inj h) q.2⟩
  | 11, h => left; exact ⟨rfl, (Option.some.inj (Option.some.inj h)).symm⟩
  | j + 12, h => right; exact ⟨h, by omega, fun q => by omega⟩

theorem st2_11 {a0 a1 a2 a3 a4 a5 a6 a7 a8 a9 a10 x y : Option Value} {L : List (Option Value)} {v : Value} (hc : c1 a10 = true) : st2 (a0 :: a1 :: a2 :: a3 :: a4 :: a5 :: a6 :: a7 :: a8 :: a9 :: a10 :: x :: y :: L) (a0 :: a1 :: a2 :: a3 :: a4 :: a5 :: a6 :: a7 :: a8 :: a9 :: a10 :: some v :: none :: L) 11 v := by
  intro j w h
  match j, h with
  | 0, h => right; exact ⟨h, by omega, by omega, fun q => by omega⟩
  | 1, h => right; exact ⟨h, by omega, by omega, fun q => by omega⟩
  | 2, h => right; exact ⟨h, by omega, by omega, fun q => by omega⟩
  | 3, h => right; exact ⟨h, by omega, by omega, fun q => by omega⟩
  | 4, h => right; exact ⟨h, by omega, by omega, fun q => by omega⟩
  | 5, h => right; exact ⟨h, by omega, by omega, fun q => by omega⟩
  | 6, h => right; exact ⟨h, by omega, by omega, fun q => by omega⟩
  | 7, h => right; exact ⟨h, by omega, by omega, fun q => by omega⟩
  | 8, h => right; exact ⟨h, by omega, by omega, fun q => by omega⟩
  | 9, h => right; exact ⟨h, by omega, by omega, fun q => by omega⟩
  | 10, h => right; exact ⟨h, by omega, by omega, fun q => c1_no hc (Option.some.inj h) q.2⟩
  | 11, h => left; exact ⟨rfl, (Option.some.inj (Option.some.inj h)).symm⟩
  | 12, h => cases h
  | j + 13, h => right; exact ⟨h, by omega, by omega, fun q => by omega⟩

theorem wk_11 {a0 a1 a2 a3 a4 a5 a6 a7 a8 a9 a10 x : Option Value} {L : List (Option Value)} : ∀ (j : Nat) (w : Value), (a0 :: a1 :: a2 :: a3 :: a4 :: a5 :: a6 :: a7 :: a8 :: a9 :: a10 :: none :: L)[j]? = some (some w) → (a0 :: a1 :: a2 :: a3 :: a4 :: a5 :: a6 :: a7 :: a8 :: a9 :: a10 :: x :: L)[j]? = some (some w) := by
  intro j w h
  match j, h with
  | 0, h => exact h
  | 1, h => exact h
  | 2, h => exact h
  | 3, h => exact h
  | 4, h => exact h
  | 5, h => exact h
  | 6, h => exact h
  | 7, h => exact h
  | 8, h => exact h
  | 9, h => exact h
  | 10, h => exact h
  | 11, h => cases h
  | j + 12, h => exact h

theorem st1_12 {a0 a1 a2 a3 a4 a5 a6 a7 a8 a9 a10 a11 x : Option Value} {L : List (Option Value)} {v : Value} (hc : c1 a11 = true) : st1 (a0 :: a1 :: a2 :: a3 :: a4 :: a5 :: a6 :: a7 :: a8 :: a9 :: a10 :: a11 :: x :: L) (a0 :: a1 :: a2 :: a3 :: a4 :: a5 :: a6 :: a7 :: a8 :: a9 :: a10 :: a11 :: some v :: L) 12 v := by
  intro j w h
  match j, h with
  | 0, h => right; exact ⟨h, by omega, fun q => by omega⟩
  | 1, h => right; exact ⟨h, by omega, fun q => by omega⟩
  | 2, h => right; exact ⟨h, by omega, fun q => by omega⟩
  | 3, h => right; exact ⟨h, by omega, fun q => by omega⟩
  | 4, h => right; exact ⟨h, by omega, fun q => by omega⟩
  | 5, h => right; exact ⟨h, by omega, fun q => by omega⟩
  | 6, h => right; exact ⟨h, by omega, fun q => by omega⟩
  | 7, h => right; exact ⟨h, by omega, fun q => by omega⟩
  | 8, h => right; exact ⟨h, by omega, fun q => by omega⟩
  | 9, h => right; exact ⟨h, by omega, fun q => by omega⟩
  | 10, h => right; exact ⟨h, by omega, fun q => by omega⟩
  | 11, h => right; exact ⟨h, by omega, fun q => c1_no hc (Option.some.inj h) q.2⟩
  | 12, h => left; exact ⟨rfl, (Option.some.inj (Option.some.inj h)).symm⟩
  | j + 13, h => right; exact ⟨h, by omega, fun q => by omega⟩

theorem st2_12 {a0 a1 a2 a3 a4 a5 a6 a7 a8 a9 a10 a11 x y : Option Value} {L : List (Option Value)} {v : Value} (hc : c1 a11 = true) : st2 (a0 :: a1 :: a2 :: a3 :: a4 :: a5 :: a6 :: a7 :: a8 :: a9 :: a10 :: a11 :: x :: y :: L) (a0 :: a1 :: a2 :: a3 :: a4 :: a5 :: a6 :: a7 :: a8 :: a9 :: a10 :: a11 :: some v :: none :: L) 12 v := by
  intro j w h
  match j, h with
  | 0, h => right; exact ⟨h, by omega, by omega, fun q => by omega⟩
  | 1, h => right; exact ⟨h, by omega, by omega, fun q => by omega⟩
  | 2, h => right; exact ⟨h, by omega, by omega, fun q => by omega⟩
  | 3, h => right; exact ⟨h, by omega, by omega, fun q => by omega⟩
  | 4, h => right; exact ⟨h, by omega, by omega, fun q => by omega⟩
  | 5, h => right; exact ⟨h, by omega, by omega, fun q => by omega⟩
  | 6, h => right; exact ⟨h, by omega, by omega, fun q => by omega⟩
  | 7, h => right; exact ⟨h, by omega, by omega, fun q => by omega⟩
  | 8, h => right; exact ⟨h, by omega, by omega, fun q => by omega⟩
  | 9, h => right; exact ⟨h, by omega, by omega, fun q => by omega⟩
  | 10, h => right; exact ⟨h, by omega, by omega, fun q => by omega⟩
  | 11, h => right; exact ⟨h, by omega, by omega, fun q => c1_no hc (Option.some.inj h) q.2⟩
  | 12, h => left; exact ⟨rfl, (Option.some.inj (Option.some.inj h)).symm⟩
  | 13, h => cases h
  | j + 14, h => right; exact ⟨h, by omega, by omega, fun q => by omega⟩

theorem wk_12 {a0 a1 a2 a3 a4 a5 a6 a7 a8 a9 a10 a11 x : Option Value} {L : List (Option Value)} : ∀ (j : Nat) (w : Value), (a0 :: a1 :: a2 :: a3 :: a4 :: a5 :: a6 :: a7 :: a8 :: a9 :: a10 :: a11 :: none :: L)[j]? = some (some w) → (a0 :: a1 :: a2 :: a3 :: a4 :: a5 :: a6 :: a7 :: a8 :: a9 :: a10 :: a11 :: x :: L)[j]? = some (some w) := by
  intro j w h
  match j, h with
  | 0, h => exact h
  | 1, h => exact h
  | 2, h => exact h
  | 3, h => exact h
  | 4, h => exact h
  | 5, h => exact h
  | 6, h => exact h
  | 7, h => exact h
  | 8, h => exact h
  | 9, h => exact h
  | 10, h => exact h
  | 11, h => exact h
  | 12, h => cases h
  | j + 13, h => exact h

theorem st1_13 {a0 a1 a2 a3 a4 a5 a6 a7 a8 a9 a10 a11 a12 x : Option Value} {L : List (Option Value)} {v : Value} (hc : c1 a12 = true) : st1 (a0 :: a1 :: a2 :: a3 :: a4 :: a5 :: a6 :: a7 :: a8 :: a9 :: a10 :: a11 :: a12 :: x :: L) (a0 :: a1 :: a2 :: a3 :: a4 :: a5 :: a6 :: a7 :: a8 :: a9 :: a10 :: a11 :: a12 :: some v :: L) 13 v := by
  intro j w h
  match j, h with
  | 0, h => right; exact ⟨h, by omega, fun q => by omega⟩
  | 1, h => right; exact ⟨h, by omega, fun q => by omega⟩
  | 2, h => right; exact ⟨h, by omega, fun q => by omega⟩
  | 3, h => right; exact ⟨h, by omega, fun q => by omega⟩
  | 4, h => right; exact ⟨h, by omega, fun q => by omega⟩
  | 5, h => right; exact ⟨h, by omega, fun q => by omega⟩
  | 6, h => right; exact ⟨h, by omega, fun q => by omega⟩
  | 7, h => right; exact ⟨h, by omega, fun q => by omega⟩
  | 8, h => right; exact ⟨h, by omega, fun q => by omega⟩
  | 9, h => right; exact ⟨h, by omega, fun q => by omega⟩
  | 10, h => right; exact ⟨h, by omega, fun q => by omega⟩
  | 11, h => right; exact ⟨h, by omega, fun q => by omega⟩
  | 12, h => right; exact ⟨h, by omega, fun q => c1_no hc (Option.some.inj h) q.2⟩
  | 13, h => left; exact ⟨rfl, (Option.some.inj (Option.some.inj h)).symm⟩
  | j + 14, h => right; exact ⟨h, by omega, fun q => by omega⟩

theorem st2_13 {a0 a1 a2 a3 a4 a5 a6 a7 a8 a9 a10 a11 a12 x y : Option Value} {L : List (Option Value)} {v : Value} (hc : c1 a12 = true) : st2 (a0 :: a1 :: a2 :: a3 :: a4 :: a5 :: a6 :: a7 :: a8 :: a9 :: a10 :: a11 :: a12 :: x :: y :: L) (a0 :: a1 :: a2 :: a3 :: a4 :: a5 :: a6 :: a7 :: a8 :: a9 :: a10 :: a11 :: a12 :: some v :: none :: L) 13 v := by
  intro j w h
  match j, h with
  | 0, h => right; exact ⟨h, by omega, by omega, fun q => by omega⟩
  | 1, h => right; exact ⟨h, by omega, by omega, fun q => by omega⟩
  | 2, h => right; exact ⟨h, by omega, by omega, fun q => by omega⟩
  | 3, h => right; exact ⟨h, by omega, by omega, fun q => by omega⟩
  | 4, h => right; exact ⟨h, by omega, by omega, fun q => by omega⟩
  | 5, h => right; exact ⟨h, by omega, by omega, fun q => by omega⟩
  | 6, h => right; exact ⟨h, by omega, by omega, fun q => by omega⟩
  | 7, h => right; exact ⟨h, by omega, by omega, fun q => by omega⟩
  | 8, h => right; exact ⟨h, by omega, by omega, fun q => by omega⟩
  | 9, h => right; exact ⟨h, by omega, by omega, fun q => by omega⟩
  | 10, h => right; exact ⟨h, by omega, by omega, fun q => by omega⟩
  | 11, h => right; exact ⟨h, by omega, by omega, fun q => by omega⟩
  | 12, h => right; exact ⟨h, by omega, by omega, fun q => c1_no hc (Option.some.inj h) q.2⟩
  | 13, h => left; exact ⟨rfl, (Option.some.inj (Option.some.inj h)).symm⟩
  | 14, h => cases h
  | j + 15, h => right; exact ⟨h, by omega, by omega, fun q => by omega⟩

theorem wk_13 {a0 a1 a2 a3 a4 a5 a6 a7 a8 a9 a10 a11 a12 x : Option Value} {L : List (Option Value)} : ∀ (j : Nat) (w : Value), (a0 :: a1 :: a2 :: a3 :: a4 :: a5 :: a6 :: a7 :: a8 :: a9 :: a10 :: a11 :: a12 :: none :: L)[j]? = some (some w) → (a0 :: a1 :: a2 :: a3 :: a4 :: a5 :: a6 :: a7 :: a8 :: a9 :: a10 :: a11 :: a12 :: x :: L)[j]? = some (some w) := by
  intro j w h
  match j, h with
  | 0, h => exact h
  | 1, h => exact h
  | 2, h => exact h
  | 3, h => exact h
  | 4, h => exact h
  | 5, h => exact h
  | 6, h => exact h
  | 7, h => exact h
  | 8, h => exact h
  | 9, h => exact h
  | 10, h => exact h
  | 11, h => exact h
  | 12, h => exact h
  | 13, h => cases h
  | j + 14, h => exact h

theorem st1_14 {a0 a1 a2 a3 a4 a5 a6 a7 a8 a9 a10 a11 a12 a13 x : Option Value} {L : List (Option Value)} {v : Value} (hc : c1 a13 = true) : st1 (a0 :: a1 :: a2 :: a3 :: a4 :: a5 :: a6 :: a7 :: a8 :: a9 :: a10 :: a11 :: a12 :: a13 :: x :: L) (a0 :: a1 :: a2 :: a3 :: a4 :: a5 :: a6 :: a7 :: a8 :: a9 :: a10 :: a11 :: a12 :: a13 :: some v :: L) 14 v := by
  intro j w h
  match j, h with
  | 0, h => right; exact ⟨h, by omega, fun q => by omega⟩
  | 1, h => right; exact ⟨h, by omega, fun q => by omega⟩
  | 2, h => right; exact ⟨h, by omega, fun q => by omega⟩
  | 3, h => right; exact ⟨h, by omega, fun q => by omega⟩
  | 4, h => right; exact ⟨h, by omega, fun q => by omega⟩
  | 5, h => right; exact ⟨h, by omega, fun q => by omega⟩
  | 6, h => right; exact ⟨h, by omega, fun q => by omega⟩
  | 7, h => right; exact ⟨h, by omega, fun q => by omega⟩
  | 8, h => right; exact ⟨h, by omega, fun q => by omega⟩
  | 9, h => right; exact ⟨h, by omega, fun q => by omega⟩
  | 10, h => right; exact ⟨h, by omega, fun q => by omega⟩
  | 11, h => right; exact ⟨h, by omega, fun q => by omega⟩
  | 12, h => right; exact ⟨h, by omega, fun q => by omega⟩
  | 13, h => right; exact ⟨h, by omega, fun q => c1_no hc (Option.some.inj h) q.2⟩
  | 14, h => left; exact ⟨rfl, (Option.some.inj (Option.some.inj h)).symm⟩
  | j + 15, h => right; exact ⟨h, by omega, fun q => by omega⟩

theorem st2_14 {a0 a1 a2 a3 a4 a5 a6 a7 a8 a9 a10 a11 a12 a13 x y : Option Value} {L : List (Option Value)} {v : Value} (hc : c1 a13 = true) : st2 (a0 :: a1 :: a2 :: a3 :: a4 :: a5 :: a6 :: a7 :: a8 :: a9 :: a10 :: a11 :: a12 :: a13 :: x :: y :: L) (a0 :: a1 :: a2 :: a3 :: a4 :: a5 :: a6 :: a7 :: a8 :: a9 :: a10 :: a11 :: a12 :: a13 :: some v :: none :: L) 14 v := by
  intro j w h
  match j, h with
  | 0, h => right; exact ⟨h, by omega, by omega, fun q => by omega⟩
  | 1, h => right; exact ⟨h, by omega, by omega, fun q => by omega⟩
  | 2, h => right; exact ⟨h, by omega, by omega, fun q => by omega⟩
  | 3, h => right; exact ⟨h, by omega, by omega, fun q => by omega⟩
  | 4, h => right; exact ⟨h, by omega, by omega, fun q => by omega⟩
  | 5, h => right; exact ⟨h, by omega, by omega, fun q => by omega⟩
  | 6, h => right; exact ⟨h, by omega, by omega, fun q => by omega⟩
  | 7, h => right; exact ⟨h, by omega, by omega, fun q => by omega⟩
  | 8, h => right; exact ⟨h, by omega, by omega, fun q => by omega⟩
  | 9, h => right; exact ⟨h, by omega, by omega, fun q => by omega⟩
  | 10, h => right; exact ⟨h, by omega, by omega, fun q => by omega⟩
  | 11, h => right; exact ⟨h, by omega, by omega, fun q => by omega⟩
  | 12, h => right; exact ⟨h, by omega, by omega, fun q => by omega⟩
  | 13, h => right; exact ⟨h, by omega, by omega, fun q => c1_no hc (Option.some.inj h) q.2⟩
  | 14, h => left; exact ⟨rfl, (Option.some.inj (Option.some.inj h)).symm⟩
  | 15, h => cases h
  | j + 16, h => right; exact ⟨h, by omega, by omega, fun q => by omega⟩

theorem wk_14 {a0 a1 a2 a3 a4 a5 a6 a7 a8 a9 a10 a11 a12 a13 x : Option Value} {L : List (Option Value)} : ∀ (j : Nat) (w : Value), (a0 :: a1 :: a2 :: a3 :: a4 :: a5 :: a6 :: a7 :: a8 :: a9 :: a10 :: a11 :: a12 :: a13 :: none :: L)[j]? = some (some w) → (a0 :: a1 :: a2 :: a3 :: a4 :: a5 :: a6 :: a7 :: a8 :: a9 :: a10 :: a11 :: a12 :: a13 :: x :: L)[j]? = some (some w) := by
  intro j w h
  match j, h with
  | 0, h => exact h
  | 1, h => exact h
  | 2, h => exact h
  | 3, h => exact h
  | 4, h => exact h
  | 5, h => exact h
  | 6, h => exact h
  | 7, h => exact h
  | 8, h => exact h
  | 9, h => exact h
  | 10, h => exact h
  | 11, h => exact h
  | 12, h => exact h
  | 13, h => exact h
  | 14, h => cases h
  | j + 15, h => exact h

theorem st1_15 {a0 a1 a2 a3 a4 a5 a6 a7 a8 a9 a10 a11 a12 a13 a14 x : Option Value} {L : List (Option Value)} {v : Value} (hc : c1 a14 = true) : st1 (a0 :: a1 :: a2 :: a3 :: a4 :: a5 :: a6 :: a7 :: a8 :: a9 :: a10 :: a11 :: a12 :: a13 :: a14 :: x :: L) (a0 :: a1 :: a2 :: a3 :: a4 :: a5 :: a6 :: a7 :: a8 :: a9 :: a10 :: a11 :: a12 :: a13 :: a14 :: some v :: L) 15 v := by
  intro j w h
  match j, h with
  | 0, h => right; exact ⟨h, by omega, fun q => by omega⟩
  | 1, h => right; exact ⟨h, by omega, fun q => by omega⟩
  | 2, h => right; exact ⟨h, by omega, fun q => by omega⟩
  | 3, h => right; exact ⟨h, by omega, fun q => by omega⟩
  | 4, h => right; exact ⟨h, by omega, fun q => by omega⟩
  | 5, h => right; exact ⟨h, by omega, fun q => by omega⟩
  | 6, h => right; exact ⟨h, by omega, fun q => by omega⟩
  | 7, h => right; exact ⟨h, by omega, fun q => by omega⟩
  | 8, h => right; exact ⟨h, by omega, fun q => by omega⟩
  | 9, h => right; exact ⟨h, by omega, fun q => by omega⟩
  | 10, h => right; exact ⟨h, by omega, fun q => by omega⟩
  | 11, h => right; exact ⟨h, by omega, fun q => by omega⟩
  | 12, h => right; exact ⟨h, by omega, fun q => by omega⟩
  | 13, h => right; exact ⟨h, by omega, fun q => by omega⟩
  | 14, h => right; exact ⟨h, by omega, fun q => c1_no hc (Option.some.inj h) q.2⟩
  | 15, h => left; exact ⟨rfl, (Option.some.inj (Option.some.inj h)).symm⟩
  | j + 16, h => right; exact ⟨h, by omega, fun q => by omega⟩

theorem st2_15 {a0 a1 a2 a3 a4 a5 a6 a7 a8 a9 a10 a11 a12 a13 a14 x y : Option Value} {L : List (Option Value)} {v : Value} (hc : c1 a14 = true) : st2 (a0 :: a1 :: a2 :: a3 :: a4 :: a5 :: a6 :: a7 :: a8 :: a9 :: a10 :: a11 :: a12 :: a13 :: a14 :: x :: y :: L) (a0 :: a1 :: a2 :: a3 :: a4 :: a5 :: a6 :: a7 :: a8 :: a9 :: a10 :: a11 :: a12 :: a13 :: a14 :: some v :: none :: L) 15 v := by
  intro j w h
  match j, h with
  | 0, h => right; exact ⟨h, by omega, by omega, fun q => by omega⟩
  | 1, h => right; exact ⟨h, by omega, by omega, fun q => by omega⟩
  | 2, h => right; exact ⟨h, by omega, by omega, fun q => by omega⟩
  | 3, h => right; exact ⟨h, by omega, by omega, fun q => by omega⟩
  | 4, h => right; exact ⟨h, by omega, by omega, fun q => by omega⟩
  | 5, h => right; exact ⟨h, by omega, by omega, fun q => by omega⟩
  | 6, h => right; exact ⟨h, by omega, by omega, fun q => by omega⟩
  | 7, h => right; exact ⟨h, by omega, by omega, fun q => by omega⟩
  | 8, h => right; exact ⟨h, by omega, by omega, fun q => by omega⟩
  | 9, h => right; exact ⟨h, by omega, by omega, fun q => by omega⟩
  | 10, h => right; exact ⟨h, by omega, by omega, fun q => by omega⟩
  | 11, h => right; exact ⟨h, by omega, by omega, fun q => by omega⟩
  | 12, h => right; exact ⟨h, by omega, by omega, fun q => by omega⟩
  | 13, h => right; exact ⟨h, by omega, by omega, fun q => by omega⟩
  | 14, h => right; exact ⟨h, by omega, by omega, fun q => c1_no hc (Option.some.inj h) q.2⟩
  | 15, h => left; exact ⟨rfl, (Option.some.inj (Option.some.inj h)).symm⟩
  | 16, h => cases h
  | j + 17, h => right; exact ⟨h, by omega, by omega, fun q => by omega⟩

theorem wk_15 {a0 a1 a2 a3 a4 a5 a6 a7 a8 a9 a10 a11 a12 a13 a14 x : Option Value} {L : List (Option Value)} : ∀ (j : Nat) (w : Value), (a0 :: a1 :: a2 :: a3 :: a4 :: a5 :: a6 :: a7 :: a8 :: a9 :: a10 :: a11 :: a12 :: a13 :: a14 :: none :: L)[j]? = some (some w) → (a0 :: a1 :: a2 :: a3 :: a4 :: a5 :: a6 :: a7 :: a8 :: a9 :: a10 :: a11 :: a12 :: a13 :: a14 :: x :: L)[j]? = some (some w) := by
  intro j w h
  match j, h with
  | 0, h => exact h
  | 1, h => exact h
  | 2, h => exact h
  | 3, h => exact h
  | 4, h => exact h
  | 5, h => exact h
  | 6, h => exact h
  | 7, h => exact h
  | 8, h => exact h
  | 9, h => exact h
  | 10, h => exact h
  | 11, h => exact h
  | 12, h => exact h
  | 13, h => exact h
  | 14, h => exact h
  | 15, h => cases h
  | j + 16, h => exact h

section VW
variable {g : gG} {M : mD} {d : Nat} {Q : mQ} {bc bs pc : Nat} {L : List (Option Value)} {st : List Value} {T : mT} {n : Nat} {I : mI} {J : mJ} {F : mF}
theorem V.topi {x y : Int32} (h : x = y) (kk : V g M d Q bc bs pc L (.int y :: st) T n I J F) : V g M d Q bc bs pc L (.int x :: st) T n I J F := h ▸ kk
theorem V.topl {x y : Int64} (h : x = y) (kk : V g M d Q bc bs pc L (.long y :: st) T n I J F) : V g M d Q bc bs pc L (.long x :: st) T n I J F := h ▸ kk
theorem V.eqM {I' : mI} {J' : mJ} {F' : mF} (h1 : I = I') (h2 : J = J') (h3 : F = F') (kk : V g M d Q bc bs pc L st T n I' J' F') : V g M d Q bc bs pc L st T n I J F := by subst h1 h2 h3; exact kk
theorem V.imp {Q' : mQ} (h : ∀ r T n I J F, Q' r T n I J F → Q r T n I J F) (kk : V g M d Q' bc bs pc L st T n I J F) : V g M d Q bc bs pc L st T n I J F := by
  intro p e R s m args below meth c H locs cells slots ls X Tt hT XX
  obtain ⟨t, a1, o, b1, b2, ⟨⟨r, T1, n1, I1, J1, F1, q1, q2, q3, q4⟩, b4⟩, b5⟩ := kk p e R s m args below meth c H locs cells slots ls X Tt hT XX
  exact ⟨t, a1, o, b1, b2, ⟨⟨r, T1, n1, I1, J1, F1, q1, h _ _ _ _ _ _ q2, q3, q4⟩, b4⟩, b5⟩
theorem V.iald' {a N k : Nat} {i : Int32} (hd : decode M.2.1 pc = .ok (.iaload, 1)) (hT : T a = some (.inr (.int, N))) (hi : i = nI k) (hk : k < N) (hN : N < 2 ^ 31) (kk : V g M d Q bc bs (pc + 1) L (.int (I a k) :: st) T n I J F) : V g M d Q bc bs pc L (.int i :: .ref a :: st) T n I J F := by
  subst hi
  exact V.iald hd hT (vp_in_nI hk hN) (by rw [nI_clamp (by omega)]; exact kk)
theorem V.zald' {a N k : Nat} {i : Int32} (hd : decode M.2.1 pc = .ok (.baload, 1)) (hT : T a = some (.inr (.boolean, N))) (hi : i = nI k) (hk : k < N) (hN : N < 2 ^ 31) (kk : V g M d Q bc bs (pc + 1) L (.int (I a k) :: st) T n I J F) : V g M d Q bc bs pc L (.int i :: .ref a :: st) T n I J F := by
  subst hi
  exact V.zald hd hT (vp_in_nI hk hN) (by rw [nI_clamp (by omega)]; exact kk)
theorem V.lald' {a N k : Nat} {i : Int32} (hd : decode M.2.1 pc = .ok (.laload, 1)) (hT : T a = some (.inr (.long, N))) (hi : i = nI k) (hk : k < N) (hN : N < 2 ^ 31) (kk : V g M d Q bc bs (pc + 1) L (.long (J a k) :: st) T n I J F) : V g M d Q bc bs pc L (.int i :: .ref a :: st) T n I J F := by
  subst hi
  exact V.lald hd hT (vp_in_nI hk hN) (by rw [nI_clamp (by omega)]; exact kk)
theorem V.aald' {a N k : Nat} {C : String} {i : Int32} (hd : decode M.2.1 pc = .ok (.aaload, 1)) (hT : T a = some (.inr (.object C, N))) (hty : FieldType.object C ∈ mTys) (hi : i = nI k) (hk : k < N) (hN : N < 2 ^ 31) (kk : V g M d Q bc bs (pc + 1) L (va_rf (F a k) :: st) T n I J F) : V g M d Q bc bs pc L (.int i :: .ref a :: st) T n I J F := by
  subst hi
  exact V.aald hd hT hty (vp_in_nI hk hN) (by rw [nI_clamp (by omega)]; exact kk)
theorem V.iast' {a N k : Nat} {i x : Int32} (hd : decode M.2.1 pc = .ok (.iastore, 1)) (hT : T a = some (.inr (.int, N))) (hi : i = nI k) (hk : k < N) (hN : N < 2 ^ 31) (kk : V g M d Q bc bs (pc + 1) L st T n (up2 I a k x) J F) : V g M d Q bc bs pc L (.int x :: .int i :: .ref a :: st) T n I J F := by
  subst hi
  exact V.iast hd hT (vp_in_nI hk hN) (by rw [nI_clamp (by omega)]; exact kk)
theorem V.zast' {a N k : Nat} {i x : Int32} (hd : decode M.2.1 pc = .ok (.bastore, 1)) (hT : T a = some (.inr (.boolean, N))) (hi : i = nI k) (hk : k < N) (hN : N < 2 ^ 31) (hx : x = 0 ∨ x = 1) (kk : V g M d Q bc bs (pc + 1) L st T n (up2 I a k x) J F) : V g M d Q bc bs pc L (.int x :: .int i :: .ref a :: st) T n I J F := by
  subst hi
  exact V.zast hd hT (vp_in_nI hk hN) hx (by rw [nI_clamp (by omega)]; exact kk)
theorem V.last' {a N k : Nat} {i : Int32} {x : Int64} (hd : decode M.2.1 pc = .ok (.lastore, 1)) (hT : T a = some (.inr (.long, N))) (hi : i = nI k) (hk : k < N) (hN : N < 2 ^ 31) (kk : V g M d Q bc bs (pc + 1) L st T n I (up2 J a k x) F) : V g M d Q bc bs pc L (.long x :: .int i :: .ref a :: st) T n I J F := by
  subst hi
  exact V.last hd hT (vp_in_nI hk hN) (by rw [nI_clamp (by omega)]; exact kk)
theorem V.getR' {idx ci k a : Nat} (hd : decode M.2.1 pc = .ok (.getfield idx, 3)) (hf : gF M.1.cls idx ci k) (ht : tR (tyOf ci k) = true) (hT : T a = some (.inl ci)) (kk : V g M d Q bc bs (pc + 3) L (va_rf (F a k) :: st) T n I J F) : V g M d Q bc bs pc L (.ref a :: st) T n I J F := V.getf hd hf hT (by rw [mval_R ht]; exact kk)
theorem V.iinc1 {i : Nat} {x : Int32} {L' : List (Option Value)} (hd : decode M.2.1 pc = .ok (.iinc i 1, 3)) (hi : i < M.2.2.1) (hL : L[i]? = some (some (.int x))) (hs : st1 L L' i (.int (x + 1))) (kk : V g M d Q bc bs (pc + 3) L' st T n I J F) : V g M d Q bc bs pc L st T n I J F := V.iinc hd hi hL rfl hs kk

theorem V.invS0 {M' : mD} {idx d' : Nat} {as stk : List Value} {Q1 : mQ} (hd : decode M.2.1 pc = .ok (.invokestatic idx, 3)) (hl : cL M.1.cls idx M') (hb : cB M' as.length) (hs : Cond.static M'.1 ∈ lw_tbl) (hC : Ct g M' d' as 0 0 T n I J F Q1) (hdd : d' + 1 ≤ d) (hst : stk = as.reverse ++ st) (h8 : (st.map fun v => v.category).sum ≤ 8)
    (kk : ∀ (r : Option Value) (T' : mT) (n' : Nat) (I' : mI) (J' : mJ) (F' : mF), Q1 r T' n' I' J' F' → V g M d Q bc bs (pc + 3) L (r.toList ++ st) T' n' I' J' F') : V g M d Q bc bs pc L stk T n I J F := V.invS (mc := 0) (ms := 0) hd hl hb hs hC hdd hst h8 kk
theorem V.invV0 {M' : mD} {idx d' b ci : Nat} {r : vw_C} {as stk : List Value} {Q1 : mQ} (hd : decode M.2.1 pc = .ok (.invokevirtual idx, 3)) (hl : cL M.1.cls idx M') (hb : cB M' as.length) (hin : Cond.instanceMethod M'.1 ∈ lw_tbl) (hr : vwCl[ci]? = some r) (hsl : Cond.selects r.1 M'.1 M'.1 ∈ lw_tbl) (hT : T b = some (.inl ci)) (hC : Ct g M' d' (.ref b :: as) 0 0 T n I J F Q1) (hdd : d' + 1 ≤ d) (hst : stk = as.reverse ++ .ref b :: st) (h8 : (st.map fun v => v.category).sum ≤ 8)
    (kk : ∀ (r : Option Value) (T' : mT) (n' : Nat) (I' : mI) (J' : mJ) (F' : mF), Q1 r T' n' I' J' F' → V g M d Q bc bs (pc + 3) L (r.toList ++ st) T' n' I' J' F') : V g M d Q bc bs pc L stk T n I J F := V.invV (mc := 0) (ms := 0) hd hl hb hin hr hsl hT hC hdd hst h8 kk
theorem V.pS {M' : mD} {idx d' : Nat} {as stk : List Value} {v : Value} (hd : decode M.2.1 pc = .ok (.invokestatic idx, 3)) (hl : cL M.1.cls idx M') (hb : cB M' as.length) (hs : Cond.static M'.1 ∈ lw_tbl) (hC : Ct g M' d' as 0 0 T n I J F (pureQ T n I J F (some v))) (hdd : d' + 1 ≤ d) (hst : stk = as.reverse ++ st) (h8 : (st.map fun v => v.category).sum ≤ 8)
    (kk : V g M d Q bc bs (pc + 3) L (v :: st) T n I J F) : V g M d Q bc bs pc L stk T n I J F := V.invS0 hd hl hb hs hC hdd hst h8 (by rintro r T' n' I' J' F' ⟨rfl, rfl, rfl, rfl, rfl, rfl⟩; exact kk)
theorem V.pV {M' : mD} {idx d' b ci : Nat} {r : vw_C} {as stk : List Value} {v : Value} (hd : decode M.2.1 pc = .ok (.invokevirtual idx, 3)) (hl : cL M.1.cls idx M') (hb : cB M' as.length) (hin : Cond.instanceMethod M'.1 ∈ lw_tbl) (hr : vwCl[ci]? = some r) (hsl : Cond.selects r.1 M'.1 M'.1 ∈ lw_tbl) (hT : T b = some (.inl ci)) (hC : Ct g M' d' (.ref b :: as) 0 0 T n I J F (pureQ T n I J F (some v))) (hdd : d' + 1 ≤ d) (hst : stk = as.reverse ++ .ref b :: st) (h8 : (st.map fun v => v.category).sum ≤ 8)
    (kk : V g M d Q bc bs (pc + 3) L (v :: st) T n I J F) : V g M d Q bc bs pc L stk T n I J F := V.invV0 hd hl hb hin hr hsl hT hC hdd hst h8 (by rintro r T' n' I' J' F' ⟨rfl, rfl, rfl, rfl, rfl, rfl⟩; exact kk)
theorem Ct.imp {as : List Value} {mc ms : Nat} {Q' : mQ} (h : Ct g M d as mc ms T n I J F Q') (hq : ∀ r T n I J F, Q' r T n I J F → Q r T n I J F) : Ct g M d as mc ms T n I J F Q := by
  intro G p e ha hc hk s m args below hf hfit hP hT
  obtain ⟨k, o, h1, h2, h3, ⟨⟨r, T1, n1, I1, J1, F1, q1, q2, q3, q4⟩, b4⟩, b5⟩ := h G p e ha hc hk s m args below hf hfit hP hT
  exact ⟨k, o, h1, h2, h3, ⟨⟨r, T1, n1, I1, J1, F1, q1, hq _ _ _ _ _ _ q2, q3, q4⟩, b4⟩, b5⟩
end VW
theorem nI_lit (k : Nat) : nI k = Int32.ofNat k := rfl
