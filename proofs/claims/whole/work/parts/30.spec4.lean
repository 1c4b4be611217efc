def rowStep (s : List Nat) (t : Nat) : List Nat := if (6 ≤ t ∧ t ≤ 120) ∧ s.length < 12 then s ++ [t] else s
def rowF (s ts : List Nat) : List Nat := ts.foldl rowStep s
def s_row (A : Ab) : Int × Ab := if (tap A).length = 0 then okNo A (-6) else
  ((((rowF (stk (cor A)) (tap A)).length - (stk (cor A)).length : Nat) : Int), (stkC (cor A) (rowF (stk (cor A)) (tap A)), img A, [], flt A, (tap A).length - ((rowF (stk (cor A)) (tap A)).length - (stk (cor A)).length), rfs A, 0, stm A))
theorem rowF_take {s ts : List Nat} {j t : Nat} (h : ts[j]? = some t) : rowF s (ts.take (j + 1)) = rowStep (rowF s (ts.take j)) t := by
  unfold rowF
  rw [List.take_add_one, h, Option.toList_some, List.foldl_append]
  rfl
theorem rowF_len {s ts : List Nat} : s.length ≤ (rowF s ts).length := by
  induction ts generalizing s with
  | nil => exact Nat.le_refl _
  | cons t ts ih =>
    refine Nat.le_trans ?_ (ih (s := rowStep s t))
    unfold rowStep
    split
    · rw [List.length_append]; omega
    · exact Nat.le_refl _
theorem rowF_grow {s ts : List Nat} : (rowF s ts).length ≤ s.length + ts.length := by
  induction ts generalizing s with
  | nil => exact Nat.le_refl _
  | cons t ts ih =>
    refine Nat.le_trans (ih (s := rowStep s t)) ?_
    unfold rowStep
    rw [List.length_cons]
    split
    · rw [List.length_append]; simp; omega
    · omega
theorem rowF_ok {s ts : List Nat} (h1 : s.length ≤ 12) (h2 : ∀ t ∈ s, 6 ≤ t ∧ t ≤ 120) : (rowF s ts).length ≤ 12 ∧ ∀ t ∈ rowF s ts, 6 ≤ t ∧ t ≤ 120 := by
  induction ts generalizing s with
  | nil => exact ⟨h1, h2⟩
  | cons t ts ih =>
    refine ih (s := rowStep s t) ?_ ?_
    · unfold rowStep
      split
      · rename_i q; rw [List.length_append]; simp; omega
      · exact h1
    · intro u hu
      unfold rowStep at hu
      split at hu
      · rename_i q
        rcases List.mem_append.mp hu with z | z
        · exact h2 u z
        · simp at z; subst z; exact q.1
      · exact h2 u hu
theorem stk_ok {c : Core} (hc : CoreOK c) {s : List Nat} (h1 : s.length ≤ 12) (h2 : ∀ t ∈ s, 6 ≤ t ∧ t ≤ 120) : CoreOK (stkC c s) := ⟨hc.1, hc.2.1, h1, h2, hc.2.2.2.2⟩
