-- rates, what a hand shows
def upN (tr : List (Nat × Nat)) : Nat := tr.foldl (fun a q => a * q.1) 1
def loN (tr : List (Nat × Nat)) : Nat := tr.foldl (fun a q => a * q.2) 1
theorem upN_take {tr : List (Nat × Nat)} {j : Nat} {q : Nat × Nat} (h : tr[j]? = some q) : upN (tr.take (j + 1)) = upN (tr.take j) * q.1 := by
  unfold upN
  rw [List.take_add_one, h, Option.toList_some, List.foldl_append]
  rfl
theorem loN_take {tr : List (Nat × Nat)} {j : Nat} {q : Nat × Nat} (h : tr[j]? = some q) : loN (tr.take (j + 1)) = loN (tr.take j) * q.2 := by
  unfold loN
  rw [List.take_add_one, h, Option.toList_some, List.foldl_append]
  rfl
theorem prod_bd {f : Nat × Nat → Nat} : ∀ (tr : List (Nat × Nat)) (a : Nat), 1 ≤ a → (∀ q ∈ tr, 1 ≤ f q ∧ f q ≤ 120) → 1 ≤ tr.foldl (fun a q => a * f q) a ∧ tr.foldl (fun a q => a * f q) a ≤ a * 120 ^ tr.length := by
  intro tr
  induction tr with
  | nil => intro a h _; simp; exact h
  | cons q t ih =>
    intro a h hq
    have h1 := hq q List.mem_cons_self
    have hm : 1 ≤ a * f q := Nat.mul_le_mul h h1.1
    obtain ⟨g1, g2⟩ := ih (a * f q) hm (fun r hr => hq r (List.mem_cons_of_mem _ hr))
    refine ⟨g1, Nat.le_trans g2 ?_⟩
    rw [List.length_cons, Nat.pow_succ, Nat.mul_comm (120 ^ t.length) 120, ← Nat.mul_assoc]
    exact Nat.mul_le_mul_right _ (Nat.mul_le_mul_left a h1.2)
theorem rate_bd {y : Hd} (hY : HdOK y) (j : Nat) : (1 ≤ upN (y.2.2.2.take j) ∧ upN (y.2.2.2.take j) ≤ 207360000) ∧ (1 ≤ loN (y.2.2.2.take j) ∧ loN (y.2.2.2.take j) ≤ 207360000) := by
  have h4 := hY.2.2.2.2.1
  have hq := hY.2.2.2.2.2
  have hl : (y.2.2.2.take j).length ≤ 4 := by rw [List.length_take]; omega
  have hp : 120 ^ (y.2.2.2.take j).length ≤ 120 ^ 4 := Nat.pow_le_pow_right (by omega) hl
  have a := prod_bd (f := fun q => q.1) (y.2.2.2.take j) 1 (Nat.le_refl 1) (fun q h => by have := hq q (List.mem_of_mem_take h); exact ⟨by omega, by omega⟩)
  have b := prod_bd (f := fun q => q.2) (y.2.2.2.take j) 1 (Nat.le_refl 1) (fun q h => by have := hq q (List.mem_of_mem_take h); exact ⟨by omega, by omega⟩)
  rw [Nat.one_mul] at a b
  have e : (120 : Nat) ^ 4 = 207360000 := by decide
  rw [e] at hp
  exact ⟨⟨a.1, Nat.le_trans a.2 hp⟩, ⟨b.1, Nat.le_trans b.2 hp⟩⟩
/-- days gone on day d with a gap -/
def goN (d gap : Nat) : Nat := if gap = 0 then d else d - d / gap
def mkN (go u l mk off : Nat) : Nat := (go * u * mk / l + off) % mk
theorem goN_le (d gap : Nat) : goN d gap ≤ d := by unfold goN; split; exact Nat.le_refl _; exact Nat.sub_le _ _
/-- a hand of the reference: its number h, its row -/
def HdM (I : mI) (m h : Nat) (y : Hd) : Prop := h < 6 ∧ HdRow (I (m + 2)) (10 + 12 * h) y ∧ HdOK y
theorem lI_lN (k : Nat) (h : k < 2 ^ 31) : (nI k).toInt64 = lN k := nI_l h
