-- brackets on the pile
def brk : Pl → Nat
  | [] => 0
  | q :: P => brk P + (if 30 ≤ q.1 then 1 else 0)
def sqp : Pl → Prop
  | [] => True
  | q :: P => ((q.1 ≠ 31 ∧ ¬ (19 ≤ q.1 ∧ q.1 ≤ 23)) → inr P ≠ 31) ∧ sqp P
theorem bnd_pos {op : Nat} (h : op < 30) : 1 ≤ bnd op := by
  unfold bnd
  rw [if_neg (by omega)]
  repeat' split
  all_goals decide
theorem brk_stl {L : Nat} (hL : 1 ≤ L) : ∀ (P : Pl) (C : Cd), brk (stl L P C).1 = brk P
  | [], C => rfl
  | q :: P, C => by
    rw [stl_c2]
    by_cases z : L ≤ bnd q.1
    · rw [if_pos z, brk_stl hL P, brk, if_neg, Nat.add_zero]
      intro y
      rw [bnd_30 y] at z
      omega
    · rw [if_neg z]
theorem sqp_stl {L : Nat} : ∀ (P : Pl) (C : Cd), sqp P → sqp (stl L P C).1
  | [], C, _ => trivial
  | q :: P, C, h => by
    rw [stl_c2]
    by_cases z : L ≤ bnd q.1
    · rw [if_pos z]; exact sqp_stl P _ h.2
    · rw [if_neg z]; exact h
theorem top_sq : ∀ (P : Pl) (C : Cd), sqp P → inr P = 31 → (∀ q ∈ P, q.1 < 32) → ∃ x P', (stl 5 P C).1 = (31, x) :: P'
  | [], C, _, h, _ => by cases h
  | q :: P, C, hs, h, h32 => by
    have hq := h32 q List.mem_cons_self
    by_cases z : 30 ≤ q.1
    · rw [inr, if_pos z] at h
      obtain ⟨q1, q2⟩ := q
      have h2 : q1 = 31 := h
      subst h2
      exact ⟨q2, P, by rw [stl_c2, if_neg (show ¬ 5 ≤ bnd 31 by decide)]⟩
    · rw [inr, if_neg z] at h
      by_cases y : 19 ≤ q.1 ∧ q.1 ≤ 23
      · have hb : 5 ≤ bnd q.1 := by
          unfold bnd
          rw [if_neg (by omega), if_neg (by omega), if_neg (by omega), if_neg (by omega), if_neg (by omega)]
          split <;> decide
        rw [stl_c2, if_pos hb]
        exact top_sq P _ hs.2 h (fun w hw => h32 w (List.mem_cons_of_mem _ hw))
      · exact absurd h (hs.1 ⟨by omega, y⟩)
theorem top_br : ∀ (P : Pl) (C : Cd), inr P ≠ 0 → ∃ q P', (stl 1 P C).1 = q :: P' ∧ 30 ≤ q.1
  | [], C, h => absurd rfl h
  | q :: P, C, h => by
    by_cases z : 30 ≤ q.1
    · exact ⟨q, P, by rw [stl_c2, if_neg (by rw [bnd_30 z]; decide)], z⟩
    · rw [inr, if_neg z] at h
      rw [stl_c2, if_pos (bnd_pos (by omega))]
      exact top_br P _ h
theorem brk_pos : ∀ (P : Pl), inr P ≠ 0 → 1 ≤ brk P
  | [], h => absurd rfl h
  | q :: P, h => by
    rw [brk]
    by_cases z : 30 ≤ q.1
    · rw [if_pos z]; omega
    · rw [inr, if_neg z] at h
      have := brk_pos P h
      omega
/-- how brackets stand on the pile while nothing is bad -/
def SqI (t : Nat) (r : RS) : Prop := r_b r = false → sqp (r_P r) ∧ (inr (r_P r) = 31 → t ≠ 0 ∧ t ≠ 2) ∧ r_o r = brk (r_P r)
section SQ
variable {kd : Nat → Int} {nm : Nat → Nat} {r : RS}
theorem SqI.bad {t : Nat} : SqI t (badR r) := fun h => by cases h
theorem inr_push {q : Nat × Nat} {P : Pl} (h : q.1 < 30) : inr (q :: P) = inr P := by rw [inr, if_neg (by omega)]
theorem brk_push {q : Nat × Nat} {P : Pl} (h : q.1 < 30) : brk (q :: P) = brk P := by rw [brk, if_neg (by omega), Nat.add_zero]
theorem fOpen_sq {t op : Nat} (h1 : sqp (r_P r)) (h3 : r_o r = brk (r_P r)) (ho : (op = 31 ∧ t = 1) ∨ (op = 30 ∧ inr (r_P r) ≠ 31)) : SqI t (fOpen kd op r) := by
  unfold fOpen
  split
  · intro _
    refine ⟨⟨fun z => ?_, h1⟩, fun z => ?_, ?_⟩
    · rcases ho with ⟨rfl, -⟩ | ⟨rfl, h⟩
      · exact absurd rfl z.1
      · exact h
    · rcases ho with ⟨rfl, rfl⟩ | ⟨rfl, h⟩
      · decide
      · have z2 : inr ((30, 0) :: r_P r) = 31 := z
        rw [inr, if_pos (by decide)] at z2
        cases z2
    · show r_o r + 1 = brk ((op, 0) :: r_P r)
      rw [brk, if_pos (by show 30 ≤ op; omega)]
      omega
  · exact SqI.bad
theorem fPart_sq (h1 : sqp (r_P r)) (h3 : r_o r = brk (r_P r)) : SqI (fPart kd nm r).1 (fPart kd nm r).2 := by
  unfold fPart
  split
  · exact fOpen_sq (kd := kd) h1 h3 (Or.inl ⟨rfl, rfl⟩)
  · split
    · exact fun _ => ⟨h1, fun _ => (by decide : (3 : Nat) ≠ 0 ∧ (3 : Nat) ≠ 2), h3⟩
    · exact SqI.bad
theorem fPlain_sq (h1 : sqp (r_P r)) (h2 : inr (r_P r) ≠ 31) (h3 : r_o r = brk (r_P r)) : SqI (fPlain kd nm r).1 (fPlain kd nm r).2 := by
  unfold fPlain
  split
  · intro _
    refine ⟨⟨fun _ => h2, h1⟩, fun z => ?_, ?_⟩
    · have z2 : inr ((27, 0) :: r_P r) = 31 := z
      rw [inr_push (by decide)] at z2
      exact absurd z2 h2
    · show r_o r = brk ((27, 0) :: r_P r)
      rw [brk_push (by decide)]
      exact h3
  · split
    · exact fOpen_sq (kd := kd) h1 h3 (Or.inr ⟨rfl, h2⟩)
    · exact fPart_sq h1 h3
theorem fSum_sq {test : Bool} (h32 : ∀ q ∈ r_P r, q.1 < 32) (h1 : sqp (r_P r)) (h3 : r_o r = brk (r_P r)) : SqI (fSum kd test r).1 (fSum kd test r).2 := by
  unfold fSum
  split
  · rename_i w
    obtain ⟨w1, w2, -⟩ := aop_bd w
    have hL : 1 ≤ bnd (aop (kd (r_i r))) := bnd_pos (by omega)
    intro _
    refine ⟨⟨fun z => absurd ⟨w1, w2⟩ z.2, sqp_stl _ _ h1⟩, fun _ => (by decide : (1 : Nat) ≠ 0 ∧ (1 : Nat) ≠ 2), ?_⟩
    show r_o r = brk ((aop (kd (r_i r)), 0) :: (stl (bnd (aop (kd (r_i r)))) (r_P r) (r_C r)).1)
    rw [brk_push (by show aop (kd (r_i r)) < 30; omega), brk_stl hL]
    exact h3
  · split
    · rename_i w
      split
      · obtain ⟨x, P', e⟩ := top_sq (r_P r) (r_C r) h1 w h32
        have e2 := sqp_stl (L := 5) (r_P r) (r_C r) h1
        have e3 := brk_stl (L := 5) (by decide) (r_P r) (r_C r)
        rw [e] at e2 e3
        intro _
        refine ⟨by show sqp (stl 5 (r_P r) (r_C r)).1.tail; rw [e]; exact e2.2, fun _ => (by decide : (3 : Nat) ≠ 0 ∧ (3 : Nat) ≠ 2), ?_⟩
        show r_o r - 1 = brk (stl 5 (r_P r) (r_C r)).1.tail
        rw [e]
        rw [brk, if_pos (show 30 ≤ 31 by decide)] at e3
        show r_o r - 1 = brk P'
        omega
      · exact SqI.bad
    · rename_i w
      split
      · exact fun _ => ⟨h1, fun z => absurd z w, h3⟩
      · split
        · exact fun _ => ⟨h1, fun z => absurd z w, h3⟩
        · split
          · rename_i y
            obtain ⟨y1, y2, -⟩ := cmpOp_bd y
            have e4 := inr_stl (L := 5) (by decide) (r_P r) (r_C r)
            intro _
            refine ⟨⟨fun _ => by rw [e4]; exact w, sqp_stl _ _ h1⟩, fun _ => (by decide : (1 : Nat) ≠ 0 ∧ (1 : Nat) ≠ 2), ?_⟩
            show r_o r = brk ((cmpOp (kd (r_i r)), 0) :: (stl 5 (r_P r) (r_C r)).1)
            rw [brk_push (by show cmpOp (kd (r_i r)) < 30; omega), brk_stl (by decide)]
            exact h3
          · exact SqI.bad
theorem fTest_sq (h1 : sqp (r_P r)) (h2 : inr (r_P r) ≠ 31) (h3 : r_o r = brk (r_P r)) : SqI (fTest kd r).1 (fTest kd r).2 := by
  unfold fTest
  have key : ∀ (L op : Nat) (D : Cd), 1 ≤ L → (op = 28 ∨ op = 29) → SqI 0 (r_i r + 1, false, D, r_v r, (op, (stl L (r_P r) (r_C r)).2.1) :: (stl L (r_P r) (r_C r)).1, r_o r) := by
    intro L op D hL ho _
    have e4 := inr_stl hL (r_P r) (r_C r)
    refine ⟨⟨fun _ => by rw [e4]; exact h2, sqp_stl _ _ h1⟩, fun z => ?_, ?_⟩
    · have z2 : inr ((op, (stl L (r_P r) (r_C r)).2.1) :: (stl L (r_P r) (r_C r)).1) = 31 := z
      rw [inr_push (by show op < 30; omega), e4] at z2
      exact absurd z2 h2
    · show r_o r = brk ((op, (stl L (r_P r) (r_C r)).2.1) :: (stl L (r_P r) (r_C r)).1)
      rw [brk_push (by show op < 30; omega), brk_stl hL]
      exact h3
  split
  · exact key 2 28 _ (by decide) (Or.inl rfl)
  · split
    · exact key 1 29 _ (by decide) (Or.inr rfl)
    · split
      · exact fun _ => ⟨h1, fun z => absurd z h2, h3⟩
      · rename_i w
        split
        · obtain ⟨q, P', e, hq⟩ := top_br (r_P r) (r_C r) w
          have e2 := sqp_stl (L := 1) (r_P r) (r_C r) h1
          have e3 := brk_stl (L := 1) (by decide) (r_P r) (r_C r)
          have e4 := inr_stl (L := 1) (by decide) (r_P r) (r_C r)
          rw [e] at e2 e3 e4
          rw [brk, if_pos hq] at e3
          rw [inr, if_pos hq] at e4
          intro _
          refine ⟨by show sqp (stl 1 (r_P r) (r_C r)).1.tail; rw [e]; exact e2.2, fun z => ?_, ?_⟩
          · have z2 : inr (stl 1 (r_P r) (r_C r)).1.tail = 31 := z
            rw [e] at z2
            exact absurd z2 (e2.1 ⟨by rw [e4]; exact h2, by omega⟩)
          · show r_o r - 1 = brk (stl 1 (r_P r) (r_C r)).1.tail
            rw [e]
            show r_o r - 1 = brk P'
            omega
        · exact SqI.bad
theorem stA_sq {test : Bool} {t : Nat} (hb : r_b r = false) (h32 : ∀ q ∈ r_P r, q.1 < 32) (ht : t ≤ 3) (h : SqI t r) : SqI (stA kd nm test t r).1 (stA kd nm test t r).2 := by
  obtain ⟨h1, h2, h3⟩ := h hb
  unfold stA
  split
  · rename_i z
    exact fPlain_sq h1 (fun y => (h2 y).1 z) h3
  · split
    · exact fPart_sq h1 h3
    · split
      · exact fSum_sq h32 h1 h3
      · exact fTest_sq h1 (fun y => (h2 y).2 (by omega)) h3
theorem stA_t {test : Bool} {t : Nat} : (stA kd nm test t r).1 ≤ 4 := by
  unfold stA fPlain fPart fSum fTest
  repeat' split
  all_goals first | exact (by decide : (0 : Nat) ≤ 4) | exact (by decide : (1 : Nat) ≤ 4) | exact (by decide : (2 : Nat) ≤ 4) | exact (by decide : (3 : Nat) ≤ 4) | exact (by decide : (4 : Nat) ≤ 4)
end SQ
