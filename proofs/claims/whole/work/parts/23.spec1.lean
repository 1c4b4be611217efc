-- what the simple calls answer and change
abbrev hdsC (c : Core) (x : List Hd) : Core := (x, c.2)
abbrev stkC (c : Core) (x : List Nat) : Core := (c.1, x, c.2.2)
abbrev lwsC (c : Core) (x : List Lw) : Core := (c.1, c.2.1, x, c.2.2.2)
abbrev frcC (c : Core) (x : Int) : Core := (c.1, c.2.1, c.2.2.1, x, c.2.2.2.2)
abbrev sgsC (c : Core) (x : List Sg) : Core := (c.1, c.2.1, c.2.2.1, c.2.2.2.1, x, c.2.2.2.2.2)
abbrev knsC (c : Core) (x : List (Nat → Nat)) : Core := (c.1, c.2.1, c.2.2.1, c.2.2.2.1, c.2.2.2.2.1, x, c.2.2.2.2.2.2)
abbrev werC (c : Core) (x : Nat) : Core := (c.1, c.2.1, c.2.2.1, c.2.2.2.1, c.2.2.2.2.1, c.2.2.2.2.2.1, x)
def hdAt (c : Core) (z : Int) : Option Hd := if 0 ≤ z then (hds c)[z.toNat]? else none
def s_wheel (A : Ab) (z : Int) : Int × Ab := if 6 ≤ z ∧ z ≤ 120 then (if (stk (cor A)).length = 12 then (-5, tellA A (-5)) else ((stk (cor A)).length, wasA (corA A (stkC (cor A) (stk (cor A) ++ [z.toNat]))))) else (-1, tellA A (-1))
def s_teeth (A : Ab) (z : Int) : Int × Ab := (if 0 ≤ z ∧ z < (stk (cor A)).length then ((stk (cor A)).getD z.toNat 0 : Int) else -1, A)
def s_end (A : Ab) (z : Int) : Int × Ab := if 0 ≤ z ∧ z ≤ (tap A).length then (z, tapA A ((tap A).take z.toNat)) else (-1, A)
def s_terms (A : Ab) (w z : Int) : Int × Ab := if w = 0 ∧ 1 ≤ z ∧ z ≤ 1000000 then (wer (cor A), wasA (corA A (werC (cor A) z.toNat))) else (-1, tellA A (-1))
def s_force (A : Ab) (z : Int) : Int × Ab := if z = -1 ∨ (0 ≤ z ∧ z < (lws (cor A)).length) then (frc (cor A), wasA (corA A (frcC (cor A) z))) else (-2, tellA A (-2))
def s_forget (A : Ab) : Int × Ab := ((sgs (cor A)).length, corA A (sgsC (cor A) []))
def s_count (A : Ab) (z : Int) : Int × Ab := (if z = 0 then ((hds (cor A)).length : Int) else if z = 1 then ((stk (cor A)).length : Int) else if z = 2 then ((lws (cor A)).length : Int) else if z = 3 then ((sgs (cor A)).length : Int) else if z = 4 then ((kns (cor A)).length : Int) else if z = 5 then ((tap A).length : Int) else if z = 6 then (rfs A (-1) : Int) else if z = 7 then (rfs A (-2) : Int) else if z = 8 then (rfs A (-5) : Int) else if z = 9 then (rfs A (-6) : Int) else if z = 10 then frc (cor A) else if z = 11 then (wer (cor A) : Int) else -1, A)
section RU
variable {r r' : Nat → Int32} {c : Core}
theorem RowRep.wheel {t : Nat} (hc : CoreOK c) (h : RowRep r c) (hl : (stk c).length < 12) (e1 : r' 1 = nI ((stk c).length + 1)) (e2 : r' (82 + (stk c).length) = nI t) (e : ∀ j, j ≠ 1 → j ≠ 82 + (stk c).length → r' j = r j) : RowRep r' (stkC c (stk c ++ [t])) := by
  obtain ⟨⟨a0, a1, a2, a3, a4, a5, a6⟩, h1, h2, h3, h4, h5⟩ := h
  refine ⟨⟨?_, ?_, ?_, ?_, ?_, ?_, ?_⟩, RH.congr (c := c) hc h1 (fun j _ _ => e j (by omega) (by omega)), fun i x hi => ?_, RG.congr (c := c) hc h3 (fun j _ _ => e j (by omega) (by omega)), RK.congr (c := c) hc h4 (fun j _ _ => e j (by omega) (by omega)), RL.congr (c := c) hc h5 (fun j _ _ => e j (by omega) (by omega))⟩
  · exact (e 0 (by omega) (by omega)).trans a0
  · rw [e1]; show _ = nI (stk c ++ [t]).length; rw [List.length_append]; rfl
  · exact (e 2 (by omega) (by omega)).trans a2
  · exact (e 3 (by omega) (by omega)).trans a3
  · exact (e 4 (by omega) (by omega)).trans a4
  · exact (e 5 (by omega) (by omega)).trans a5
  · exact (e 6 (by omega) (by omega)).trans a6
  · have hi' : (stk c ++ [t])[i]? = some x := hi
    by_cases q : i = (stk c).length
    · subst q
      rw [e2]
      rw [List.getElem?_append_right (Nat.le_refl _)] at hi'
      simp at hi'
      rw [hi']
    · have hl2 : i < (stk c ++ [t]).length := (List.getElem?_eq_some_iff.mp hi').1
      rw [List.length_append, List.length_singleton] at hl2
      rw [List.getElem?_append_left (by omega)] at hi'
      rw [e _ (by omega) (by omega)]
      exact h2 i x hi'
theorem RowRep.sc6 {t : Nat} (hc : CoreOK c) (h : RowRep r c) (e1 : r' 6 = nI t) (e : ∀ j, j ≠ 6 → r' j = r j) : RowRep r' (werC c t) := by
  obtain ⟨⟨a0, a1, a2, a3, a4, a5, a6⟩, h1, h2, h3, h4, h5⟩ := h
  refine ⟨⟨?_, ?_, ?_, ?_, ?_, ?_, ?_⟩, RH.congr (c := c) hc h1 (fun j _ _ => e j (by omega)), RS.congr (c := c) hc h2 (fun j _ _ => e j (by omega)), RG.congr (c := c) hc h3 (fun j _ _ => e j (by omega)), RK.congr (c := c) hc h4 (fun j _ _ => e j (by omega)), RL.congr (c := c) hc h5 (fun j _ _ => e j (by omega))⟩
  all_goals first | exact e1 | (rw [e _ (by omega)]; assumption)
theorem RowRep.sc3 {z : Int} (hc : CoreOK c) (h : RowRep r c) (e1 : r' 3 = iI z) (e : ∀ j, j ≠ 3 → r' j = r j) : RowRep r' (frcC c z) := by
  obtain ⟨⟨a0, a1, a2, a3, a4, a5, a6⟩, h1, h2, h3, h4, h5⟩ := h
  refine ⟨⟨?_, ?_, ?_, ?_, ?_, ?_, ?_⟩, RH.congr (c := c) hc h1 (fun j _ _ => e j (by omega)), RS.congr (c := c) hc h2 (fun j _ _ => e j (by omega)), RG.congr (c := c) hc h3 (fun j _ _ => e j (by omega)), RK.congr (c := c) hc h4 (fun j _ _ => e j (by omega)), RL.congr (c := c) hc h5 (fun j _ _ => e j (by omega))⟩
  all_goals first | exact e1 | (rw [e _ (by omega)]; assumption)
theorem RowRep.sc4 (hc : CoreOK c) (h : RowRep r c) (e1 : r' 4 = 0) (e : ∀ j, j ≠ 4 → r' j = r j) : RowRep r' (sgsC c []) := by
  obtain ⟨⟨a0, a1, a2, a3, a4, a5, a6⟩, h1, h2, h3, h4, h5⟩ := h
  refine ⟨⟨?_, ?_, ?_, ?_, ?_, ?_, ?_⟩, RH.congr (c := c) hc h1 (fun j _ _ => e j (by omega)), RS.congr (c := c) hc h2 (fun j _ _ => e j (by omega)), fun i s hi => by have h0 : ([] : List Sg)[i]? = some s := hi; simp at h0, RK.congr (c := c) hc h4 (fun j _ _ => e j (by omega)), RL.congr (c := c) hc h5 (fun j _ _ => e j (by omega))⟩
  all_goals first | exact e1 | (rw [e _ (by omega)]; assumption)
end RU
theorem V.gen {g : gG} {M : mD} {d : Nat} {Q : mQ} {bc bs pc : Nat} {L : List (Option Value)} {st : List Value} {T : mT} {n : Nat} {I : mI} {J : mJ} {F : mF} {x : Int32} (h : ∀ y : Int32, y = x → V g M d Q bc bs pc L (.int y :: st) T n I J F) : V g M d Q bc bs pc L (.int x :: st) T n I J F := h x rfl
theorem nIx {x : Int32} {k : Nat} (h0 : 0 ≤ x.toInt) (hk : x.toInt.toNat = k) : x = nI k := by
  rw [iI_of x, show x.toInt = (k : Int) by omega, iI_nat]
