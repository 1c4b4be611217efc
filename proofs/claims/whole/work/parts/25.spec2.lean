def okNo (A : Ab) (v : Int) : Int × Ab := (v, tellA A v)
def okYes (A : Ab) (v : Int) (c : Core) : Int × Ab := (v, wasA (corA A c))
def setHd (c : Core) (z : Int) (x : Hd) : Core := hdsC c ((hds c).set z.toNat x)
def s_put (A : Ab) (h w v : Int) : Int × Ab := if 0 ≤ v ∧ (w = 0 ∨ (w = 1 ∧ v ≤ 9999)) then (match hdAt (cor A) h with
  | none => okNo A (-2)
  | some x => if w = 0 then (if v < x.1 then okYes A x.2.1 (setHd (cor A) h (x.1, v.toNat, x.2.2)) else okNo A (-1)) else okYes A x.2.2.1 (setHd (cor A) h (x.1, x.2.1, v.toNat, x.2.2.2))) else okNo A (-1)
def s_pair (A : Ab) (h a b : Int) : Int × Ab := if (6 ≤ a ∧ a ≤ 120) ∧ (6 ≤ b ∧ b ≤ 120) then (match hdAt (cor A) h with
  | none => okNo A (-2)
  | some x => if x.2.2.2.length = 4 then okNo A (-5) else okYes A (x.2.2.2.length + 1 : Int) (setHd (cor A) h (x.1, x.2.1, x.2.2.1, x.2.2.2 ++ [(a.toNat, b.toNat)]))) else okNo A (-1)
def s_strip (A : Ab) (h : Int) : Int × Ab := match hdAt (cor A) h with
  | none => okNo A (-2)
  | some x => okYes A (x.2.2.2.length : Int) (setHd (cor A) h (x.1, x.2.1, x.2.2.1, []))
def s_of (A : Ab) (h w : Int) : Int × Ab := (match hdAt (cor A) h with
  | none => -1
  | some x => if w = 0 then (x.1 : Int) else if w = 1 then (x.2.1 : Int) else if w = 2 then (x.2.2.1 : Int) else if w = 3 then (x.2.2.2.length : Int) else if 4 ≤ w ∧ w < 4 + 2 * x.2.2.2.length then
      (if (w - 4) % 2 = 0 then ((x.2.2.2.getD ((w - 4) / 2).toNat (0, 0)).1 : Int) else ((x.2.2.2.getD ((w - 4) / 2).toNat (0, 0)).2 : Int)) else -1, A)
def s_sight (A : Ab) (h d k : Int) : Int × Ab := if (0 ≤ d ∧ d ≤ 1000000) ∧ 0 ≤ k then (match hdAt (cor A) h with
  | none => okNo A (-2)
  | some x => if k < x.1 then (if (sgs (cor A)).length = 10 then okNo A (-5) else okYes A ((sgs (cor A)).length + 1 : Int) (sgsC (cor A) (sgs (cor A) ++ [(h.toNat, d.toNat, k.toNat)]))) else okNo A (-1)) else okNo A (-1)
def s_push (A : Ab) (k h v : Int) : Int × Ab := if 0 ≤ v ∧ v ≤ 9 then (if (0 ≤ k ∧ k < (kns (cor A)).length) ∧ (0 ≤ h ∧ h < (hds (cor A)).length) then okYes A (((kns (cor A)).getD k.toNat (fun _ => 0)) h.toNat : Int) (knsC (cor A) ((kns (cor A)).set k.toNat (fun i => if i = h.toNat then v.toNat else ((kns (cor A)).getD k.toNat (fun _ => 0)) i))) else okNo A (-2)) else okNo A (-1)
theorem hdAt_yes {c : Core} {z : Int} (q : 0 ≤ z ∧ z < (hds c).length) : ∃ x, (hds c)[z.toNat]? = some x ∧ hdAt c z = some x := by
  have hl : z.toNat < (hds c).length := by omega
  exact ⟨_, List.getElem?_eq_getElem hl, by rw [hdAt, if_pos q.1, List.getElem?_eq_getElem hl]⟩
theorem hdAt_no {c : Core} {z : Int} (q : ¬ (0 ≤ z ∧ z < (hds c).length)) : hdAt c z = none := by
  rw [hdAt]
  split
  · exact List.getElem?_eq_none (by omega)
  · rfl
section RU2
variable {r r' : Nat → Int32} {c : Core}
theorem RowRep.hand {h : Nat} {x' : Hd} (hc : CoreOK c) (hr : RowRep r c) (hh : h < 6) (hx' : HdRow r' (10 + 12 * h) x') (e : ∀ j, (j < 10 + 12 * h ∨ 10 + 12 * h + 12 ≤ j) → r' j = r j) : RowRep r' (hdsC c ((hds c).set h x')) := by
  obtain ⟨⟨a0, a1, a2, a3, a4, a5, a6⟩, h1, h2, h3, h4, h5⟩ := hr
  refine ⟨⟨?_, ?_, ?_, ?_, ?_, ?_, ?_⟩, fun k x hk => ?_, RS.congr (c := c) hc h2 (fun j _ _ => e j (by omega)), RG.congr (c := c) hc h3 (fun j _ _ => e j (by omega)), RK.congr (c := c) hc h4 (fun j _ _ => e j (by omega)), RL.congr (c := c) hc h5 (fun j _ _ => e j (by omega))⟩
  · rw [e _ (by omega)]; show _ = nI ((hds c).set h x').length; rw [List.length_set]; exact a0
  · exact (e 1 (by omega)).trans a1
  · exact (e 2 (by omega)).trans a2
  · exact (e 3 (by omega)).trans a3
  · exact (e 4 (by omega)).trans a4
  · exact (e 5 (by omega)).trans a5
  · exact (e 6 (by omega)).trans a6
  · have hk' : ((hds c).set h x')[k]? = some x := hk
    by_cases q : h = k
    · subst q
      rw [List.getElem?_set_self'] at hk'
      cases hq : (hds c)[h]? with
      | none => rw [hq] at hk'; cases hk'
      | some y => rw [hq] at hk'; cases hk'; exact hx'
    · rw [List.getElem?_set_ne q] at hk'
      refine (h1 k x hk').congr (hc.2.1 x (List.mem_of_getElem? hk')).2.2.2.2.1 (fun j g1 g2 => e j (by omega))
theorem RowRep.sight {s : Sg} (hc : CoreOK c) (hr : RowRep r c) (hl : (sgs c).length < 10) (e1 : r' 4 = nI ((sgs c).length + 1)) (e2 : r' (94 + 3 * (sgs c).length) = nI s.1 ∧ r' (94 + 3 * (sgs c).length + 1) = nI s.2.1 ∧ r' (94 + 3 * (sgs c).length + 2) = nI s.2.2) (e : ∀ j, j ≠ 4 → (j < 94 + 3 * (sgs c).length ∨ 94 + 3 * (sgs c).length + 3 ≤ j) → r' j = r j) : RowRep r' (sgsC c (sgs c ++ [s])) := by
  obtain ⟨⟨a0, a1, a2, a3, a4, a5, a6⟩, h1, h2, h3, h4, h5⟩ := hr
  refine ⟨⟨?_, ?_, ?_, ?_, ?_, ?_, ?_⟩, RH.congr (c := c) hc h1 (fun j _ _ => e j (by omega) (by omega)), RS.congr (c := c) hc h2 (fun j _ _ => e j (by omega) (by omega)), fun i x hi => ?_, RK.congr (c := c) hc h4 (fun j _ _ => e j (by omega) (by omega)), RL.congr (c := c) hc h5 (fun j _ _ => e j (by omega) (by omega))⟩
  · exact (e 0 (by omega) (by omega)).trans a0
  · exact (e 1 (by omega) (by omega)).trans a1
  · exact (e 2 (by omega) (by omega)).trans a2
  · exact (e 3 (by omega) (by omega)).trans a3
  · rw [e1]; show _ = nI (sgs c ++ [s]).length; rw [List.length_append]; rfl
  · exact (e 5 (by omega) (by omega)).trans a5
  · exact (e 6 (by omega) (by omega)).trans a6
  · have hi' : (sgs c ++ [s])[i]? = some x := hi
    by_cases q : i = (sgs c).length
    · subst q
      rw [List.getElem?_append_right (Nat.le_refl _)] at hi'
      simp at hi'
      subst hi'
      exact e2
    · have hl2 : i < (sgs c ++ [s]).length := (List.getElem?_eq_some_iff.mp hi').1
      rw [List.length_append, List.length_singleton] at hl2
      rw [List.getElem?_append_left (by omega)] at hi'
      rw [e _ (by omega) (by omega), e _ (by omega) (by omega), e _ (by omega) (by omega)]
      exact h3 i x hi'
theorem RowRep.knobSet {k h : Nat} {f : Nat → Nat} {v : Nat} (hc : CoreOK c) (hr : RowRep r c) (hk : (kns c)[k]? = some f) (hh : h < 6) (e1 : r' (124 + 6 * k + h) = nI v) (e : ∀ j, j ≠ 124 + 6 * k + h → r' j = r j) : RowRep r' (knsC c ((kns c).set k (fun i => if i = h then v else f i))) := by
  obtain ⟨⟨a0, a1, a2, a3, a4, a5, a6⟩, h1, h2, h3, h4, h5⟩ := hr
  have hk4 : k < (kns c).length := (List.getElem?_eq_some_iff.mp hk).1
  have h44 := hc.2.2.2.2.2.2.2.2.2.1
  refine ⟨⟨?_, ?_, ?_, ?_, ?_, ?_, ?_⟩, RH.congr (c := c) hc h1 (fun j _ _ => e j (by omega)), RS.congr (c := c) hc h2 (fun j _ _ => e j (by omega)), RG.congr (c := c) hc h3 (fun j _ _ => e j (by omega)), fun i x hi a ha => ?_, RL.congr (c := c) hc h5 (fun j _ _ => e j (by omega))⟩
  · exact (e 0 (by omega)).trans a0
  · exact (e 1 (by omega)).trans a1
  · exact (e 2 (by omega)).trans a2
  · exact (e 3 (by omega)).trans a3
  · exact (e 4 (by omega)).trans a4
  · rw [e _ (by omega)]; show _ = nI ((kns c).set k _).length; rw [List.length_set]; exact a5
  · exact (e 6 (by omega)).trans a6
  · have hi' : ((kns c).set k (fun i => if i = h then v else f i))[i]? = some x := hi
    by_cases q : k = i
    · subst q
      rw [List.getElem?_set_self', hk] at hi'
      cases hi'
      by_cases qa : a = h
      · subst qa
        show _ = nI (if a = a then v else f a)
        rw [if_pos rfl]
        exact e1
      · show _ = nI (if a = h then v else f a)
        rw [if_neg qa, e _ (by omega)]
        exact h4 k f hk a ha
    · rw [List.getElem?_set_ne q] at hi'
      rw [e _ (by omega)]
      exact h4 i x hi' a ha
end RU2
