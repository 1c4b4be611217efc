def s_hand (A : Ab) (z : Int) : Int × Ab := if 1 ≤ z ∧ z ≤ 400 then (if (hds (cor A)).length = 6 then okNo A (-5) else okYes A ((hds (cor A)).length : Int) (hdsC (cor A) (hds (cor A) ++ [(z.toNat, 0, 0, [])]))) else okNo A (-1)
def s_drop (A : Ab) (z : Int) : Int × Ab := if 0 ≤ z ∧ z < (stk (cor A)).length then okYes A (((stk (cor A)).length - 1 : Nat) : Int) (stkC (cor A) ((stk (cor A)).eraseIdx z.toNat)) else okNo A (-2)
def s_knob (A : Ab) : Int × Ab := if (kns (cor A)).length = 4 then okNo A (-5) else okYes A ((kns (cor A)).length : Int) (knsC (cor A) (kns (cor A) ++ [fun _ => 0]))
def imgA (A : Ab) (k : Nat) (c : Core) : Ab := (cor A, fun i => if i = k then some c else img A i, A.2.2)
def s_image (A : Ab) (z : Int) : Int × Ab := if 0 ≤ z ∧ z ≤ 1 then (0, wasA (imgA A z.toNat (cor A))) else okNo A (-1)
def s_back (A : Ab) (z : Int) : Int × Ab := if 0 ≤ z ∧ z ≤ 1 then (match img A z.toNat with
  | none => okNo A (-2)
  | some c => okYes A 0 c) else okNo A (-1)
def byt (v s : Int32) : Nat := (v >>> (s &&& 31)).toBitVec.toNat % 256
def byt4 (v : Int32) : List Nat := [byt v 24, byt v 16, byt v 8, byt v 0]
def s_feed (A : Ab) (a b c d e : Int32) : Int × Ab := if (tap A).length + 20 ≤ 400 then (((tap A).length + 20 : Nat), tapA A (tap A ++ (byt4 a ++ byt4 b ++ byt4 c ++ byt4 d ++ byt4 e))) else (-1, A)
theorem byt_and (v s : Int32) : (v >>> (s &&& 31)) &&& 255 = nI (byt v s) := pk_and _ 8 (by decide)
section RU3
variable {r r' : Nat → Int32} {c : Core}
theorem RowRep.handNew {x : Hd} (hc : CoreOK c) (hr : RowRep r c) (hl : (hds c).length < 6) (e1 : r' 0 = nI ((hds c).length + 1)) (hx : HdRow r' (10 + 12 * (hds c).length) x) (e : ∀ j, j ≠ 0 → (j < 10 + 12 * (hds c).length ∨ 10 + 12 * (hds c).length + 12 ≤ j) → r' j = r j) : RowRep r' (hdsC c (hds c ++ [x])) := by
  obtain ⟨⟨a0, a1, a2, a3, a4, a5, a6⟩, h1, h2, h3, h4, h5⟩ := hr
  refine ⟨⟨?_, ?_, ?_, ?_, ?_, ?_, ?_⟩, fun k y hk => ?_, RS.congr (c := c) hc h2 (fun j _ _ => e j (by omega) (by omega)), RG.congr (c := c) hc h3 (fun j _ _ => e j (by omega) (by omega)), RK.congr (c := c) hc h4 (fun j _ _ => e j (by omega) (by omega)), RL.congr (c := c) hc h5 (fun j _ _ => e j (by omega) (by omega))⟩
  · rw [e1]; show _ = nI (hds c ++ [x]).length; rw [List.length_append]; rfl
  · exact (e 1 (by omega) (by omega)).trans a1
  · exact (e 2 (by omega) (by omega)).trans a2
  · exact (e 3 (by omega) (by omega)).trans a3
  · exact (e 4 (by omega) (by omega)).trans a4
  · exact (e 5 (by omega) (by omega)).trans a5
  · exact (e 6 (by omega) (by omega)).trans a6
  · have hk' : (hds c ++ [x])[k]? = some y := hk
    by_cases q : k = (hds c).length
    · subst q
      rw [List.getElem?_append_right (Nat.le_refl _)] at hk'
      simp at hk'
      subst hk'
      exact hx
    · have hl2 : k < (hds c ++ [x]).length := (List.getElem?_eq_some_iff.mp hk').1
      rw [List.length_append, List.length_singleton] at hl2
      rw [List.getElem?_append_left (by omega)] at hk'
      exact (h1 k y hk').congr (hc.2.1 y (List.mem_of_getElem? hk')).2.2.2.2.1 (fun j g1 g2 => e j (by omega) (by omega))
theorem RowRep.drop {w : Nat} (hc : CoreOK c) (hr : RowRep r c) (hw : w < (stk c).length) (e1 : r' 1 = nI ((stk c).length - 1)) (e2 : ∀ i, i < w → r' (82 + i) = r (82 + i)) (e3 : ∀ i, w ≤ i → i < 11 → r' (82 + i) = r (82 + i + 1)) (e : ∀ j, j ≠ 1 → (j < 82 ∨ 94 ≤ j) → r' j = r j) : RowRep r' (stkC c ((stk c).eraseIdx w)) := by
  obtain ⟨⟨a0, a1, a2, a3, a4, a5, a6⟩, h1, h2, h3, h4, h5⟩ := hr
  refine ⟨⟨?_, ?_, ?_, ?_, ?_, ?_, ?_⟩, RH.congr (c := c) hc h1 (fun j _ _ => e j (by omega) (by omega)), fun i x hi => ?_, RG.congr (c := c) hc h3 (fun j _ _ => e j (by omega) (by omega)), RK.congr (c := c) hc h4 (fun j _ _ => e j (by omega) (by omega)), RL.congr (c := c) hc h5 (fun j _ _ => e j (by omega) (by omega))⟩
  · exact (e 0 (by omega) (by omega)).trans a0
  · rw [e1]; show _ = nI ((stk c).eraseIdx w).length; rw [List.length_eraseIdx_of_lt hw]
  · exact (e 2 (by omega) (by omega)).trans a2
  · exact (e 3 (by omega) (by omega)).trans a3
  · exact (e 4 (by omega) (by omega)).trans a4
  · exact (e 5 (by omega) (by omega)).trans a5
  · exact (e 6 (by omega) (by omega)).trans a6
  · have hi' : ((stk c).eraseIdx w)[i]? = some x := hi
    have h12 := hc.2.2.1
    have hl2 : i < ((stk c).eraseIdx w).length := (List.getElem?_eq_some_iff.mp hi').1
    rw [List.length_eraseIdx_of_lt hw] at hl2
    rw [List.getElem?_eraseIdx] at hi'
    split at hi'
    · rw [e2 i (by assumption)]
      exact h2 i x hi'
    · rw [e3 i (by omega) (by omega)]
      exact h2 (i + 1) x hi'
theorem RowRep.knobNew (hc : CoreOK c) (hr : RowRep r c) (hl : (kns c).length < 4) (e1 : r' 5 = nI ((kns c).length + 1)) (e2 : ∀ h, h < 6 → r' (124 + 6 * (kns c).length + h) = 0) (e : ∀ j, j ≠ 5 → (j < 124 + 6 * (kns c).length ∨ 124 + 6 * (kns c).length + 6 ≤ j) → r' j = r j) : RowRep r' (knsC c (kns c ++ [fun _ => 0])) := by
  obtain ⟨⟨a0, a1, a2, a3, a4, a5, a6⟩, h1, h2, h3, h4, h5⟩ := hr
  refine ⟨⟨?_, ?_, ?_, ?_, ?_, ?_, ?_⟩, RH.congr (c := c) hc h1 (fun j _ _ => e j (by omega) (by omega)), RS.congr (c := c) hc h2 (fun j _ _ => e j (by omega) (by omega)), RG.congr (c := c) hc h3 (fun j _ _ => e j (by omega) (by omega)), fun k f hk h hh => ?_, RL.congr (c := c) hc h5 (fun j _ _ => e j (by omega) (by omega))⟩
  · exact (e 0 (by omega) (by omega)).trans a0
  · exact (e 1 (by omega) (by omega)).trans a1
  · exact (e 2 (by omega) (by omega)).trans a2
  · exact (e 3 (by omega) (by omega)).trans a3
  · exact (e 4 (by omega) (by omega)).trans a4
  · rw [e1]; show _ = nI (kns c ++ [fun _ => 0]).length; rw [List.length_append]; rfl
  · exact (e 6 (by omega) (by omega)).trans a6
  · have hk' : (kns c ++ [fun _ => 0])[k]? = some f := hk
    by_cases q : k = (kns c).length
    · subst q
      rw [List.getElem?_append_right (Nat.le_refl _)] at hk'
      simp at hk'
      subst hk'
      exact e2 h hh
    · have hl2 : k < (kns c ++ [fun _ => 0]).length := (List.getElem?_eq_some_iff.mp hk').1
      rw [List.length_append, List.length_singleton] at hl2
      rw [List.getElem?_append_left (by omega)] at hk'
      rw [e _ (by omega) (by omega)]
      exact h4 k f hk' h hh
theorem RepM.image {I I' : mI} {J : mJ} {m k : Nat} {A : Ab} (h : RepM I J m A) (hA : AbOK A) (hk : k < 2) (hI : ∀ b, b ≠ m + 3 → b ≠ m + 4 → I' b = I b) (e1 : ∀ i, i < 5550 → I' (m + 3) (5550 * k + i) = I (m + 2) i) (e2 : ∀ j, (j < 5550 * k ∨ 5550 * k + 5550 ≤ j) → I' (m + 3) j = I (m + 3) j) (e3 : I' (m + 4) k = 1) (e4 : ∀ j, j ≠ k → I' (m + 4) j = I (m + 4) j) : RepM I' J m (imgA A k (cor A)) := by
  obtain ⟨h1, h2, h3, h4, h5, h6, h7⟩ := h
  refine ⟨?_, ?_, ?_, fun i hi => ?_, fun i t hi => ?_, fun a x hx => ?_, h7⟩
  · rw [hI m (by omega) (by omega)]; exact h1
  · rw [hI (m + 1) (by omega) (by omega)]; exact h2
  · rw [hI (m + 2) (by omega) (by omega)]; exact h3
  · by_cases q : i = k
    · subst q
      refine ⟨?_, fun c hc => ?_⟩
      · rw [e3]; show (1 : Int32) = if (if i = i then some (cor A) else img A i).isSome then 1 else 0; rw [if_pos (rfl : i = i)]; rfl
      · have hc' : (if i = i then some (cor A) else img A i) = some c := hc
        rw [if_pos (rfl : i = i)] at hc'
        cases hc'
        exact RowRep.congr hA.1 h3 (fun j hj => e1 j hj)
    · obtain ⟨g1, g2⟩ := h4 i hi
      refine ⟨?_, fun c hc => ?_⟩
      · rw [e4 i q, g1]; show _ = if (if i = k then some (cor A) else img A i).isSome then 1 else 0; rw [if_neg q]
      · have hc' : (if i = k then some (cor A) else img A i) = some c := hc
        rw [if_neg q] at hc'
        exact RowRep.congr (hA.2.1 i c hc') (g2 c hc') (fun j hj => e2 _ (by omega))
  · rw [hI (m + 5) (by omega) (by omega)]; exact h5 i t hi
  · rw [hI (m + 19) (by omega) (by omega), hI (m + 20) (by omega) (by omega)]; exact h6 a x hx
end RU3
