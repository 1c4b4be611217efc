section XU2
variable {T : mT} {I I' : mI} {J J' : mJ} {F : mF} {lo u : Nat} {c : Core}
theorem StX.hand {h : Nat} {y' : Hd} (hlo : u + 20 ≤ lo) (hc : CoreOK c) (hs : StX T I J F lo u c) (hh : h < 6) (hI : ∀ b, b ≠ u + 8 + 2 * h → b ≠ u + 9 + 2 * h → I' b = I b) (hJ : ∀ b, b ≠ u + 8 + 2 * h → J' b = J b) (hy : HdX I' J' (u + 8 + 2 * h) y') : StX T I' J' F lo u (hdsC c ((hds c).set h y')) := by
  obtain ⟨⟨a0, a1, a2, a3, a4, a5, a6⟩, h1, h2, h3, h5, h6⟩ := hs
  have eu : I' u = I u := hI u (by omega) (by omega)
  refine ⟨⟨?_, ?_, ?_, ?_, ?_, ?_, ?_⟩, fun k z hk => ?_, fun i x hi => ?_, fun i s hi => ?_, ?_, lawsX_keep (c := c) hlo h6 (fun b _ => hI b (by omega) (by omega))⟩
  · rw [eu]; show _ = nI ((hds c).set h y').length; rw [List.length_set]; exact a0
  · rw [eu]; exact a1
  · rw [eu]; exact a2
  · rw [eu]; exact a3
  · rw [eu]; exact a4
  · rw [eu]; exact a5
  · rw [eu]; exact a6
  · have hk' : ((hds c).set h y')[k]? = some z := hk
    by_cases q : h = k
    · subst q
      rw [List.getElem?_set_self'] at hk'
      cases hq : (hds c)[h]? with
      | none => rw [hq] at hk'; cases hk'
      | some y => rw [hq] at hk'; cases hk'; exact hy
    · rw [List.getElem?_set_ne q] at hk'
      have hl : k < (hds c).length := (List.getElem?_eq_some_iff.mp hk').1
      exact (h1 k z hk').congr (hI _ (by omega) (by omega)) (hI _ (by omega) (by omega)) (hJ _ (by omega))
  · rw [hI _ (by omega) (by omega)]; exact h2 i x hi
  · rw [hI (u + 4) (by omega) (by omega), hI (u + 5) (by omega) (by omega), hI (u + 6) (by omega) (by omega)]; exact h3 i s hi
  · rw [hI (u + 7) (by omega) (by omega)]; exact h5
theorem StX.sight {s : Sg} (hlo : u + 20 ≤ lo) (hc : CoreOK c) (hs : StX T I J F lo u c) (hI : ∀ b, b ≠ u → b ≠ u + 4 → b ≠ u + 5 → b ≠ u + 6 → I' b = I b) (h0 : ∀ k, k ≠ 12 → I' u k = I u k) (h12 : I' u 12 = nI ((sgs c).length + 1)) (e1 : I' (u + 4) (sgs c).length = nI s.1 ∧ I' (u + 5) (sgs c).length = nI s.2.1 ∧ I' (u + 6) (sgs c).length = nI s.2.2) (e2 : ∀ j, j ≠ (sgs c).length → I' (u + 4) j = I (u + 4) j ∧ I' (u + 5) j = I (u + 5) j ∧ I' (u + 6) j = I (u + 6) j) : StX T I' J F lo u (sgsC c (sgs c ++ [s])) := by
  obtain ⟨⟨a0, a1, a2, a3, a4, a5, a6⟩, h1, h2, h3, h5, h6⟩ := hs
  refine ⟨⟨?_, ?_, ?_, ?_, ?_, ?_, ?_⟩, handsX_keep (c := c) hc h1 (fun b _ _ => hI b (by omega) (by omega) (by omega) (by omega)) (fun _ _ _ => rfl), fun i x hi => ?_, fun i z hi => ?_, ?_, lawsX_keep (c := c) hlo h6 (fun b _ => hI b (by omega) (by omega) (by omega) (by omega))⟩
  · rw [h0 _ (by omega)]; exact a0
  · rw [h0 _ (by omega)]; exact a1
  · rw [h0 _ (by omega)]; exact a2
  · rw [h0 _ (by omega)]; exact a3
  · rw [h0 _ (by omega)]; exact a4
  · rw [h12]; show _ = nI (sgs c ++ [s]).length; rw [List.length_append]; rfl
  · rw [h0 _ (by omega)]; exact a6
  · rw [hI _ (by omega) (by omega) (by omega) (by omega)]; exact h2 i x hi
  · have hi' : (sgs c ++ [s])[i]? = some z := hi
    by_cases q : i = (sgs c).length
    · subst q
      rw [List.getElem?_append_right (Nat.le_refl _)] at hi'
      simp at hi'
      subst hi'
      exact e1
    · have hl2 : i < (sgs c ++ [s]).length := (List.getElem?_eq_some_iff.mp hi').1
      rw [List.length_append, List.length_singleton] at hl2
      rw [List.getElem?_append_left (by omega)] at hi'
      rw [(e2 i q).1, (e2 i q).2.1, (e2 i q).2.2]
      exact h3 i z hi'
  · rw [hI (u + 7) (by omega) (by omega) (by omega) (by omega)]; exact h5
theorem StX.knobNew (hlo : u + 20 ≤ lo) (hc : CoreOK c) (hs : StX T I J F lo u c) (hl : (kns c).length < 4) : StX T (up2 I u 14 (nI ((kns c).length + 1))) J F lo u (knsC c (kns c ++ [fun _ => 0])) := by
  obtain ⟨⟨a0, a1, a2, a3, a4, a5, a6⟩, h1, h2, h3, ⟨h5, h5b⟩, h6⟩ := hs
  refine ⟨⟨?_, ?_, ?_, ?_, ?_, ?_, ?_⟩, handsX_keep (c := c) hc h1 (fun b _ _ => up2_off (by omega)) (fun _ _ _ => rfl), fun i x hi => ?_, fun i s hi => ?_, ⟨fun k f hk h hh => ?_, fun j g1 g2 => ?_⟩, lawsX_keep (c := c) hlo h6 (fun b _ => up2_off (by omega))⟩
  · rw [up2_ne (by omega)]; exact a0
  · rw [up2_ne (by omega)]; exact a1
  · rw [up2_ne (by omega)]; exact a2
  · rw [up2_ne (by omega)]; exact a3
  · rw [up2_ne (by omega)]; exact a4
  · rw [up2_ne (by omega)]; exact a5
  · rw [up2_same]; show _ = nI (kns c ++ [fun _ => 0]).length; rw [List.length_append]; rfl
  · rw [up2_off (by omega)]; exact h2 i x hi
  · rw [up2_off (by omega), up2_off (by omega), up2_off (by omega)]; exact h3 i s hi
  · rw [up2_off (by omega)]
    have hk' : (kns c ++ [fun _ => 0])[k]? = some f := hk
    by_cases q : k = (kns c).length
    · subst q
      rw [List.getElem?_append_right (Nat.le_refl _)] at hk'
      simp at hk'
      subst hk'
      exact h5b _ (by omega) (by omega)
    · have hl2 : k < (kns c ++ [fun _ => 0]).length := (List.getElem?_eq_some_iff.mp hk').1
      rw [List.length_append, List.length_singleton] at hl2
      rw [List.getElem?_append_left (by omega)] at hk'
      exact h5 k f hk' h hh
  · have g1' : 6 * (kns c ++ [fun _ => 0]).length ≤ j := g1
    rw [List.length_append, List.length_singleton] at g1'
    rw [up2_off (by omega)]
    exact h5b j (by omega) g2
theorem StX.knobSet {k h v : Nat} {f : Nat → Nat} (hlo : u + 20 ≤ lo) (hc : CoreOK c) (hs : StX T I J F lo u c) (hk : (kns c)[k]? = some f) (hh : h < 6) : StX T (up2 I (u + 7) (6 * k + h) (nI v)) J F lo u (knsC c ((kns c).set k (fun i => if i = h then v else f i))) := by
  obtain ⟨⟨a0, a1, a2, a3, a4, a5, a6⟩, h1, h2, h3, ⟨h5, h5b⟩, h6⟩ := hs
  have hkl : k < (kns c).length := (List.getElem?_eq_some_iff.mp hk).1
  have eu : up2 I (u + 7) (6 * k + h) (nI v) u = I u := up2_off (by omega)
  refine ⟨⟨?_, ?_, ?_, ?_, ?_, ?_, ?_⟩, handsX_keep (c := c) hc h1 (fun b _ _ => up2_off (by omega)) (fun _ _ _ => rfl), fun i x hi => ?_, fun i s hi => ?_, ⟨fun i x hi a ha => ?_, fun j g1 g2 => ?_⟩, lawsX_keep (c := c) hlo h6 (fun b _ => up2_off (by omega))⟩
  · rw [eu]; exact a0
  · rw [eu]; exact a1
  · rw [eu]; exact a2
  · rw [eu]; exact a3
  · rw [eu]; exact a4
  · rw [eu]; exact a5
  · rw [eu]; show _ = nI ((kns c).set k _).length; rw [List.length_set]; exact a6
  · rw [up2_off (by omega)]; exact h2 i x hi
  · rw [up2_off (by omega), up2_off (by omega), up2_off (by omega)]; exact h3 i s hi
  · have hi' : ((kns c).set k (fun i => if i = h then v else f i))[i]? = some x := hi
    by_cases q : k = i
    · subst q
      rw [List.getElem?_set_self', hk] at hi'
      cases hi'
      by_cases qa : a = h
      · subst qa
        show _ = nI (if a = a then v else f a)
        rw [if_pos rfl, up2_same]
      · show _ = nI (if a = h then v else f a)
        rw [if_neg qa, up2_ne (by omega)]
        exact h5 k f hk a ha
    · rw [List.getElem?_set_ne q] at hi'
      rw [up2_ne (by omega)]
      exact h5 i x hi' a ha
  · have g1' : 6 * ((kns c).set k (fun i => if i = h then v else f i)).length ≤ j := g1
    rw [List.length_set] at g1'
    rw [up2_ne (by omega)]
    exact h5b j g1' g2
end XU2
section AO2
variable {c : Core}
theorem ok_hand {h : Nat} {y y' : Hd} (hc : CoreOK c) (hy : (hds c)[h]? = some y) (e : y'.1 = y.1) (h' : HdOK y') : CoreOK (hdsC c ((hds c).set h y')) := by
  obtain ⟨h1, h2, h3, h4, h5, h6, h7, h8, h9, h10⟩ := hc
  refine ⟨by show ((hds c).set h y').length ≤ 6; rw [List.length_set]; exact h1, fun x hx => ?_, h3, h4, h5, h6, h7, h8, fun s hs => ?_, h10⟩
  · have hx' : x ∈ (hds c).set h y' := hx
    rcases List.mem_or_eq_of_mem_set hx' with z | z
    · exact h2 x z
    · subst z; exact h'
  · obtain ⟨g1, g2, g3⟩ := h9 s hs
    refine ⟨by show s.1 < ((hds c).set h y').length; rw [List.length_set]; exact g1, g2, fun x hx => ?_⟩
    have hx' : ((hds c).set h y')[s.1]? = some x := hx
    by_cases q : h = s.1
    · subst q
      rw [List.getElem?_set_self', hy] at hx'
      cases hx'
      show s.2.2 < y'.1
      rw [e]
      exact g3 y hy
    · rw [List.getElem?_set_ne q] at hx'
      exact g3 x hx'
theorem ok_sight {s : Sg} (hc : CoreOK c) (hl : (sgs c).length < 10) (h : s.1 < (hds c).length ∧ s.2.1 ≤ 1000000 ∧ ∀ x, (hds c)[s.1]? = some x → s.2.2 < x.1) : CoreOK (sgsC c (sgs c ++ [s])) := by
  obtain ⟨h1, h2, h3, h4, h5, h6, h7, h8, h9, h10⟩ := hc
  refine ⟨h1, h2, h3, h4, h5, h6, h7, by show (sgs c ++ [s]).length ≤ 10; rw [List.length_append, List.length_singleton]; omega, fun z hz => ?_, h10⟩
  have hz' : z ∈ sgs c ++ [s] := hz
  rcases List.mem_append.mp hz' with q | q
  · exact h9 z q
  · simp at q; subst q; exact h
theorem ok_knobs {ks : List (Nat → Nat)} (hc : CoreOK c) (h1 : ks.length ≤ 4) (h2 : ∀ f ∈ ks, ∀ h, f h ≤ 9) : CoreOK (knsC c ks) := by
  obtain ⟨a1, a2, a3, a4, a5, a6, a7, a8, a9, -, -, a12⟩ := hc
  exact ⟨a1, a2, a3, a4, a5, a6, a7, a8, a9, h1, h2, a12⟩
theorem ok_knobNew (hc : CoreOK c) (hl : (kns c).length < 4) : CoreOK (knsC c (kns c ++ [fun _ => 0])) := ok_knobs hc (by rw [List.length_append, List.length_singleton]; omega) (fun f hf h => by
  rcases List.mem_append.mp hf with q | q
  · exact hc.2.2.2.2.2.2.2.2.2.2.1 f q h
  · simp at q; subst q; exact Nat.zero_le _)
theorem ok_knobSet {k h v : Nat} {f : Nat → Nat} (hc : CoreOK c) (hk : (kns c)[k]? = some f) (hv : v ≤ 9) : CoreOK (knsC c ((kns c).set k (fun i => if i = h then v else f i))) := ok_knobs hc (by rw [List.length_set]; exact hc.2.2.2.2.2.2.2.2.2.1) (fun g hg i => by
  rcases List.mem_or_eq_of_mem_set hg with q | q
  · exact hc.2.2.2.2.2.2.2.2.2.2.1 g q i
  · subst q
    show (if i = h then v else f i) ≤ 9
    split
    · exact hv
    · exact hc.2.2.2.2.2.2.2.2.2.2.1 f (List.mem_of_getElem? hk) i)
end AO2
