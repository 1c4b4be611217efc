theorem StX.handNew {T : mT} {I I' : mI} {J J' : mJ} {F : mF} {lo u : Nat} {c : Core} {y : Hd} (hlo : u + 20 ≤ lo) (hc : CoreOK c) (hs : StX T I J F lo u c) (hl : (hds c).length < 6) (hI : ∀ b, b ≠ u → b ≠ u + 8 + 2 * (hds c).length → I' b = I b) (hJ : ∀ b, b ≠ u + 8 + 2 * (hds c).length → J' b = J b) (h0 : ∀ k, k ≠ 2 → I' u k = I u k) (h2' : I' u 2 = nI ((hds c).length + 1)) (hy : HdX I' J' (u + 8 + 2 * (hds c).length) y) : StX T I' J' F lo u (hdsC c (hds c ++ [y])) := by
  obtain ⟨⟨a0, a1, a2, a3, a4, a5, a6⟩, h1, h2, h3, h5, h6⟩ := hs
  refine ⟨⟨?_, ?_, ?_, ?_, ?_, ?_, ?_⟩, fun k z hk => ?_, fun i x hi => ?_, fun i s hi => ?_, ?_, lawsX_keep (c := c) hlo h6 (fun b _ => hI b (by omega) (by omega))⟩
  · rw [h2']; show _ = nI (hds c ++ [y]).length; rw [List.length_append]; rfl
  · rw [h0 _ (by omega)]; exact a1
  · rw [h0 _ (by omega)]; exact a2
  · rw [h0 _ (by omega)]; exact a3
  · rw [h0 _ (by omega)]; exact a4
  · rw [h0 _ (by omega)]; exact a5
  · rw [h0 _ (by omega)]; exact a6
  · have hk' : (hds c ++ [y])[k]? = some z := hk
    by_cases q : k = (hds c).length
    · subst q
      rw [List.getElem?_append_right (Nat.le_refl _)] at hk'
      simp at hk'
      subst hk'
      exact hy
    · have hl2 : k < (hds c ++ [y]).length := (List.getElem?_eq_some_iff.mp hk').1
      rw [List.length_append, List.length_singleton] at hl2
      rw [List.getElem?_append_left (by omega)] at hk'
      exact (h1 k z hk').congr (hI _ (by omega) (by omega)) (hI _ (by omega) (by omega)) (hJ _ (by omega))
  · rw [hI _ (by omega) (by omega)]; exact h2 i x hi
  · rw [hI (u + 4) (by omega) (by omega), hI (u + 5) (by omega) (by omega), hI (u + 6) (by omega) (by omega)]; exact h3 i s hi
  · rw [hI (u + 7) (by omega) (by omega)]; exact h5
theorem ok_handNew {c : Core} {y : Hd} (hc : CoreOK c) (hl : (hds c).length < 6) (h' : HdOK y) : CoreOK (hdsC c (hds c ++ [y])) := by
  obtain ⟨h1, h2, h3, h4, h5, h6, h7, h8, h9, h10⟩ := hc
  refine ⟨by show (hds c ++ [y]).length ≤ 6; rw [List.length_append, List.length_singleton]; omega, fun x hx => ?_, h3, h4, h5, h6, h7, h8, fun s hs => ?_, h10⟩
  · have hx' : x ∈ hds c ++ [y] := hx
    rcases List.mem_append.mp hx' with z | z
    · exact h2 x z
    · simp at z; subst z; exact h'
  · obtain ⟨g1, g2, g3⟩ := h9 s hs
    refine ⟨by show s.1 < (hds c ++ [y]).length; rw [List.length_append]; omega, g2, fun x hx => ?_⟩
    have hx' : (hds c ++ [y])[s.1]? = some x := hx
    rw [List.getElem?_append_left g1] at hx'
    exact g3 x hx'
