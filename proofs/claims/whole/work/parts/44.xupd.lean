-- updates of a state of the class, and that the clock stays within its bounds
section XU
variable {T : mT} {I I' : mI} {J J' : mJ} {F : mF} {lo u : Nat} {c : Core}
theorem lawsX_keep (hlo : u + 20 ≤ lo) (h : (∀ (i : Nat) (w : Lw), (lws c)[i]? = some w → ∃ a, F (u + 3) i = some a ∧ LwX T I F lo a w) ∧ ∀ i, i < 6 → F (u + 3) i = none ∨ ∃ a, F (u + 3) i = some a ∧ lo ≤ a ∧ T a = some (.inl 2)) (hI : ∀ b, lo ≤ b → I' b = I b) : (∀ (i : Nat) (w : Lw), (lws c)[i]? = some w → ∃ a, F (u + 3) i = some a ∧ LwX T I' F lo a w) ∧ ∀ i, i < 6 → F (u + 3) i = none ∨ ∃ a, F (u + 3) i = some a ∧ lo ≤ a ∧ T a = some (.inl 2) :=
  ⟨fun i w hi => by
    obtain ⟨a, e1, e2⟩ := h.1 i w hi
    exact ⟨a, e1, e2.congr (fun _ _ z => z) (fun b hb _ => hI b hb) (fun _ _ _ => rfl)⟩, h.2⟩
theorem handsX_keep (hc : CoreOK c) (h : ∀ (h : Nat) (y : Hd), (hds c)[h]? = some y → HdX I J (u + 8 + 2 * h) y) (hI : ∀ b, u + 8 ≤ b → b < u + 20 → I' b = I b) (hJ : ∀ b, u + 8 ≤ b → b < u + 20 → J' b = J b) : ∀ (h : Nat) (y : Hd), (hds c)[h]? = some y → HdX I' J' (u + 8 + 2 * h) y := by
  intro k y hk
  have hl : k < (hds c).length := (List.getElem?_eq_some_iff.mp hk).1
  have := hc.1
  exact (h k y hk).congr (hI _ (by omega) (by omega)) (hI _ (by omega) (by omega)) (hJ _ (by omega) (by omega))
theorem StX.wheel {t : Nat} (hlo : u + 20 ≤ lo) (hc : CoreOK c) (h : StX T I J F lo u c) (hI : ∀ b, b ≠ u → b ≠ u + 2 → I' b = I b) (h0 : ∀ k, k ≠ 4 → I' u k = I u k) (h4 : I' u 4 = nI ((stk c).length + 1)) (e2 : I' (u + 2) (stk c).length = nI t) (e : ∀ j, j ≠ (stk c).length → I' (u + 2) j = I (u + 2) j) : StX T I' J F lo u (stkC c (stk c ++ [t])) := by
  obtain ⟨⟨a0, a1, a2, a3, a4, a5, a6⟩, h1, h2, h3, h5, h6⟩ := h
  refine ⟨⟨?_, ?_, ?_, ?_, ?_, ?_, ?_⟩, handsX_keep (c := c) hc h1 (fun b _ _ => hI b (by omega) (by omega)) (fun _ _ _ => rfl), fun i x hi => ?_, fun i s hi => ?_, ?_, lawsX_keep (c := c) hlo h6 (fun b _ => hI b (by omega) (by omega))⟩
  · rw [h0 _ (by omega)]; exact a0
  · rw [h4]; show _ = nI (stk c ++ [t]).length; rw [List.length_append]; rfl
  · rw [h0 _ (by omega)]; exact a2
  · rw [h0 _ (by omega)]; exact a3
  · rw [h0 _ (by omega)]; exact a4
  · rw [h0 _ (by omega)]; exact a5
  · rw [h0 _ (by omega)]; exact a6
  · have hi' : (stk c ++ [t])[i]? = some x := hi
    by_cases q : i = (stk c).length
    · subst q
      rw [List.getElem?_append_right (Nat.le_refl _)] at hi'
      simp at hi'
      rw [e2, hi']
    · have hl2 : i < (stk c ++ [t]).length := (List.getElem?_eq_some_iff.mp hi').1
      rw [List.length_append, List.length_singleton] at hl2
      rw [List.getElem?_append_left (by omega)] at hi'
      rw [e i q]
      exact h2 i x hi'
  · rw [hI (u + 4) (by omega) (by omega), hI (u + 5) (by omega) (by omega), hI (u + 6) (by omega) (by omega)]; exact h3 i s hi
  · rw [hI (u + 7) (by omega) (by omega)]; exact h5
theorem StX.drop {w : Nat} (hlo : u + 20 ≤ lo) (hc : CoreOK c) (h : StX T I J F lo u c) (hw : w < (stk c).length) (hI : ∀ b, b ≠ u → b ≠ u + 2 → I' b = I b) (h0 : ∀ k, k ≠ 4 → I' u k = I u k) (h4 : I' u 4 = nI ((stk c).length - 1)) (e2 : ∀ i, i < w → I' (u + 2) i = I (u + 2) i) (e3 : ∀ i, w ≤ i → i + 1 < (stk c).length → I' (u + 2) i = I (u + 2) (i + 1)) : StX T I' J F lo u (stkC c ((stk c).eraseIdx w)) := by
  obtain ⟨⟨a0, a1, a2, a3, a4, a5, a6⟩, h1, h2, h3, h5, h6⟩ := h
  refine ⟨⟨?_, ?_, ?_, ?_, ?_, ?_, ?_⟩, handsX_keep (c := c) hc h1 (fun b _ _ => hI b (by omega) (by omega)) (fun _ _ _ => rfl), fun i x hi => ?_, fun i s hi => ?_, ?_, lawsX_keep (c := c) hlo h6 (fun b _ => hI b (by omega) (by omega))⟩
  · rw [h0 _ (by omega)]; exact a0
  · rw [h4]; show _ = nI ((stk c).eraseIdx w).length; rw [List.length_eraseIdx_of_lt hw]
  · rw [h0 _ (by omega)]; exact a2
  · rw [h0 _ (by omega)]; exact a3
  · rw [h0 _ (by omega)]; exact a4
  · rw [h0 _ (by omega)]; exact a5
  · rw [h0 _ (by omega)]; exact a6
  · have hi' : ((stk c).eraseIdx w)[i]? = some x := hi
    have hl2 : i < ((stk c).eraseIdx w).length := (List.getElem?_eq_some_iff.mp hi').1
    rw [List.length_eraseIdx_of_lt hw] at hl2
    rw [List.getElem?_eraseIdx] at hi'
    split at hi'
    · rw [e2 i (by assumption)]; exact h2 i x hi'
    · rw [e3 i (by omega) (by omega)]; exact h2 (i + 1) x hi'
  · rw [hI (u + 4) (by omega) (by omega), hI (u + 5) (by omega) (by omega), hI (u + 6) (by omega) (by omega)]; exact h3 i s hi
  · rw [hI (u + 7) (by omega) (by omega)]; exact h5
/-- one number of the state's own changed -/
theorem StX.wear {t : Nat} (hlo : u + 20 ≤ lo) (hc : CoreOK c) (h : StX T I J F lo u c) : StX T (up2 I u 5 (nI t)) J F lo u (werC c t) := by
  obtain ⟨⟨a0, a1, a2, a3, a4, a5, a6⟩, h1, h2, h3, h5, h6⟩ := h
  refine ⟨⟨?_, ?_, ?_, ?_, ?_, ?_, ?_⟩, handsX_keep (c := c) hc h1 (fun b _ _ => up2_off (by omega)) (fun _ _ _ => rfl), fun i x hi => ?_, fun i s hi => ?_, ?_, lawsX_keep (c := c) hlo h6 (fun b _ => up2_off (by omega))⟩
  all_goals first | exact up2_same | (rw [up2_ne (by omega)]; assumption) | skip
  · rw [up2_off (by omega)]; exact h2 i x hi
  · rw [up2_off (by omega), up2_off (by omega), up2_off (by omega)]; exact h3 i s hi
  · rw [up2_off (by omega)]; exact h5
theorem StX.force {z : Int} (hlo : u + 20 ≤ lo) (hc : CoreOK c) (h : StX T I J F lo u c) : StX T (up2 I u 8 (iI z)) J F lo u (frcC c z) := by
  obtain ⟨⟨a0, a1, a2, a3, a4, a5, a6⟩, h1, h2, h3, h5, h6⟩ := h
  refine ⟨⟨?_, ?_, ?_, ?_, ?_, ?_, ?_⟩, handsX_keep (c := c) hc h1 (fun b _ _ => up2_off (by omega)) (fun _ _ _ => rfl), fun i x hi => ?_, fun i s hi => ?_, ?_, lawsX_keep (c := c) hlo h6 (fun b _ => up2_off (by omega))⟩
  all_goals first | exact up2_same | (rw [up2_ne (by omega)]; assumption) | skip
  · rw [up2_off (by omega)]; exact h2 i x hi
  · rw [up2_off (by omega), up2_off (by omega), up2_off (by omega)]; exact h3 i s hi
  · rw [up2_off (by omega)]; exact h5
theorem StX.forget (hlo : u + 20 ≤ lo) (hc : CoreOK c) (h : StX T I J F lo u c) : StX T (up2 I u 12 0) J F lo u (sgsC c []) := by
  obtain ⟨⟨a0, a1, a2, a3, a4, a5, a6⟩, h1, h2, h3, h5, h6⟩ := h
  refine ⟨⟨?_, ?_, ?_, ?_, ?_, ?_, ?_⟩, handsX_keep (c := c) hc h1 (fun b _ _ => up2_off (by omega)) (fun _ _ _ => rfl), fun i x hi => ?_, fun i s hi => ?_, ?_, lawsX_keep (c := c) hlo h6 (fun b _ => up2_off (by omega))⟩
  all_goals first | exact up2_same | (rw [up2_ne (by omega)]; assumption) | skip
  · rw [up2_off (by omega)]; exact h2 i x hi
  · have h0 : ([] : List Sg)[i]? = some s := hi
    simp at h0
  · rw [up2_off (by omega)]; exact h5
end XU
section AO
variable {c : Core} {A : Ab}
theorem ok_wheel {t : Nat} (h : CoreOK c) (hl : (stk c).length < 12) (ht : 6 ≤ t ∧ t ≤ 120) : CoreOK (stkC c (stk c ++ [t])) := stk_ok h (by rw [List.length_append, List.length_singleton]; omega) (fun u hu => by
  rcases List.mem_append.mp hu with z | z
  · exact h.2.2.2.1 u z
  · simp at z; subst z; exact ht)
theorem ok_drop {w : Nat} (h : CoreOK c) : CoreOK (stkC c ((stk c).eraseIdx w)) := stk_ok h (Nat.le_trans (List.length_eraseIdx_le _ _) h.2.2.1) (fun u hu => h.2.2.2.1 u (List.mem_of_mem_eraseIdx hu))
theorem ok_wear {t : Nat} (h : CoreOK c) (ht : 1 ≤ t ∧ t ≤ 1000000) : CoreOK (werC c t) := by
  obtain ⟨h1, h2, h3, h4, h5, h6, h7, h8, h9, h10, h11, -⟩ := h
  exact ⟨h1, h2, h3, h4, h5, h6, h7, h8, h9, h10, h11, ht⟩
theorem ok_force {z : Int} (h : CoreOK c) (hz : z = -1 ∨ (0 ≤ z ∧ z < (lws c).length)) : CoreOK (frcC c z) := by
  obtain ⟨h1, h2, h3, h4, h5, h6, h7, h8⟩ := h
  exact ⟨h1, h2, h3, h4, h5, by show -1 ≤ z; omega, by show z < ((lws c).length : Int); omega, h8⟩
theorem ok_forget (h : CoreOK c) : CoreOK (sgsC c []) := by
  obtain ⟨h1, h2, h3, h4, h5, h6, h7, h8, h9, h10⟩ := h
  exact ⟨h1, h2, h3, h4, h5, h6, h7, by show ([] : List Sg).length ≤ 10; decide, fun s hs => by have h0 : s ∈ ([] : List Sg) := hs; simp at h0, h10⟩
theorem ok_cor {c : Core} (h : AbOK A) (hc : CoreOK c) : AbOK (corA A c) := ⟨hc, h.2⟩
theorem ok_was (h : AbOK A) : AbOK (wasA A) := h
theorem ok_tell {v : Int} (h : AbOK A) : AbOK (tellA A v) := by
  unfold tellA
  split <;> exact h
end AO
