theorem XS0.congr {T : mT} {F F' : mF} {x w : Nat} (hX : XS0 T F x) (hF : ∀ b, b ≠ w → F' b = F b) (hw : w = x + 4 ∨ w = x + 53 ∨ w = x + 73) : XS0 T F' x := by
  have e0 : F' x = F x := hF x (by omega)
  have e21 : F' (x + 21) = F (x + 21) := hF _ (by omega)
  have e24 : F' (x + 24) = F (x + 24) := hF _ (by omega)
  have e25 : F' (x + 25) = F (x + 25) := hF _ (by omega)
  have e31 : F' (x + 31) = F (x + 31) := hF _ (by omega)
  have e33 : F' (x + 33) = F (x + 33) := hF _ (by omega)
  have e36 : F' (x + 36) = F (x + 36) := hF _ (by omega)
  have e41 : F' (x + 41) = F (x + 41) := hF _ (by omega)
  have e46 : F' (x + 46) = F (x + 46) := hF _ (by omega)
  obtain ⟨h0, h1, h2, h3, h4, h5, h6, h7⟩ := hX
  unfold XS0
  rw [e0, e21, e24, e25, e31, e33, e36, e41, e46]
  exact ⟨h0, h1, h2.congr hF (by omega), h3, h4, h5.congr hF (by omega), h6.congr hF (by omega), h7⟩
theorem LK.congr {T : mT} {F F' : mF} {x : Nat} (h : LK T F x) (h41 : F' (x + 41) 7 = F (x + 41) 7) (hF : ∀ b, x + 111 ≤ b → F' b = F b) : LK T F' x := by
  obtain ⟨l, k, h1, h2, h3, h4, h5⟩ := h
  refine ⟨l, k, h41.trans h1, h2, h3, h4, fun a ha => ?_⟩
  obtain ⟨g0, c, s, lc, ls, g⟩ := h5 a ha
  exact ⟨g0, c, s, lc, ls, by rw [hF a g0]; exact g⟩
theorem XS.congr {T : mT} {F F' : mF} {x w : Nat} (hX : XS T F x) (hF : ∀ b, b ≠ w → F' b = F b) (hw : w = x + 4 ∨ w = x + 53 ∨ w = x + 73) : XS T F' x :=
  ⟨hX.1.congr hF hw, hX.2.congr (by rw [hF _ (by omega)]) (fun b hb => hF b (by omega))⟩
theorem StX.kept {T : mT} {I : mI} {J : mJ} {F : mF} {lo u : Nat} {c : Core} {v : Int32} (hlo : u + 20 ≤ lo) (hc : CoreOK c) (h : StX T I J F lo u c) : StX T (up2 I u 0 v) J F lo u c := by
  obtain ⟨⟨a0, a1, a2, a3, a4, a5, a6⟩, h1, h2, h3, h5, h6⟩ := h
  refine ⟨⟨?_, ?_, ?_, ?_, ?_, ?_, ?_⟩, handsX_keep (c := c) hc h1 (fun b _ _ => up2_off (by omega)) (fun _ _ _ => rfl), fun i x hi => ?_, fun i s hi => ?_, ?_, lawsX_keep (c := c) hlo h6 (fun b _ => up2_off (by omega))⟩
  all_goals first | (rw [up2_ne (by omega)]; assumption) | skip
  · rw [up2_off (by omega)]; exact h2 i x hi
  · rw [up2_off (by omega), up2_off (by omega), up2_off (by omega)]; exact h3 i s hi
  · rw [up2_off (by omega)]; exact h5
theorem RepX.img0 {T : mT} {I I' : mI} {J J' : mJ} {F F' : mF} {x : Nat} {A : Ab} (h : RepX T I J F x A) (hA : AbOK A) (hc : StC I J F I' J' F' (x + 50) (x + 1)) : RepX T (up2 I' (x + 50) 0 1) J' F' x (imgA A 0 (cor A)) := by
  have hst := hc.st (T := T) (lo := x + 111) (c := cor A) (by omega) hA.1 h.2.2.1
  obtain ⟨k1, k2, -, -, -, -, -, -, k9⟩ := id hc
  have kI : ∀ b, (b < x + 50 ∨ x + 50 + 20 ≤ b) → up2 I' (x + 50) 0 1 b = I b := fun b hb => by rw [up2_off (by omega)]; exact (k1 b hb).1
  obtain ⟨h1, h2, h3, ⟨⟨h4, h5⟩, h6, h7⟩, ⟨h8, h8b⟩, h9, h10⟩ := h
  have e0 : img (imgA A 0 (cor A)) 0 = some (cor A) := by
    show (if (0 : Nat) = 0 then some (cor A) else img A 0) = some (cor A)
    exact if_pos rfl
  have e1 : img (imgA A 0 (cor A)) 1 = img A 1 := by
    show (if (1 : Nat) = 0 then some (cor A) else img A 1) = img A 1
    exact if_neg (by decide)
  have hown : up2 I' (x + 50) 0 1 (x + 50) 0 = (if (img (imgA A 0 (cor A)) 0).isSome then 1 else 0) ∧ ∀ c, img (imgA A 0 (cor A)) 0 = some c → StX T (up2 I' (x + 50) 0 1) J' F' (x + 111) (x + 50) c := by
    refine ⟨by rw [up2_same, e0]; rfl, fun c hc2 => ?_⟩
    rw [e0] at hc2
    cases hc2
    exact hst.kept (by omega) hA.1
  have hoth : up2 I' (x + 50) 0 1 (x + 70) 0 = (if (img (imgA A 0 (cor A)) 1).isSome then 1 else 0) ∧ ∀ c, img (imgA A 0 (cor A)) 1 = some c → StX T (up2 I' (x + 50) 0 1) J' F' (x + 111) (x + 70) c := by
    refine ⟨by rw [kI _ (by omega), e1]; exact h6, fun c hc2 => ?_⟩
    rw [e1] at hc2
    exact (h7 c hc2).congr (hA.2.1 1 c hc2) (fun _ _ z => z) (fun b _ _ => kI b (by omega)) (fun b _ _ => (k1 b (by omega)).2.1) (fun b _ _ => kI b (by omega)) (fun b _ _ => (k1 b (by omega)).2.2) ((k1 _ (by omega)).2.2)
  refine ⟨?_, ?_, ?_, ⟨hown, hoth⟩, ⟨fun i hi => ?_, fun i hi => ?_⟩, fun i t hi => ?_, ?_⟩
  · rw [kI x (by omega)]; exact h1
  · rw [kI _ (by omega)]; exact h2
  · exact h3.congr hA.1 (fun _ _ z => z) (fun b _ _ => kI b (by omega)) (fun b _ _ => (k1 b (by omega)).2.1) (fun b _ _ => kI b (by omega)) (fun b _ _ => (k1 b (by omega)).2.2) ((k1 _ (by omega)).2.2)
  · rw [k9 i hi]; exact h3.2.2.2.2.2.2 i hi
  · rw [(k1 _ (by omega)).2.2]; exact h8b i hi
  · rw [kI _ (by omega)]; exact h9 i t hi
  · rw [kI (x + 46) (by omega), kI (x + 47) (by omega), kI (x + 48) (by omega)]; exact h10
theorem RepX.img1 {T : mT} {I I' : mI} {J J' : mJ} {F F' : mF} {x : Nat} {A : Ab} (h : RepX T I J F x A) (hA : AbOK A) (hc : StC I J F I' J' F' (x + 70) (x + 1)) : RepX T (up2 I' (x + 70) 0 1) J' F' x (imgA A 1 (cor A)) := by
  have hst := hc.st (T := T) (lo := x + 111) (c := cor A) (by omega) hA.1 h.2.2.1
  obtain ⟨k1, k2, -, -, -, -, -, -, k9⟩ := id hc
  have kI : ∀ b, (b < x + 70 ∨ x + 70 + 20 ≤ b) → up2 I' (x + 70) 0 1 b = I b := fun b hb => by rw [up2_off (by omega)]; exact (k1 b hb).1
  obtain ⟨h1, h2, h3, ⟨⟨h4, h5⟩, h6, h7⟩, ⟨h8, h8b⟩, h9, h10⟩ := h
  have e0 : img (imgA A 1 (cor A)) 1 = some (cor A) := by
    show (if (1 : Nat) = 1 then some (cor A) else img A 1) = some (cor A)
    exact if_pos rfl
  have e1 : img (imgA A 1 (cor A)) 0 = img A 0 := by
    show (if (0 : Nat) = 1 then some (cor A) else img A 0) = img A 0
    exact if_neg (by decide)
  have hown : up2 I' (x + 70) 0 1 (x + 70) 0 = (if (img (imgA A 1 (cor A)) 1).isSome then 1 else 0) ∧ ∀ c, img (imgA A 1 (cor A)) 1 = some c → StX T (up2 I' (x + 70) 0 1) J' F' (x + 111) (x + 70) c := by
    refine ⟨by rw [up2_same, e0]; rfl, fun c hc2 => ?_⟩
    rw [e0] at hc2
    cases hc2
    exact hst.kept (by omega) hA.1
  have hoth : up2 I' (x + 70) 0 1 (x + 50) 0 = (if (img (imgA A 1 (cor A)) 0).isSome then 1 else 0) ∧ ∀ c, img (imgA A 1 (cor A)) 0 = some c → StX T (up2 I' (x + 70) 0 1) J' F' (x + 111) (x + 50) c := by
    refine ⟨by rw [kI _ (by omega), e1]; exact h4, fun c hc2 => ?_⟩
    rw [e1] at hc2
    exact (h5 c hc2).congr (hA.2.1 0 c hc2) (fun _ _ z => z) (fun b _ _ => kI b (by omega)) (fun b _ _ => (k1 b (by omega)).2.1) (fun b _ _ => kI b (by omega)) (fun b _ _ => (k1 b (by omega)).2.2) ((k1 _ (by omega)).2.2)
  refine ⟨?_, ?_, ?_, ⟨hoth, hown⟩, ⟨fun i hi => ?_, fun i hi => ?_⟩, fun i t hi => ?_, ?_⟩
  · rw [kI x (by omega)]; exact h1
  · rw [kI _ (by omega)]; exact h2
  · exact h3.congr hA.1 (fun _ _ z => z) (fun b _ _ => kI b (by omega)) (fun b _ _ => (k1 b (by omega)).2.1) (fun b _ _ => kI b (by omega)) (fun b _ _ => (k1 b (by omega)).2.2) ((k1 _ (by omega)).2.2)
  · rw [(k1 _ (by omega)).2.2]; exact h8 i hi
  · rw [k9 i hi]; exact h3.2.2.2.2.2.2 i hi
  · rw [kI _ (by omega)]; exact h9 i t hi
  · rw [kI (x + 46) (by omega), kI (x + 47) (by omega), kI (x + 48) (by omega)]; exact h10
theorem RepX.bk0 {T : mT} {I I' : mI} {J J' : mJ} {F F' : mF} {x : Nat} {A : Ab} {c : Core} (h : RepX T I J F x A) (hA : AbOK A) (hi : img A 0 = some c) (hc : StC I J F I' J' F' (x + 1) (x + 50)) : RepX T I' J' F' x (corA A c) := by
  obtain ⟨k1, k2, -, -, -, -, -, -, k9⟩ := id hc
  have kI : ∀ b, (b < x + 1 ∨ x + 1 + 20 ≤ b) → I' b = I b := fun b hb => (k1 b hb).1
  obtain ⟨h1, h2, h3, ⟨⟨h4, h5⟩, h6, h7⟩, ⟨h8, h8b⟩, h9, h10⟩ := h
  have hst := hc.st (T := T) (lo := x + 111) (c := c) (by omega) (hA.2.1 0 c hi) (h5 c hi)
  refine ⟨?_, ?_, hst, ⟨⟨?_, fun c2 hc2 => ?_⟩, ?_, fun c2 hc2 => ?_⟩, ⟨fun i hi2 => ?_, fun i hi2 => ?_⟩, fun i t hi2 => ?_, ?_⟩
  · rw [kI x (by omega)]; exact h1
  · rw [kI _ (by omega)]; exact h2
  · rw [kI _ (by omega)]; exact h4
  · exact (h5 c2 hc2).congr (hA.2.1 0 c2 hc2) (fun _ _ z => z) (fun b _ _ => kI b (by omega)) (fun b _ _ => (k1 b (by omega)).2.1) (fun b _ _ => kI b (by omega)) (fun b _ _ => (k1 b (by omega)).2.2) ((k1 _ (by omega)).2.2)
  · rw [kI _ (by omega)]; exact h6
  · exact (h7 c2 hc2).congr (hA.2.1 1 c2 hc2) (fun _ _ z => z) (fun b _ _ => kI b (by omega)) (fun b _ _ => (k1 b (by omega)).2.1) (fun b _ _ => kI b (by omega)) (fun b _ _ => (k1 b (by omega)).2.2) ((k1 _ (by omega)).2.2)
  · rw [(k1 _ (by omega)).2.2]; exact h8 i hi2
  · rw [(k1 _ (by omega)).2.2]; exact h8b i hi2
  · rw [kI _ (by omega)]; exact h9 i t hi2
  · rw [kI (x + 46) (by omega), kI (x + 47) (by omega), kI (x + 48) (by omega)]; exact h10
theorem RepX.bk1 {T : mT} {I I' : mI} {J J' : mJ} {F F' : mF} {x : Nat} {A : Ab} {c : Core} (h : RepX T I J F x A) (hA : AbOK A) (hi : img A 1 = some c) (hc : StC I J F I' J' F' (x + 1) (x + 70)) : RepX T I' J' F' x (corA A c) := by
  obtain ⟨k1, k2, -, -, -, -, -, -, k9⟩ := id hc
  have kI : ∀ b, (b < x + 1 ∨ x + 1 + 20 ≤ b) → I' b = I b := fun b hb => (k1 b hb).1
  obtain ⟨h1, h2, h3, ⟨⟨h4, h5⟩, h6, h7⟩, ⟨h8, h8b⟩, h9, h10⟩ := h
  have hst := hc.st (T := T) (lo := x + 111) (c := c) (by omega) (hA.2.1 1 c hi) (h7 c hi)
  refine ⟨?_, ?_, hst, ⟨⟨?_, fun c2 hc2 => ?_⟩, ?_, fun c2 hc2 => ?_⟩, ⟨fun i hi2 => ?_, fun i hi2 => ?_⟩, fun i t hi2 => ?_, ?_⟩
  · rw [kI x (by omega)]; exact h1
  · rw [kI _ (by omega)]; exact h2
  · rw [kI _ (by omega)]; exact h4
  · exact (h5 c2 hc2).congr (hA.2.1 0 c2 hc2) (fun _ _ z => z) (fun b _ _ => kI b (by omega)) (fun b _ _ => (k1 b (by omega)).2.1) (fun b _ _ => kI b (by omega)) (fun b _ _ => (k1 b (by omega)).2.2) ((k1 _ (by omega)).2.2)
  · rw [kI _ (by omega)]; exact h6
  · exact (h7 c2 hc2).congr (hA.2.1 1 c2 hc2) (fun _ _ z => z) (fun b _ _ => kI b (by omega)) (fun b _ _ => (k1 b (by omega)).2.1) (fun b _ _ => kI b (by omega)) (fun b _ _ => (k1 b (by omega)).2.2) ((k1 _ (by omega)).2.2)
  · rw [(k1 _ (by omega)).2.2]; exact h8 i hi2
  · rw [(k1 _ (by omega)).2.2]; exact h8b i hi2
  · rw [kI _ (by omega)]; exact h9 i t hi2
  · rw [kI (x + 46) (by omega), kI (x + 47) (by omega), kI (x + 48) (by omega)]; exact h10
theorem ok_img {A : Ab} {k : Nat} (hA : AbOK A) : AbOK (imgA A k (cor A)) := by
  refine ⟨hA.1, fun i c hc => ?_, hA.2.2⟩
  have hc' : (if i = k then some (cor A) else img A i) = some c := hc
  split at hc'
  · cases hc'; exact hA.1
  · exact hA.2.1 i c hc'
theorem StC.fr {I I' : mI} {J J' : mJ} {F F' : mF} {x u s : Nat} (hc : StC I J F I' J' F' u s) (hu : x ≤ u ∧ u + 20 ≤ x + 90 ∧ (u + 20 ≤ x + 41 ∨ x + 41 < u)) : FrX x I I' ∧ FrX x J J' ∧ FrX x F F' := ⟨fun b h1 h2 => (hc.1 b (by omega)).1, fun b h1 h2 => (hc.1 b (by omega)).2.1, fun b h1 h2 => (hc.1 b (by omega)).2.2⟩
