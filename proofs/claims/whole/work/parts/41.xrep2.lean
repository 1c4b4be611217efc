section XC
variable {T T' : mT} {I I' : mI} {J J' : mJ} {F F' : mF} {lo u x : Nat} {c c' : Core} {A : Ab}
theorem HdX.congr {a : Nat} {y : Hd} (h : HdX I J a y) (e1 : I' a = I a) (e2 : I' (a + 1) = I (a + 1)) (e3 : J' a = J a) : HdX I' J' a y := by
  unfold HdX
  rw [e1, e2, e3]
  exact h
theorem LwX.congr {a : Nat} {w : Lw} (h : LwX T I F lo a w) (hT : ∀ a sh, T a = some sh → T' a = some sh) (hI : ∀ b, lo ≤ b → T b ≠ none → I' b = I b) (hF : ∀ b, lo ≤ b → T b ≠ none → F' b = F b) : LwX T' I' F' lo a w := by
  obtain ⟨h1, h2, cc, s, lc, ls, g1, g2, g3, g4, g5, g6, g7⟩ := h
  refine ⟨h1, hT _ _ h2, cc, s, lc, ls, g1, g2, ?_, hT _ _ g4, ?_, hT _ _ g6, ?_⟩
  · rw [hF a h1 (by rw [h2]; exact fun z => by cases z)]; exact g3
  · rw [hF a h1 (by rw [h2]; exact fun z => by cases z)]; exact g5
  · rw [hI cc g1 (by rw [g4]; exact fun z => by cases z), hI s g2 (by rw [g6]; exact fun z => by cases z)]; exact g7
theorem StX.congr (h : StX T I J F lo u c) (hc : CoreOK c) (hT : ∀ a sh, T a = some sh → T' a = some sh) (hI : ∀ b, u ≤ b → b < u + 20 → I' b = I b) (hJ : ∀ b, u ≤ b → b < u + 20 → J' b = J b) (hI2 : ∀ b, lo ≤ b → T b ≠ none → I' b = I b) (hF2 : ∀ b, lo ≤ b → T b ≠ none → F' b = F b) (hF : F' (u + 3) = F (u + 3)) : StX T' I' J' F' lo u c := by
  obtain ⟨h1, h2, h3, h4, ⟨h5, h6⟩, h7, h8⟩ := h
  refine ⟨?_, fun k y hk => ?_, fun i t hi => ?_, fun i s hi => ?_, ⟨fun k f hk k2 hk2 => ?_, fun j g1 g2 => ?_⟩, fun i w hi => ?_, fun i hi => ?_⟩
  · rw [hI u (by omega) (by omega)]; exact h1
  · have hl : k < (hds c).length := (List.getElem?_eq_some_iff.mp hk).1
    have := hc.1
    exact (h2 k y hk).congr (hI _ (by omega) (by omega)) (hI _ (by omega) (by omega)) (hJ _ (by omega) (by omega))
  · rw [hI _ (by omega) (by omega)]; exact h3 i t hi
  · rw [hI (u + 4) (by omega) (by omega), hI (u + 5) (by omega) (by omega), hI (u + 6) (by omega) (by omega)]; exact h4 i s hi
  · rw [hI _ (by omega) (by omega)]; exact h5 k f hk k2 hk2
  · rw [hI _ (by omega) (by omega)]; exact h6 j g1 g2
  · obtain ⟨a, e1, e2⟩ := h7 i w hi
    exact ⟨a, by rw [hF]; exact e1, e2.congr hT hI2 hF2⟩
  · rw [hF]
    rcases h8 i hi with e | ⟨a, e1, e2, e3⟩
    · exact Or.inl e
    · exact Or.inr ⟨a, e1, e2, hT _ _ e3⟩
/-- a change of the clock's own numbers alone -/
theorem RepX.sc (h : RepX T I J F x A) (hA : AbOK A) (A' : Ab) (hI : ∀ b, b ≠ x → b ≠ x + 23 → I' b = I b) (e : cor A' = cor A ∧ img A' = img A ∧ stm A' = stm A) (ht : ∀ (i t : Nat), (tap A')[i]? = some t → (tap A)[i]? = some t)
    (h1 : I' x 3 = nI (tap A').length ∧ I' x 4 = iI (flt A') ∧ I' x 5 = nI (bnt A') ∧ I' x 7 = iI (sts A')) (h2 : I' (x + 23) 0 = nI (rfs A' (-1)) ∧ I' (x + 23) 1 = nI (rfs A' (-2)) ∧ I' (x + 23) 2 = nI (rfs A' (-5)) ∧ I' (x + 23) 3 = nI (rfs A' (-6))) : RepX T I' J F x A' := by
  obtain ⟨-, -, h3, ⟨⟨h4, h5⟩, h6, h7⟩, h8, h9, h10⟩ := h
  obtain ⟨e1, e2, e3⟩ := e
  refine ⟨h1, h2, ?_, ⟨⟨?_, fun c hc => ?_⟩, ?_, fun c hc => ?_⟩, h8, fun i t hi => ?_, ?_⟩
  · rw [e1]; exact h3.congr hA.1 (fun _ _ z => z) (fun b _ _ => hI b (by omega) (by omega)) (fun _ _ _ => rfl) (fun b _ _ => hI b (by omega) (by omega)) (fun _ _ _ => rfl) rfl
  · rw [hI _ (by omega) (by omega), e2]; exact h4
  · rw [e2] at hc; exact (h5 c hc).congr (hA.2.1 0 c hc) (fun _ _ z => z) (fun b _ _ => hI b (by omega) (by omega)) (fun _ _ _ => rfl) (fun b _ _ => hI b (by omega) (by omega)) (fun _ _ _ => rfl) rfl
  · rw [hI _ (by omega) (by omega), e2]; exact h6
  · rw [e2] at hc; exact (h7 c hc).congr (hA.2.1 1 c hc) (fun _ _ z => z) (fun b _ _ => hI b (by omega) (by omega)) (fun _ _ _ => rfl) (fun b _ _ => hI b (by omega) (by omega)) (fun _ _ _ => rfl) rfl
  · rw [hI _ (by omega) (by omega)]; exact h9 i t (ht i t hi)
  · rw [hI (x + 46) (by omega) (by omega), hI (x + 47) (by omega) (by omega), hI (x + 48) (by omega) (by omega), e3]; exact h10
/-- a change within the state 'now' -/
theorem RepX.core (h : RepX T I J F x A) (hA : AbOK A) (hI : ∀ b, (b < x + 1 ∨ x + 20 < b) → I' b = I b) (hst : StX T I' J' F (x + 111) (x + 1) c') (hJ : ∀ b, (b < x + 1 ∨ x + 20 < b) → J' b = J b) : RepX T I' J' F x (corA A c') := by
  obtain ⟨h1, h2, -, ⟨⟨h4, h5⟩, h6, h7⟩, h8, h9, h10⟩ := h
  refine ⟨?_, ?_, hst, ⟨⟨?_, fun c hc => ?_⟩, ?_, fun c hc => ?_⟩, h8, fun i t hi => ?_, ?_⟩
  · rw [hI x (by omega)]; exact h1
  · rw [hI _ (by omega)]; exact h2
  · rw [hI _ (by omega)]; exact h4
  · exact (h5 c hc).congr (hA.2.1 0 c hc) (fun _ _ z => z) (fun b _ _ => hI b (by omega)) (fun b _ _ => hJ b (by omega)) (fun b _ _ => hI b (by omega)) (fun _ _ _ => rfl) rfl
  · rw [hI _ (by omega)]; exact h6
  · exact (h7 c hc).congr (hA.2.1 1 c hc) (fun _ _ z => z) (fun b _ _ => hI b (by omega)) (fun b _ _ => hJ b (by omega)) (fun b _ _ => hI b (by omega)) (fun _ _ _ => rfl) rfl
  · rw [hI _ (by omega)]; exact h9 i t hi
  · rw [hI (x + 46) (by omega), hI (x + 47) (by omega), hI (x + 48) (by omega)]; exact h10
def rfX (I : mI) (x k : Nat) (v : Int32) : mI := up2 (up2 I x 7 v) (x + 23) k (I (x + 23) k + 1)
theorem rfX_off {b k : Nat} {v : Int32} (h1 : b ≠ x) (h2 : b ≠ x + 23) : rfX I x k v b = I b := by rw [rfX, up2_off h2, up2_off h1]
theorem RepX.refuse (h : RepX T I J F x A) (hA : AbOK A) (k : Nat) (w : Int) (hk : (k = 0 ∧ w = -1) ∨ (k = 1 ∧ w = -2) ∨ (k = 2 ∧ w = -5) ∨ (k = 3 ∧ w = -6)) : RepX T (rfX I x k (iI w)) J F x (tellA A w) := by
  have hw : w < 0 := by omega
  have eA : tellA A w = (cor A, img A, tap A, flt A, bnt A, fun u => if u = w then rfs A u + 1 else rfs A u, w, stm A) := if_pos hw
  rw [eA]
  obtain ⟨⟨a1, a2, a3, a4⟩, ⟨b1, b2, b3, b4⟩, -⟩ := id h
  have cnt : ∀ (j : Nat) (v : Int), I (x + 23) j = nI (rfs A v) → (j = k ↔ v = w) → rfX I x k (iI w) (x + 23) j = nI (if v = w then rfs A v + 1 else rfs A v) := by
    intro j v hb hjk
    rw [rfX, up2_at]
    by_cases q : j = k
    · rw [if_pos (hjk.mp q)]
      simp only [q, if_true]
      rw [← q, hb, nI_1]
    · rw [if_neg (fun z => q (hjk.mpr z))]
      simp only [q, if_false]
      rw [up2_off (by omega)]
      exact hb
  refine h.sc hA _ (fun b h1 h2 => rfX_off h1 h2) ⟨rfl, rfl, rfl⟩ (fun _ _ z => z) ⟨?_, ?_, ?_, ?_⟩ ⟨cnt 0 (-1) b1 (by omega), cnt 1 (-2) b2 (by omega), cnt 2 (-5) b3 (by omega), cnt 3 (-6) b4 (by omega)⟩
  · rw [rfX, up2_off (by omega), up2_at]; exact a1
  · rw [rfX, up2_off (by omega), up2_at]; exact a2
  · rw [rfX, up2_off (by omega), up2_at]; exact a3
  · rw [rfX, up2_off (by omega), up2_at]; rfl
theorem RepX.accept (h : RepX T I J F x A) (hA : AbOK A) : RepX T (up2 I x 7 0) J F x (wasA A) := by
  obtain ⟨⟨a1, a2, a3, a4⟩, b, -⟩ := id h
  refine h.sc hA _ (fun b h1 h2 => up2_off h1) ⟨rfl, rfl, rfl⟩ (fun _ _ z => z) ?_ ?_
  · rw [up2_at]; exact ⟨a1, a2, a3, rfl⟩
  · rw [up2_off (by omega)]; exact b
theorem FrX.rf {α : Type} {I : Nat → α} : FrX x I I := fun _ _ _ => rfl
theorem FrX.up {α : Type} {a k : Nat} {I I' : Nat → Nat → α} {v : α} (h : FrX x I I') (ha : a ≠ x + 41 ∧ (a < x + 90 ∨ x + 110 < a)) : FrX x I (up2 I' a k v) := fun b h1 h2 => by rw [up2_off (by omega)]; exact h b h1 h2
theorem FrX.rfX {I I' : mI} {k : Nat} {v : Int32} (h : FrX x I I') : FrX x I (rfX I' x k v) := fun b h1 h2 => by rw [rfX_off (by omega) (by omega)]; exact h b h1 h2
theorem FrX.trans {α : Type} {I I' I'' : Nat → α} (h : FrX x I I') (h2 : FrX x I' I'') : FrX x I I'' := fun b h3 h4 => (h2 b h3 h4).trans (h b h3 h4)
/-- an answer of the class, the memory's shape as it was -/
theorem QX.mk' {n : Nat} {r : Option Value} {A' : Ab} (hX : XS T F x) (h1 : FrX x I I') (h2 : FrX x J J') (h3 : RepX T I' J' F x A') : QX x T n I J F r A' r T n I' J' F := ⟨rfl, fun _ _ z => z, Nat.le_refl _, h1, h2, FrX.rf, hX, h3⟩
end XC
