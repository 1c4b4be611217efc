section VW2
variable {g : gG} {M : mD} {d : Nat} {Q : mQ} {bc bs pc : Nat} {L : List (Option Value)} {st : List Value} {T : mT} {n : Nat} {I : mI} {J : mJ} {F : mF}
theorem V.aast' {a N ci b k : Nat} {r : vw_C} {i : Int32} (hd : decode M.2.1 pc = .ok (.aastore, 1)) (hT : T a = some (.inr (.object r.1, N))) (hty : FieldType.object r.1 ∈ mTys) (hb : T b = some (.inl ci)) (hr : vwCl[ci]? = some r) (hi : i = nI k) (hk : k < N) (hN : N < 2 ^ 31) (kk : V g M d Q bc bs (pc + 1) L st T n I J (up2 F a k (some b))) : V g M d Q bc bs pc L (.ref b :: .int i :: .ref a :: st) T n I J F := by
  subst hi
  exact V.aast hd hT hty hb hr (vp_in_nI hk hN) (by rw [nI_clamp (by omega)]; exact kk)
theorem V.aastN' {a N k : Nat} {C : String} {i : Int32} (hd : decode M.2.1 pc = .ok (.aastore, 1)) (hT : T a = some (.inr (.object C, N))) (hty : FieldType.object C ∈ mTys) (hi : i = nI k) (hk : k < N) (hN : N < 2 ^ 31) (kk : V g M d Q bc bs (pc + 1) L st T n I J (up2 F a k none)) : V g M d Q bc bs pc L (.null :: .int i :: .ref a :: st) T n I J F := by
  subst hi
  exact V.aastN hd hT hty (vp_in_nI hk hN) (by rw [nI_clamp (by omega)]; exact kk)
/-- a copy of a whole row, from 0 -/
theorem V.copy0 {idx a b N0 N1 K : Nat} {k : Int32} (hd : decode M.2.1 pc = .ok (.invokestatic idx, 3)) (hl : Cond.methodLink M.1.cls idx arraycopyName ∈ lw_tbl) (hdd : 1 ≤ d) (h8 : (st.map fun v => v.category).sum ≤ 8) (ha : T a = some (.inr (.int, N0))) (hb : T b = some (.inr (.int, N1))) (hk : k = nI K) (h4 : K ≤ N0) (h5 : K ≤ N1) (h6 : N0 < 2 ^ 31) (kk : V g M d Q bc bs (pc + 3) L st T n (cpyI I a b 0 0 K) J F) : V g M d Q bc bs pc L (.int k :: .int 0 :: .ref b :: .int 0 :: .ref a :: st) T n I J F := by
  subst hk
  have e0 : (0 : Int32).toNatClampNeg = 0 := rfl
  refine V.copy hd hl hdd h8 ha hb (by decide) (by decide) (nI_pos (by omega)) (by rw [e0, nI_clamp (by omega)]; omega) (by rw [e0, nI_clamp (by omega)]; omega) ?_
  rw [e0, nI_clamp (by omega)]
  exact kk
end VW2
theorem cpyI_off {I : mI} {a b c K : Nat} (h : c ≠ b) : cpyI I a b 0 0 K c = I c := by funext j; exact if_neg (fun z => h z.1)
theorem cpyI_in {I : mI} {a b K j : Nat} (h : j < K) : cpyI I a b 0 0 K b j = I a j := by rw [cpyI, if_pos ⟨rfl, Nat.zero_le _, by omega⟩]; congr 1; omega
theorem SS.congr {T : mT} {F F' : mF} {v w : Nat} (hS : SS T F v) (hF : ∀ b, b ≠ w → F' b = F b) (hw : w = v + 3 ∨ w < v ∨ v + 20 ≤ w) : SS T F' v := by
  obtain ⟨h0, h1, h2, h3, h4, h5, h6, h7, h8⟩ := hS
  have e : F' v = F v := hF v (by omega)
  refine ⟨h0, ?_, ?_, ?_, ?_, ?_, ?_, ?_, fun h hh => ?_⟩
  all_goals first | (rw [e]; assumption) | skip
  obtain ⟨a1, a2, a3, a4⟩ := h8 h hh
  exact ⟨by rw [hF _ (by omega)]; exact a1, a2, by rw [hF _ (by omega)]; exact a3, a4⟩
/-- hand h of the state at u is a copy of that of the state at s -/
def HC (I : mI) (J : mJ) (I' : mI) (J' : mJ) (u s h : Nat) : Prop := (∀ k, k < 4 → I' (u + 8 + 2 * h) k = I (s + 8 + 2 * h) k) ∧ (∀ j, j < 8 → I' (u + 8 + 2 * h + 1) j = I (s + 8 + 2 * h + 1) j) ∧ J' (u + 8 + 2 * h) 5 = J (s + 8 + 2 * h) 5 ∧ J' (u + 8 + 2 * h) 6 = J (s + 8 + 2 * h) 6
theorem HC.hd {I : mI} {J : mJ} {I' : mI} {J' : mJ} {u s h : Nat} {y : Hd} (hc : HC I J I' J' u s h) (hl : y.2.2.2.length ≤ 4) (hy : HdX I J (s + 8 + 2 * h) y) : HdX I' J' (u + 8 + 2 * h) y := by
  obtain ⟨c1, c2, c3, c4⟩ := hc
  obtain ⟨h1, h2, h3, h4, h5, h6, h7⟩ := hy
  refine ⟨by rw [c1 _ (by omega)]; exact h1, by rw [c1 _ (by omega)]; exact h2, by rw [c1 _ (by omega)]; exact h3, by rw [c1 _ (by omega)]; exact h4, fun p q hp => ?_, by rw [c3]; exact h6, by rw [c4]; exact h7⟩
  have hpl : p < y.2.2.2.length := (List.getElem?_eq_some_iff.mp hp).1
  rw [c2 _ (by omega), c2 _ (by omega)]
  exact h5 p q hp
/-- the state at u has become a copy of the state at s -/
def StC (I : mI) (J : mJ) (F : mF) (I' : mI) (J' : mJ) (F' : mF) (u s : Nat) : Prop :=
  (∀ b, (b < u ∨ u + 20 ≤ b) → I' b = I b ∧ J' b = J b ∧ F' b = F b) ∧ (∀ b, b ≠ u + 3 → F' b = F b) ∧ I' u 0 = I u 0 ∧ (I' u 2 = I s 2 ∧ I' u 4 = I s 4 ∧ I' u 5 = I s 5 ∧ I' u 7 = I s 7 ∧ I' u 8 = I s 8 ∧ I' u 12 = I s 12 ∧ I' u 14 = I s 14) ∧ (∀ h, h < 6 → HC I J I' J' u s h) ∧ (∀ i, i < 12 → I' (u + 2) i = I (s + 2) i) ∧ (∀ i, i < 10 → I' (u + 4) i = I (s + 4) i ∧ I' (u + 5) i = I (s + 5) i ∧ I' (u + 6) i = I (s + 6) i) ∧ (∀ i, i < 24 → I' (u + 7) i = I (s + 7) i) ∧ (∀ i, i < 6 → F' (u + 3) i = F (s + 3) i)
theorem StC.st {T : mT} {I I' : mI} {J J' : mJ} {F F' : mF} {lo u s : Nat} {c : Core} (hlo : u + 20 ≤ lo) (hc : CoreOK c) (h : StC I J F I' J' F' u s) (hs : StX T I J F lo s c) : StX T I' J' F' lo u c := by
  obtain ⟨k1, k2, k3, ⟨m1, m2, m3, m4, m5, m6, m7⟩, k5, k6, k7, k8, k9⟩ := h
  obtain ⟨⟨a0, a1, a2, a3, a4, a5, a6⟩, h1, h2, h3, ⟨h5, h5b⟩, h6, h7⟩ := hs
  refine ⟨⟨m1.trans a0, m2.trans a1, m3.trans a2, m4.trans a3, m5.trans a4, m6.trans a5, m7.trans a6⟩, fun h y hy => ?_, fun i t hi => ?_, fun i z hi => ?_, ⟨fun k f hk a ha => ?_, fun j g1 g2 => ?_⟩, fun i w hi => ?_, fun i hi => ?_⟩
  · have hl : h < (hds c).length := (List.getElem?_eq_some_iff.mp hy).1
    have := hc.1
    exact (k5 h (by omega)).hd (hc.2.1 y (List.mem_of_getElem? hy)).2.2.2.2.1 (h1 h y hy)
  · have hl : i < (stk c).length := (List.getElem?_eq_some_iff.mp hi).1
    have := hc.2.2.1
    rw [k6 i (by omega)]; exact h2 i t hi
  · have hl : i < (sgs c).length := (List.getElem?_eq_some_iff.mp hi).1
    have := hc.2.2.2.2.2.2.2.1
    rw [(k7 i (by omega)).1, (k7 i (by omega)).2.1, (k7 i (by omega)).2.2]; exact h3 i z hi
  · have hl : k < (kns c).length := (List.getElem?_eq_some_iff.mp hk).1
    have := hc.2.2.2.2.2.2.2.2.2.1
    rw [k8 _ (by omega)]; exact h5 k f hk a ha
  · rw [k8 _ (by omega)]; exact h5b j g1 g2
  · have hl : i < (lws c).length := (List.getElem?_eq_some_iff.mp hi).1
    have := hc.2.2.2.2.1
    obtain ⟨a, e1, e2⟩ := h6 i w hi
    exact ⟨a, by rw [k9 i (by omega)]; exact e1, e2.congr (fun _ _ z => z) (fun b hb _ => (k1 b (by omega)).1) (fun b hb _ => (k1 b (by omega)).2.2)⟩
  · rw [k9 i hi]; exact h7 i hi
