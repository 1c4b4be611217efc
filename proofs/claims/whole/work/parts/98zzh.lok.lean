-- the clock stays well
section ABK
variable {A : Ab}
theorem hdAt_some {c : Core} {z : Int} {y : Hd} (h : hdAt c z = some y) : (0 ≤ z ∧ z < (hds c).length) ∧ (hds c)[z.toNat]? = some y := by
  by_cases q : 0 ≤ z ∧ z < (hds c).length
  · obtain ⟨x, h1, h2⟩ := hdAt_yes q
    rw [h] at h2
    injection h2 with h2
    rw [h2]; exact ⟨q, h1⟩
  · rw [hdAt_no q] at h; cases h
theorem ab_no {v : Int} (h : AbOK A) : AbOK (okNo A v).2 := ok_tell h
theorem ab_yes {v : Int} {c : Core} (h : AbOK A) (hc : CoreOK c) : AbOK (okYes A v c).2 := ok_was (ok_cor h hc)
theorem ab_hand {z : Int} (h : AbOK A) : AbOK (s_hand A z).2 := by
  unfold s_hand
  split
  · split
    · exact ab_no h
    · have := h.1.1
      exact ab_yes h (ok_handNew h.1 (by omega) ⟨by show 1 ≤ z.toNat; omega, by show z.toNat ≤ 400; omega, by show 0 < z.toNat; omega, Nat.zero_le _, Nat.zero_le _, fun q hq => (by cases hq)⟩)
  · exact ab_no h
theorem ab_put {x w v : Int} (h : AbOK A) : AbOK (s_put A x w v).2 := by
  unfold s_put
  split
  · rename_i q
    split
    · exact ab_no h
    · rename_i y hy
      obtain ⟨-, hy2⟩ := hdAt_some hy
      have hY := h.1.2.1 y (List.mem_of_getElem? hy2)
      split
      · split
        · exact ab_yes h (ok_hand h.1 hy2 rfl ⟨hY.1, hY.2.1, by show v.toNat < y.1; omega, hY.2.2.2⟩)
        · exact ab_no h
      · exact ab_yes h (ok_hand h.1 hy2 rfl ⟨hY.1, hY.2.1, hY.2.2.1, by show v.toNat ≤ 9999; omega, hY.2.2.2.2⟩)
  · exact ab_no h
theorem ab_pair {x a b : Int} (h : AbOK A) : AbOK (s_pair A x a b).2 := by
  unfold s_pair
  split
  · rename_i q
    split
    · exact ab_no h
    · rename_i y hy
      obtain ⟨-, hy2⟩ := hdAt_some hy
      have hY := h.1.2.1 y (List.mem_of_getElem? hy2)
      have h4 := hY.2.2.2.2.1
      split
      · exact ab_no h
      · refine ab_yes h (ok_hand h.1 hy2 rfl ⟨hY.1, hY.2.1, hY.2.2.1, hY.2.2.2.1, ?_, fun r hr => ?_⟩)
        · show (y.2.2.2 ++ [_]).length ≤ 4
          rw [List.length_append, List.length_singleton]; omega
        · rcases List.mem_append.mp hr with z | z
          · exact hY.2.2.2.2.2 r z
          · simp at z; subst z
            exact ⟨by show 6 ≤ a.toNat; omega, by show a.toNat ≤ 120; omega, by show 6 ≤ b.toNat; omega, by show b.toNat ≤ 120; omega⟩
  · exact ab_no h
theorem ab_strip {x : Int} (h : AbOK A) : AbOK (s_strip A x).2 := by
  unfold s_strip
  split
  · exact ab_no h
  · rename_i y hy
    obtain ⟨-, hy2⟩ := hdAt_some hy
    have hY := h.1.2.1 y (List.mem_of_getElem? hy2)
    exact ab_yes h (ok_hand h.1 hy2 rfl ⟨hY.1, hY.2.1, hY.2.2.1, hY.2.2.2.1, Nat.zero_le _, fun q hq => (by cases hq)⟩)
theorem ab_wheel {z : Int} (h : AbOK A) : AbOK (s_wheel A z).2 := by
  unfold s_wheel
  split
  · split
    · exact ok_tell h
    · have := h.1.2.2.1
      exact ok_was (ok_cor h (ok_wheel h.1 (by omega) ⟨by omega, by omega⟩))
  · exact ok_tell h
theorem ab_drop {z : Int} (h : AbOK A) : AbOK (s_drop A z).2 := by
  unfold s_drop
  split
  · exact ab_yes h (ok_drop h.1)
  · exact ab_no h
theorem ab_terms {w z : Int} (h : AbOK A) : AbOK (s_terms A w z).2 := by
  unfold s_terms
  split
  · exact ok_was (ok_cor h (ok_wear h.1 ⟨by omega, by omega⟩))
  · exact ok_tell h
theorem ab_force {z : Int} (h : AbOK A) : AbOK (s_force A z).2 := by
  unfold s_force
  split
  · rename_i q; exact ok_was (ok_cor h (ok_force h.1 q))
  · exact ok_tell h
theorem ab_forget (h : AbOK A) : AbOK (s_forget A).2 := ok_cor h (ok_forget h.1)
theorem ab_knob (h : AbOK A) : AbOK (s_knob A).2 := by
  unfold s_knob
  split
  · exact ab_no h
  · have := h.1.2.2.2.2.2.2.2.2.2.1
    exact ab_yes h (ok_knobNew h.1 (by omega))
theorem ab_push {k x v : Int} (h : AbOK A) : AbOK (s_push A k x v).2 := by
  unfold s_push
  split
  · split
    · rename_i q1 q2
      have hl : k.toNat < (kns (cor A)).length := by omega
      have e : (kns (cor A)).getD k.toNat (fun _ => 0) = (kns (cor A))[k.toNat] := by rw [List.getD_eq_getElem?_getD, List.getElem?_eq_getElem hl]; rfl
      rw [e]
      exact ab_yes h (ok_knobSet h.1 (List.getElem?_eq_getElem hl) (by omega))
    · exact ab_no h
  · exact ab_no h
theorem ab_sight {x d k : Int} (h : AbOK A) : AbOK (s_sight A x d k).2 := by
  unfold s_sight
  split
  · rename_i q
    split
    · exact ab_no h
    · rename_i y hy
      obtain ⟨qq, hy2⟩ := hdAt_some hy
      split
      · split
        · exact ab_no h
        · have := h.1.2.2.2.2.2.2.2.1
          exact ab_yes h (ok_sight h.1 (by omega) ⟨by show x.toNat < _; omega, by show d.toNat ≤ 1000000; omega, fun z hz => by
            have : y = z := Option.some.inj (hy2.symm.trans hz)
            subst this
            show k.toNat < y.1
            omega⟩)
      · exact ab_no h
  · exact ab_no h
theorem ab_image {z : Int} (h : AbOK A) : AbOK (s_image A z).2 := by
  unfold s_image
  split
  · exact ok_was (ok_img h)
  · exact ab_no h
theorem ab_back {z : Int} (h : AbOK A) : AbOK (s_back A z).2 := by
  unfold s_back
  split
  · split
    · exact ab_no h
    · rename_i c hc; exact ab_yes h (h.2.1 _ c hc)
  · exact ab_no h
theorem ab_end {z : Int} (h : AbOK A) : AbOK (s_end A z).2 := by
  unfold s_end
  split
  · refine ⟨h.1, h.2.1, ?_, fun t ht => h.2.2.2.1 t (List.mem_of_mem_take ht), h.2.2.2.2⟩
    show ((tap A).take z.toNat).length ≤ 400
    have := h.2.2.1
    rw [List.length_take]; omega
  · exact h
theorem byt_le (v s : Int32) : byt v s ≤ 255 := by have := Nat.mod_lt ((v >>> (s &&& 31)).toBitVec.toNat) (show 0 < 256 by decide); unfold byt; omega
theorem byt4_ok {v : Int32} {t : Nat} (h : t ∈ byt4 v) : t ≤ 255 := by
  unfold byt4 at h
  simp only [List.mem_cons, List.not_mem_nil, or_false] at h
  rcases h with rfl | rfl | rfl | rfl <;> exact byt_le _ _
theorem ab_feed {a b c d e : Int32} (h : AbOK A) : AbOK (s_feed A a b c d e).2 := by
  unfold s_feed
  split
  · rename_i q
    refine ⟨h.1, h.2.1, ?_, fun t ht => ?_, h.2.2.2.2⟩
    · show ((tap A) ++ _).length ≤ 400
      rw [List.length_append]
      exact q
    · have ht2 : t ∈ tap A ++ (byt4 a ++ byt4 b ++ byt4 c ++ byt4 d ++ byt4 e) := ht
      rcases List.mem_append.mp ht2 with z | z
      · exact h.2.2.2.1 t z
      · simp only [List.mem_append] at z
        rcases z with (((z | z) | z) | z) | z <;> exact byt4_ok z
  · exact h
theorem ab_law (h : AbOK A) : AbOK (s_law A).2 := by
  have h6 := h.1.2.2.2.2.1
  have ht : AbOK (tapA A []) := ⟨h.1, h.2.1, Nat.zero_le _, fun t ht => (by cases ht), h.2.2.2.2⟩
  have hf : ∀ z, AbOK (fltA A z) := fun z => ⟨h.1, h.2.1, by first | exact h.2.2.1 | exact Nat.zero_le _, by first | exact h.2.2.2.1 | exact fun t ht => (by cases ht), h.2.2.2.2⟩
  unfold s_law
  split
  · exact ab_no ht
  · split
    · exact ab_no (hf _)
    · exact ab_yes (hf _) (ok_lawN h.1 (by omega))
theorem ab_mount {x p q : Int} (h : AbOK A) : AbOK (s_mount A x p q).2 := by
  unfold s_mount
  split
  · split
    · exact ab_no h
    · rename_i y hy
      obtain ⟨qq, hy2⟩ := hdAt_some hy
      have hY := h.1.2.1 y (List.mem_of_getElem? hy2)
      split
      · rename_i hs
        have hn := nearV (s := stk (cor A)) (p := p.toNat) (q := q.toNat)
        have hn0 := nearF_1 (s := stk (cor A)) (p := p.toNat) (q := q.toNat) (by omega)
        rcases hn with z | ⟨z1, z2⟩
        · exact absurd z hn0
        · have k := trN_hd hY (s := stk (cor A)) ⟨h.1.2.2.1, h.1.2.2.2.1⟩ z1 z2 (trN (stk (cor A)) (nearF (stk (cor A)) p.toNat q.toNat)).length
          rw [List.take_length] at k
          exact ab_yes h (ok_hand h.1 hy2 rfl k)
      · exact ab_no h
  · exact ab_no h
end ABK
theorem ab_row {A : Ab} (h : AbOK A) : AbOK (s_row A).2 := by
  unfold s_row
  split
  · exact ab_no h
  · have k := rowF_ok (ts := tap A) h.1.2.2.1 h.1.2.2.2.1
    exact ⟨stk_ok h.1 k.1 k.2, h.2.1, Nat.zero_le _, fun t ht => (by cases ht), h.2.2.2.2⟩
theorem ab_storm {A : Ab} {s d n : Int} (h : AbOK A) : AbOK (s_storm A s d n).2 := by
  unfold s_storm
  split
  · refine ⟨h.1, h.2.1, h.2.2.1, h.2.2.2.1, ?_⟩
    show (stmL _ _ _ _).length ≤ 6
    rw [stmL_len]; exact h.1.1
  · exact ok_tell h
-- between the two
theorem RepX.frm {T : mT} {I I' : mI} {J J' : mJ} {F : mF} {x : Nat} {A : Ab} (h : RepX T I J F x A) (hA : AbOK A) (f1 : Frm (x + 90) I I') (f2 : Frm (x + 90) J J') : RepX T I' J' F x A := by
  have e1 : ∀ b, (b < x + 90 ∨ x + 110 < b) → I' b = I b := fun b hb => f1 b (by omega)
  have e2 : ∀ b, (b < x + 90 ∨ x + 110 < b) → J' b = J b := fun b hb => f2 b (by omega)
  obtain ⟨h1, h2, h3, ⟨⟨h4, h5⟩, h6, h7⟩, h8, h9, h10⟩ := h
  have hC : ∀ {u : Nat} {c : Core}, StX T I J F (x + 111) u c → CoreOK c → (u = x + 1 ∨ u = x + 50 ∨ u = x + 70) → StX T I' J' F (x + 111) u c := fun {u c} hs hc hu => hs.congr hc (fun _ _ z => z) (fun b _ _ => e1 b (by omega)) (fun b _ _ => e2 b (by omega)) (fun b hb hb2 => e1 b (by omega)) (fun b hb hb2 => rfl) rfl
  exact ⟨by rw [e1 _ (by omega)]; exact h1, by rw [e1 _ (by omega)]; exact h2, hC h3 hA.1 (by omega), ⟨⟨by rw [e1 _ (by omega)]; exact h4, fun c hc => hC (h5 c hc) (hA.2.1 0 c hc) (by omega)⟩, by rw [e1 _ (by omega)]; exact h6, fun c hc => hC (h7 c hc) (hA.2.1 1 c hc) (by omega)⟩, h8, fun i t hi => by rw [e1 _ (by omega)]; exact h9 i t hi, by rw [e1 _ (by omega), e1 (x + 47) (by omega), e1 (x + 48) (by omega)]; exact h10⟩
theorem RepM.rows {I I' : mI} {J J' : mJ} {m : Nat} {A : Ab} (h : RepM I J m A) (f1 : ∀ b, m ≤ b → b ≤ m + 20 → I' b = I b) (f2 : ∀ b, m ≤ b → b ≤ m + 20 → J' b = J b) : RepM I' J' m A := by
  obtain ⟨h1, h2, h3, h4, h5, h6, h7⟩ := h
  refine ⟨by rw [f1 _ (by omega) (by omega)]; exact h1, by rw [f1 _ (by omega) (by omega)]; exact h2, by rw [f1 _ (by omega) (by omega)]; exact h3, fun k hk => ?_, fun i t hi => ?_, fun h x hx => ?_, by rw [f2 _ (by omega) (by omega)]; exact h7⟩
  · rw [f1 _ (by omega) (by omega), f1 (m + 3) (by omega) (by omega)]; exact h4 k hk
  · rw [f1 _ (by omega) (by omega)]; exact h5 i t hi
  · rw [f1 _ (by omega) (by omega), f1 (m + 19) (by omega) (by omega)]; exact h6 h x hx
theorem MS.mono {T T' : mT} {F F' : mF} {m : Nat} (h : MS T F m) (hT : ∀ a sh, T a = some sh → T' a = some sh) (hF : F' m = F m) : MS T' F' m := by
  unfold MS at h ⊢
  rw [hF]
  obtain ⟨h0, h1, h2, h3, h4, h5, h6, h7, h8, h9, h10, h11, h12, h13, h14, h15, h16, h17, h18, h19, h20⟩ := h
  exact ⟨hT _ _ h0, ⟨h1.1, hT _ _ h1.2⟩, ⟨h2.1, hT _ _ h2.2⟩, ⟨h3.1, hT _ _ h3.2⟩, ⟨h4.1, hT _ _ h4.2⟩, ⟨h5.1, hT _ _ h5.2⟩, ⟨h6.1, hT _ _ h6.2⟩, ⟨h7.1, hT _ _ h7.2⟩, ⟨h8.1, hT _ _ h8.2⟩, ⟨h9.1, hT _ _ h9.2⟩, ⟨h10.1, hT _ _ h10.2⟩, ⟨h11.1, hT _ _ h11.2⟩, ⟨h12.1, hT _ _ h12.2⟩, ⟨h13.1, hT _ _ h13.2⟩, ⟨h14.1, hT _ _ h14.2⟩, ⟨h15.1, hT _ _ h15.2⟩, ⟨h16.1, hT _ _ h16.2⟩, ⟨h17.1, hT _ _ h17.2⟩, ⟨h18.1, hT _ _ h18.2⟩, ⟨h19.1, hT _ _ h19.2⟩, ⟨h20.1, hT _ _ h20.2⟩⟩
/-- the class's clock at x and the reference's behind it stand for the same -/
def LI (x : Nat) (A : Ab) (k : Nat) (T : mT) (n : Nat) (I : mI) (J : mJ) (F : mF) : Prop := XS T F x ∧ RepX T I J F x A ∧ MS T F (x + 90) ∧ RepM I J (x + 90) A ∧ AbOK A ∧ LKn T F x k ∧ x + 111 ≤ n
/-- behind the class's call -/
def LJ (x : Nat) (A A' : Ab) (k : Nat) (T : mT) (n : Nat) (I : mI) (J : mJ) (F : mF) : Prop := XS T F x ∧ RepX T I J F x A' ∧ MS T F (x + 90) ∧ RepM I J (x + 90) A ∧ AbOK A ∧ LKn T F x k ∧ x + 111 ≤ n
theorem LI.cls {x k k' n n' : Nat} {A A' : Ab} {T T' : mT} {I I' : mI} {J J' : mJ} {F F' : mF} {r S : Option Value} (h : LI x A k T n I J F) (q : QS x T n I J F S A' k' r T' n' I' J' F') : r = S ∧ LJ x A A' k' T' n' I' J' F' := by
  obtain ⟨h1, h2, h3, h4, h5, h6, h7⟩ := h
  obtain ⟨q1, q2, q3, q4, q5, q6, q7, q8, q9⟩ := q
  exact ⟨q1, q7, q8, h3.mono q2 (q6 _ (by omega) (by omega)), h4.rows (fun b b1 b2 => q4 b (by omega) (by omega)) (fun b b1 b2 => q5 b (by omega) (by omega)), h5, q9, by omega⟩
theorem LJ.ref {x k n n' : Nat} {A A' : Ab} {T T' : mT} {I I' : mI} {J J' : mJ} {F F' : mF} {r S : Option Value} (h : LJ x A A' k T n I J F) (hA : AbOK A') (q : QM (x + 90) T n I J F S A' r T' n' I' J' F') : r = S ∧ LI x A' k T' n' I' J' F' := by
  obtain ⟨h1, h2, h3, h4, h5, h6, h7⟩ := h
  obtain ⟨q1, rfl, rfl, rfl, q4, q5, q6⟩ := q
  exact ⟨q1, h1, h2.frm hA q4 q5, h3, q6, hA, h6, h7⟩
