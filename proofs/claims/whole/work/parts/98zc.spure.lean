-- the class goes through the rows in order only: that finds the same
def v4 (S c : Nat) : Bool := vld S 4 c && decide (dg 4 c 0 < dg 4 c 2 ∧ dg 4 c 1 < dg 4 c 3)
theorem dg4 (c : Nat) : dg 4 c 0 = c / 4096 % 16 ∧ dg 4 c 1 = c / 256 % 16 ∧ dg 4 c 2 = c / 16 % 16 ∧ dg 4 c 3 = c % 16 := ⟨rfl, rfl, rfl, rfl⟩
theorem vld4_iff {S c : Nat} : vld S 4 c = true ↔ c < 65536 ∧ (dg 4 c 0 < S ∧ dg 4 c 1 < S ∧ dg 4 c 2 < S ∧ dg 4 c 3 < S) ∧ (dg 4 c 0 ≠ dg 4 c 1 ∧ dg 4 c 0 ≠ dg 4 c 2 ∧ dg 4 c 0 ≠ dg 4 c 3) ∧ (dg 4 c 1 ≠ dg 4 c 2 ∧ dg 4 c 1 ≠ dg 4 c 3) ∧ dg 4 c 2 ≠ dg 4 c 3 := by
  rw [vld, if_neg (by decide)]
  exact decide_eq_true_iff
theorem dig4d {a b x y : Nat} (ha : a < 16) (hb : b < 16) (hx : x < 16) (hy : y < 16) : 4096 * a + 256 * b + 16 * x + y < 65536 ∧ dg 4 (4096 * a + 256 * b + 16 * x + y) 0 = a ∧ dg 4 (4096 * a + 256 * b + 16 * x + y) 1 = b ∧ dg 4 (4096 * a + 256 * b + 16 * x + y) 2 = x ∧ dg 4 (4096 * a + 256 * b + 16 * x + y) 3 = y := dig4 ha hb hx hy rfl
theorem dg_lt (c i : Nat) : dg 4 c i < 16 := by
  unfold dg
  rw [if_neg (by decide)]
  split
  · omega
  · split
    · omega
    · split <;> omega
theorem dg_sum {c : Nat} (h : c < 65536) : c = 4096 * dg 4 c 0 + 256 * dg 4 c 1 + 16 * dg 4 c 2 + dg 4 c 3 := by
  obtain ⟨e0, e1, e2, e3⟩ := dg4 c
  rw [e0, e1, e2, e3]; omega
theorem swp {S c : Nat} (h : vld S 4 c = true) (hn : ¬ (dg 4 c 0 < dg 4 c 2 ∧ dg 4 c 1 < dg 4 c 3)) : ∃ c', c' < c ∧ vld S 4 c' = true ∧ ((dg 4 c' 0 = dg 4 c 2 ∧ dg 4 c' 1 = dg 4 c 1 ∧ dg 4 c' 2 = dg 4 c 0 ∧ dg 4 c' 3 = dg 4 c 3) ∨ (dg 4 c' 0 = dg 4 c 0 ∧ dg 4 c' 1 = dg 4 c 3 ∧ dg 4 c' 2 = dg 4 c 2 ∧ dg 4 c' 3 = dg 4 c 1)) := by
  obtain ⟨h0, ⟨s0, s1, s2, s3⟩, ⟨n1, n2, n3⟩, ⟨n4, n5⟩, n6⟩ := vld4_iff.mp h
  have hs := dg_sum h0
  have l0 := dg_lt c 0
  have l1 := dg_lt c 1
  have l2 := dg_lt c 2
  have l3 := dg_lt c 3
  generalize dg 4 c 0 = a at *
  generalize dg 4 c 1 = b at *
  generalize dg 4 c 2 = x at *
  generalize dg 4 c 3 = y at *
  by_cases q : a < x
  · obtain ⟨e, e0, e1, e2, e3⟩ := dig4d l0 l3 l2 l1
    refine ⟨_, by omega, vld4_iff.mpr ⟨e, ?_⟩, Or.inr ⟨e0, e1, e2, e3⟩⟩
    rw [e0, e1, e2, e3]
    exact ⟨⟨s0, s3, s2, s1⟩, ⟨n3, n2, n1⟩, ⟨fun z => n6 z.symm, fun z => n5 z.symm⟩, fun z => n4 z.symm⟩
  · obtain ⟨e, e0, e1, e2, e3⟩ := dig4d l2 l1 l0 l3
    refine ⟨_, by omega, vld4_iff.mpr ⟨e, ?_⟩, Or.inl ⟨e0, e1, e2, e3⟩⟩
    rw [e0, e1, e2, e3]
    exact ⟨⟨s2, s1, s0, s3⟩, ⟨fun z => n4 z.symm, fun z => n2 z.symm, n6⟩, ⟨fun z => n1 z.symm, n5⟩, n3⟩
theorem swp_r {s : List Nat} {c c' : Nat} (h : (dg 4 c' 0 = dg 4 c 2 ∧ dg 4 c' 1 = dg 4 c 1 ∧ dg 4 c' 2 = dg 4 c 0 ∧ dg 4 c' 3 = dg 4 c 3) ∨ (dg 4 c' 0 = dg 4 c 0 ∧ dg 4 c' 1 = dg 4 c 3 ∧ dg 4 c' 2 = dg 4 c 2 ∧ dg 4 c' 3 = dg 4 c 1)) : drvN s 4 c' = drvN s 4 c ∧ drnN s 4 c' = drnN s 4 c := by
  unfold drvN drnN
  rw [if_neg (by decide), if_neg (by decide), if_neg (by decide), if_neg (by decide)]
  rcases h with ⟨h0, h1, h2, h3⟩ | ⟨h0, h1, h2, h3⟩
  · rw [h0, h1, h2, h3]; exact ⟨Nat.mul_comm _ _, rfl⟩
  · rw [h0, h1, h2, h3]; exact ⟨rfl, Nat.mul_comm _ _⟩
def offN2 (s : List Nat) (p q N c : Nat) : Nat := absN (drvN s N c * q) (drnN s N c * p)
def NBest (s : List Nat) (p q N cur : Nat) (b : NSt) : Prop := ∀ c, c < cur → vld s.length N c = true → b.1 ≠ 0 ∧ b.2.1 * drnN s N c ≤ offN2 s p q N c * b.2.2.1
theorem NBest.step {s : List Nat} {p q N cur : Nat} {b : NSt} (h : NBest s p q N cur b) (hN : N = 2 ∨ N = 4) (hok : NSOK b) : NBest s p q N (cur + 1) (nstep s p q N cur b) := by
  intro c hc hv
  unfold nstep
  split
  · rename_i z
    refine ⟨by show N / 2 ≠ 0; omega, ?_⟩
    show offN2 s p q N cur * drnN s N c ≤ offN2 s p q N c * drnN s N cur
    by_cases e : c = cur
    · subst e; exact Nat.le_refl _
    · obtain ⟨h1, h2⟩ := h c (by omega) hv
      rcases z with z | z
      · exact absurd z h1
      · have z1 : offN2 s p q N cur * b.2.2.1 < b.2.1 * drnN s N cur := z
        have k1 := hok.2.2.2 h1
        generalize offN2 s p q N cur = A at *
        generalize offN2 s p q N c = B at *
        generalize drnN s N cur = D at *
        generalize drnN s N c = E at *
        generalize b.2.1 = U at *
        generalize b.2.2.1 = W at *
        have w1 : A * W * E ≤ U * D * E := Nat.mul_le_mul_right _ (Nat.le_of_lt z1)
        have w2 : U * E * D ≤ B * W * D := Nat.mul_le_mul_right _ h2
        have w3 : W * (A * E) ≤ W * (B * D) := by
          have e1 : A * W * E = W * (A * E) := by rw [Nat.mul_comm A W, Nat.mul_assoc]
          have e2 : U * D * E = U * E * D := by rw [Nat.mul_assoc, Nat.mul_comm D E, ← Nat.mul_assoc]
          have e3 : B * W * D = W * (B * D) := by rw [Nat.mul_comm B W, Nat.mul_assoc]
          omega
        exact Nat.le_of_mul_le_mul_left w3 (by omega)
  · rename_i z
    by_cases e : c = cur
    · subst e
      exact ⟨fun y => z (Or.inl y), Nat.le_of_not_lt (fun y => z (Or.inr y))⟩
    · exact h c (by omega) hv
theorem near_eq {s : List Nat} {p q : Nat} {b0 : NSt} (hs : StkOK s) (hp : p ≤ 100000) (hq : q ≤ 100000) (hb : NSOK b0) : ∀ c, foldP (v4 s.length) (nstep s p q 4) c b0 = foldP (vld s.length 4) (nstep s p q 4) c b0 ∧ NBest s p q 4 c (foldP (vld s.length 4) (nstep s p q 4) c b0)
  | 0 => ⟨rfl, fun c h => absurd h (by omega)⟩
  | c + 1 => by
    obtain ⟨h1, h2⟩ := near_eq hs hp hq hb c
    have hok : NSOK (foldP (vld s.length 4) (nstep s p q 4) c b0) := foldP_ok (pr := vld s.length 4) (f := nstep s p q 4) (P := NSOK) (fun c b hv hb => nstep_ok hs (Or.inr rfl) hv hp hq hb) c b0 hb
    have h3 := h2.step (Or.inr rfl) hok
    rw [foldP, foldP, h1]
    generalize foldP (vld s.length 4) (nstep s p q 4) c b0 = B at *
    by_cases hv : vld s.length 4 c = true
    · rw [if_pos hv]
      refine ⟨?_, h3⟩
      by_cases hd : dg 4 c 0 < dg 4 c 2 ∧ dg 4 c 1 < dg 4 c 3
      · rw [if_pos (by rw [v4, hv]; exact decide_eq_true hd)]
      · rw [if_neg (by rw [v4, hv, decide_eq_false hd]; decide)]
        obtain ⟨c', e1, e2, e3⟩ := swp hv hd
        obtain ⟨r1, r2⟩ := swp_r (s := s) e3
        obtain ⟨b1, b2⟩ := h2 c' e1 e2
        unfold offN2 at b2
        rw [r1, r2] at b2
        rw [nstep, if_neg]
        intro z
        rcases z with z | z
        · exact b1 z
        · exact absurd b2 (Nat.not_le_of_lt z)
    · rw [if_neg hv, if_neg (by rw [v4]; simp [hv])]
      refine ⟨rfl, fun x hx hxv => ?_⟩
      by_cases e : x = c
      · subst e; exact absurd hxv hv
      · exact h2 x (by omega) hxv
def nearG (s : List Nat) (p q : Nat) : NSt := foldP (v4 s.length) (nstep s p q 4) 65536 (foldP (vld s.length 2) (nstep s p q 2) 256 (0, 0, 0, 0))
theorem nearG_eq {s : List Nat} {p q : Nat} (hs : StkOK s) (hp : p ≤ 100000) (hq : q ≤ 100000) : nearG s p q = nearF s p q := by
  rw [nearG, nearF]
  exact (near_eq hs hp hq (nearOK2 hs hp hq) 65536).1
