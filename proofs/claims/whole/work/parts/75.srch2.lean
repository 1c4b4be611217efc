-- trains of the stock by codes; the nearest
def stT (s : List Nat) (i : Nat) : Nat := s.getD i 0
def drvN (s : List Nat) (N c : Nat) : Nat := if N = 2 then stT s (dg 2 c 0) else stT s (dg 4 c 0) * stT s (dg 4 c 2)
def drnN (s : List Nat) (N c : Nat) : Nat := if N = 2 then stT s (dg 2 c 1) else stT s (dg 4 c 1) * stT s (dg 4 c 3)
def StkOK (s : List Nat) : Prop := s.length ≤ 12 ∧ ∀ t ∈ s, 6 ≤ t ∧ t ≤ 120
theorem stT_bd {s : List Nat} (h : StkOK s) {i : Nat} (hi : i < s.length) : 6 ≤ stT s i ∧ stT s i ≤ 120 := by
  have := h.2 _ (List.getElem_mem hi)
  unfold stT
  rw [List.getD_eq_getElem?_getD, List.getElem?_eq_getElem hi]
  exact this
theorem vld_dg {S N c i : Nat} (hN : N = 2 ∨ N = 4) (h : vld S N c = true) (hi : i < N) : dg N c i < S := by
  rcases hN with rfl | rfl
  · rw [vld, if_pos rfl] at h
    have := of_decide_eq_true h
    rcases (show i = 0 ∨ i = 1 by omega) with rfl | rfl
    · exact this.2.1
    · exact this.2.2.1
  · rw [vld, if_neg (by decide)] at h
    have := of_decide_eq_true h
    rcases (show i = 0 ∨ i = 1 ∨ i = 2 ∨ i = 3 by omega) with rfl | rfl | rfl | rfl
    · exact this.2.1.1
    · exact this.2.1.2.1
    · exact this.2.1.2.2.1
    · exact this.2.1.2.2.2
theorem drvN_bd {s : List Nat} (hs : StkOK s) {N c : Nat} (hN : N = 2 ∨ N = 4) (h : vld s.length N c = true) : 1 ≤ drvN s N c ∧ drvN s N c ≤ 14400 := by
  rcases hN with rfl | rfl
  · have := stT_bd hs (vld_dg (i := 0) (Or.inl rfl) h (by omega))
    rw [drvN, if_pos rfl]; omega
  · have a := stT_bd hs (vld_dg (i := 0) (Or.inr rfl) h (by omega))
    have b := stT_bd hs (vld_dg (i := 2) (Or.inr rfl) h (by omega))
    rw [drvN, if_neg (by decide)]
    exact ⟨Nat.le_trans (by decide) (Nat.mul_le_mul a.1 b.1), Nat.le_trans (Nat.mul_le_mul a.2 b.2) (by decide)⟩
theorem drnN_bd {s : List Nat} (hs : StkOK s) {N c : Nat} (hN : N = 2 ∨ N = 4) (h : vld s.length N c = true) : 1 ≤ drnN s N c ∧ drnN s N c ≤ 14400 := by
  rcases hN with rfl | rfl
  · have := stT_bd hs (vld_dg (i := 1) (Or.inl rfl) h (by omega))
    rw [drnN, if_pos rfl]; omega
  · have a := stT_bd hs (vld_dg (i := 1) (Or.inr rfl) h (by omega))
    have b := stT_bd hs (vld_dg (i := 3) (Or.inr rfl) h (by omega))
    rw [drnN, if_neg (by decide)]
    exact ⟨Nat.le_trans (by decide) (Nat.mul_le_mul a.1 b.1), Nat.le_trans (Nat.mul_le_mul a.2 b.2) (by decide)⟩
/-- the search so far: pairs, by how much off, the product of the driven, the row's code -/
abbrev NSt : Type := Nat × Nat × Nat × Nat
def nstep (s : List Nat) (p q N c : Nat) (b : NSt) : NSt := if b.1 = 0 ∨ absN (drvN s N c * q) (drnN s N c * p) * b.2.2.1 < b.2.1 * drnN s N c then (N / 2, absN (drvN s N c * q) (drnN s N c * p), drnN s N c, c) else b
def nearF (s : List Nat) (p q : Nat) : NSt := foldP (vld s.length 4) (nstep s p q 4) 65536 (foldP (vld s.length 2) (nstep s p q 2) 256 (0, 0, 0, 0))
def NSOK (b : NSt) : Prop := b.1 ≤ 2 ∧ b.2.1 ≤ 1440000000 ∧ b.2.2.1 ≤ 14400 ∧ (b.1 ≠ 0 → 1 ≤ b.2.2.1)
theorem absN_le (a b : Nat) {k : Nat} (ha : a ≤ k) (hb : b ≤ k) : absN a b ≤ k := by unfold absN; split <;> omega
theorem nstep_ok {s : List Nat} {p q N c : Nat} {b : NSt} (hs : StkOK s) (hN : N = 2 ∨ N = 4) (h : vld s.length N c = true) (hp : p ≤ 100000) (hq : q ≤ 100000) (hb : NSOK b) : NSOK (nstep s p q N c b) := by
  unfold nstep
  split
  · have a := drvN_bd hs hN h
    have d := drnN_bd hs hN h
    exact ⟨by show N / 2 ≤ 2; omega, absN_le _ _ (Nat.le_trans (Nat.mul_le_mul a.2 hq) (by decide)) (Nat.le_trans (Nat.mul_le_mul d.2 hp) (by decide)), d.2, fun _ => d.1⟩
  · exact hb
theorem foldP_ok {σ : Type} {pr : Nat → Bool} {f : Nat → σ → σ} {P : σ → Prop} (h : ∀ c b, pr c = true → P b → P (f c b)) : ∀ (c : Nat) (s : σ), P s → P (foldP pr f c s)
  | 0, _, hs => hs
  | c + 1, s, hs => by
    rw [foldP]
    split
    · exact h c _ (by assumption) (foldP_ok h c s hs)
    · exact foldP_ok h c s hs
def trN (s : List Nat) (b : NSt) : List (Nat × Nat) := if b.1 = 0 then [] else if b.1 = 1 then [(stT s (dg 2 b.2.2.2 0), stT s (dg 2 b.2.2.2 1))] else [(stT s (dg 4 b.2.2.2 0), stT s (dg 4 b.2.2.2 1)), (stT s (dg 4 b.2.2.2 2), stT s (dg 4 b.2.2.2 3))]
def s_nearest (A : Ab) (p q w : Int) : Int := if ((1 ≤ p ∧ p ≤ 100000) ∧ (1 ≤ q ∧ q ≤ 100000)) ∧ (0 ≤ w ∧ w ≤ 4) ∧ 1 < (stk (cor A)).length then (if w = 0 then ((nearF (stk (cor A)) p.toNat q.toNat).1 : Int) else if w ≤ 2 * (nearF (stk (cor A)) p.toNat q.toNat).1 then (dg (2 * (nearF (stk (cor A)) p.toNat q.toNat).1) (nearF (stk (cor A)) p.toNat q.toNat).2.2.2 (w.toNat - 1) : Int) else -1) else -1
def s_near (A : Ab) (p q w : Int) : Int := if ((1 ≤ p ∧ p ≤ 100000) ∧ (1 ≤ q ∧ q ≤ 100000)) ∧ (0 ≤ w ∧ w ≤ 1) ∧ 1 < (stk (cor A)).length then (if w = 0 then (((nearF (stk (cor A)) p.toNat q.toNat).2.1 / Nat.gcd (nearF (stk (cor A)) p.toNat q.toNat).2.1 ((nearF (stk (cor A)) p.toNat q.toNat).2.2.1 * q.toNat) : Nat) : Int) else (((nearF (stk (cor A)) p.toNat q.toNat).2.2.1 * q.toNat / Nat.gcd (nearF (stk (cor A)) p.toNat q.toNat).2.1 ((nearF (stk (cor A)) p.toNat q.toNat).2.2.1 * q.toNat) : Nat) : Int)) else -1
def s_mount (A : Ab) (h p q : Int) : Int × Ab := if (1 ≤ p ∧ p ≤ 100000) ∧ (1 ≤ q ∧ q ≤ 100000) then (match hdAt (cor A) h with
  | none => okNo A (-2)
  | some y => if 1 < (stk (cor A)).length then okYes A (nearF (stk (cor A)) p.toNat q.toNat).1 (hdsC (cor A) ((hds (cor A)).set h.toNat (y.1, y.2.1, y.2.2.1, trN (stk (cor A)) (nearF (stk (cor A)) p.toNat q.toNat)))) else okNo A (-2)) else okNo A (-1)
theorem nov288 {S : Nat} : NoV S 4 0 288 := by
  intro c _ h
  by_cases a : c < 256
  · exact vld4_no (Or.inl (by omega))
  · by_cases b : c < 272
    · exact vld4_no (Or.inr (Or.inl (by omega)))
    · exact vld4_no (Or.inr (Or.inr (Or.inr (Or.inl (by omega)))))
theorem vld_small {S c : Nat} (h : S < 4) : vld S 4 c = false := by
  rw [vld, if_neg (by decide)]
  refine decide_eq_false (fun z => ?_)
  obtain ⟨-, z0, z1, z2, z3⟩ := z
  omega
theorem foldP_none {σ : Type} {pr : Nat → Bool} {f : Nat → σ → σ} {s : σ} (h : ∀ c, pr c = false) : ∀ c, foldP pr f c s = s
  | 0 => rfl
  | c + 1 => by rw [foldP, h c]; exact foldP_none h c
