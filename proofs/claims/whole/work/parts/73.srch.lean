-- rows of wheels of the stock, as numbers: a digit (by 16) a wheel
def vld (S N c : Nat) : Bool := if N = 2 then decide (c < 256 ∧ c / 16 % 16 < S ∧ c % 16 < S ∧ c / 16 % 16 ≠ c % 16) else decide (c < 65536 ∧ (c / 4096 % 16 < S ∧ c / 256 % 16 < S ∧ c / 16 % 16 < S ∧ c % 16 < S) ∧ (c / 4096 % 16 ≠ c / 256 % 16 ∧ c / 4096 % 16 ≠ c / 16 % 16 ∧ c / 4096 % 16 ≠ c % 16) ∧ (c / 256 % 16 ≠ c / 16 % 16 ∧ c / 256 % 16 ≠ c % 16) ∧ c / 16 % 16 ≠ c % 16)
def totC (N : Nat) : Nat := if N = 2 then 256 else 65536
def dg (N c i : Nat) : Nat := if N = 2 then (if i = 0 then c / 16 % 16 else c % 16) else if i = 0 then c / 4096 % 16 else if i = 1 then c / 256 % 16 else if i = 2 then c / 16 % 16 else c % 16
def pz (k i x : Nat) : Nat := if i < k then x - 1 else if i = k then x else 0
def posC (N k : Nat) (e : Nat → Nat) : Nat := if N = 2 then 16 * pz k 0 (e 0) + pz k 1 (e 1) else 4096 * pz k 0 (e 0) + 256 * pz k 1 (e 1) + 16 * pz k 2 (e 2) + pz k 3 (e 3)
def NoV (S N a b : Nat) : Prop := ∀ c, a ≤ c → c < b → vld S N c = false
theorem NoV.tr {S N a b c : Nat} (h1 : NoV S N a b) (h2 : NoV S N b c) : NoV S N a c := fun x h3 h4 => by
  by_cases q : x < b
  · exact h1 x h3 q
  · exact h2 x (by omega) h4
def upN1 (e : Nat → Nat) (k v : Nat) : Nat → Nat := fun i => if i = k then v else e i
theorem upN1_same {e : Nat → Nat} {k v : Nat} : upN1 e k v k = v := if_pos rfl
theorem upN1_ne {e : Nat → Nat} {k v i : Nat} (h : i ≠ k) : upN1 e k v i = e i := if_neg h
theorem k4 {N k : Nat} (hN : N = 2 ∨ N = 4) (hk : k < N) : (N = 2 ∧ k = 0) ∨ (N = 2 ∧ k = 1) ∨ (N = 4 ∧ k = 0) ∨ (N = 4 ∧ k = 1) ∨ (N = 4 ∧ k = 2) ∨ (N = 4 ∧ k = 3) := by omega
theorem pos_back {S N k : Nat} {e : Nat → Nat} (hN : N = 2 ∨ N = 4) (hk : k < N) (h0 : 0 < k) (hS : S ≤ 12) (h1 : ∀ i, i < k → 1 ≤ e i ∧ e i ≤ S) (he : e k = S) : NoV S N (posC N k e) (posC N (k - 1) e) ∧ posC N k e < posC N (k - 1) e := by
  rcases k4 hN hk with ⟨rfl, rfl⟩ | ⟨rfl, rfl⟩ | ⟨rfl, rfl⟩ | ⟨rfl, rfl⟩ | ⟨rfl, rfl⟩ | ⟨rfl, rfl⟩
  · omega
  · have := h1 0 (by omega)
    refine ⟨fun c a b => ?_, ?_⟩
    · simp [posC, pz] at a b; simp [vld]; omega
    · simp [posC, pz]; omega
  · omega
  · have := h1 0 (by omega)
    refine ⟨fun c a b => ?_, ?_⟩
    · simp [posC, pz] at a b; simp [vld]; omega
    · simp [posC, pz]; omega
  · have := h1 0 (by omega)
    have := h1 1 (by omega)
    refine ⟨fun c a b => ?_, ?_⟩
    · simp [posC, pz] at a b; simp [vld]; omega
    · simp [posC, pz]; omega
  · have := h1 0 (by omega)
    have := h1 1 (by omega)
    have := h1 2 (by omega)
    refine ⟨fun c a b => ?_, ?_⟩
    · simp [posC, pz] at a b; simp [vld]; omega
    · simp [posC, pz]; omega
theorem pos_end {S N : Nat} {e : Nat → Nat} (hN : N = 2 ∨ N = 4) (he : e 0 = S) : NoV S N (posC N 0 e) (totC N) := by
  rcases hN with rfl | rfl
  · intro c a b; simp [posC, pz] at a; simp [totC] at b; simp [vld]; omega
  · intro c a b; simp [posC, pz] at a; simp [totC] at b; simp [vld]; omega
theorem vld2_no {S c : Nat} (h : c / 16 % 16 = c % 16) : vld S 2 c = false := by rw [vld, if_pos rfl]; exact decide_eq_false (fun z => z.2.2.2 h)
theorem vld4_no {S c : Nat} (h : c / 4096 % 16 = c / 256 % 16 ∨ c / 4096 % 16 = c / 16 % 16 ∨ c / 4096 % 16 = c % 16 ∨ c / 256 % 16 = c / 16 % 16 ∨ c / 256 % 16 = c % 16 ∨ c / 16 % 16 = c % 16) : vld S 4 c = false := by
  rw [vld, if_neg (by decide)]
  refine decide_eq_false (fun z => ?_)
  obtain ⟨-, -, ⟨z1, z2, z3⟩, ⟨z4, z5⟩, z6⟩ := z
  rcases h with h | h | h | h | h | h
  · exact z1 h
  · exact z2 h
  · exact z3 h
  · exact z4 h
  · exact z5 h
  · exact z6 h
theorem pos_same {S N k i : Nat} {e : Nat → Nat} (hN : N = 2 ∨ N = 4) (hk : k < N) (hS : S ≤ 12) (h1 : ∀ i, i < k → 1 ≤ e i ∧ e i ≤ S) (he : e k ≤ S) (hi : i < k) (hs : e i - 1 = e k) : NoV S N (posC N k e) (posC N k (upN1 e k (e k + 1))) := by
  rcases k4 hN hk with ⟨rfl, rfl⟩ | ⟨rfl, rfl⟩ | ⟨rfl, rfl⟩ | ⟨rfl, rfl⟩ | ⟨rfl, rfl⟩ | ⟨rfl, rfl⟩
  · omega
  · have := h1 0 (by omega)
    obtain rfl : i = 0 := by omega
    intro c a b; simp [posC, pz, upN1] at a b
    have d0 : c / 16 % 16 = e 0 - 1 := by clear hs; omega
    have d1 : c % 16 = e 1 := by clear hs; omega
    exact vld2_no (by rw [d0, d1, hs])
  · omega
  · have := h1 0 (by omega)
    obtain rfl : i = 0 := by omega
    intro c a b; simp [posC, pz, upN1] at a b
    have d0 : c / 4096 % 16 = e 0 - 1 := by clear hs; omega
    have d1 : c / 256 % 16 = e 1 := by clear hs; omega
    exact vld4_no (Or.inl (by rw [d0, d1, hs]))
  · have := h1 0 (by omega)
    have := h1 1 (by omega)
    intro c a b; simp [posC, pz, upN1] at a b
    have d0 : c / 4096 % 16 = e 0 - 1 := by clear hs; omega
    have d1 : c / 256 % 16 = e 1 - 1 := by clear hs; omega
    have d2 : c / 16 % 16 = e 2 := by clear hs; omega
    rcases (show i = 0 ∨ i = 1 by omega) with rfl | rfl
    · exact vld4_no (Or.inr (Or.inl (by rw [d0, d2, hs])))
    · exact vld4_no (Or.inr (Or.inr (Or.inr (Or.inl (by rw [d1, d2, hs])))))
  · have := h1 0 (by omega)
    have := h1 1 (by omega)
    have := h1 2 (by omega)
    intro c a b; simp [posC, pz, upN1] at a b
    have d0 : c / 4096 % 16 = e 0 - 1 := by clear hs; omega
    have d1 : c / 256 % 16 = e 1 - 1 := by clear hs; omega
    have d2 : c / 16 % 16 = e 2 - 1 := by clear hs; omega
    have d3 : c % 16 = e 3 := by clear hs; omega
    rcases (show i = 0 ∨ i = 1 ∨ i = 2 by omega) with rfl | rfl | rfl
    · exact vld4_no (Or.inr (Or.inr (Or.inl (by rw [d0, d3, hs]))))
    · exact vld4_no (Or.inr (Or.inr (Or.inr (Or.inr (Or.inl (by rw [d1, d3, hs]))))))
    · exact vld4_no (Or.inr (Or.inr (Or.inr (Or.inr (Or.inr (by rw [d2, d3, hs]))))))
theorem pos_lt {N k : Nat} {e : Nat → Nat} (hN : N = 2 ∨ N = 4) (hk : k < N) : posC N k e < posC N k (upN1 e k (e k + 1)) := by
  rcases k4 hN hk with ⟨rfl, rfl⟩ | ⟨rfl, rfl⟩ | ⟨rfl, rfl⟩ | ⟨rfl, rfl⟩ | ⟨rfl, rfl⟩ | ⟨rfl, rfl⟩ <;> (simp [posC, pz, upN1] <;> omega)
theorem pos_bd {S N k : Nat} {e : Nat → Nat} (hN : N = 2 ∨ N = 4) (hk : k < N) (hS : S ≤ 12) (h1 : ∀ i, i < k → 1 ≤ e i ∧ e i ≤ S) (hek : e k ≤ S) : posC N k e < totC N := by
  rcases k4 hN hk with ⟨rfl, rfl⟩ | ⟨rfl, rfl⟩ | ⟨rfl, rfl⟩ | ⟨rfl, rfl⟩ | ⟨rfl, rfl⟩ | ⟨rfl, rfl⟩
  · simp [posC, pz, totC]; omega
  · have := h1 0 (by omega); simp [posC, pz, totC]; omega
  · simp [posC, pz, totC]; omega
  · have := h1 0 (by omega); simp [posC, pz, totC]; omega
  · have := h1 0 (by omega); have := h1 1 (by omega); simp [posC, pz, totC]; omega
  · have := h1 0 (by omega); have := h1 1 (by omega); have := h1 2 (by omega); simp [posC, pz, totC]; omega
theorem pos_down {N k : Nat} {e : Nat → Nat} (hN : N = 2 ∨ N = 4) (hk : k + 1 < N) (h0 : ∀ i, k < i → i < N → e i = 0) : posC N (k + 1) (upN1 e k (e k + 1)) = posC N k e := by
  rcases k4 hN (show k < N by omega) with ⟨rfl, rfl⟩ | ⟨rfl, rfl⟩ | ⟨rfl, rfl⟩ | ⟨rfl, rfl⟩ | ⟨rfl, rfl⟩ | ⟨rfl, rfl⟩
  · have := h0 1 (by omega) (by omega); simp [posC, pz, upN1, this]
  · omega
  · have := h0 1 (by omega) (by omega); simp [posC, pz, upN1, this]
  · have := h0 2 (by omega) (by omega); simp [posC, pz, upN1, this]
  · have := h0 3 (by omega) (by omega); simp [posC, pz, upN1, this]
  · omega
theorem dig2 {a b c : Nat} (ha : a < 16) (hb : b < 16) (hc : c = 16 * a + b) : c < 256 ∧ c / 16 % 16 = a ∧ c % 16 = b := by omega
theorem dig4 {a b x y c : Nat} (ha : a < 16) (hb : b < 16) (hx : x < 16) (hy : y < 16) (hc : c = 4096 * a + 256 * b + 16 * x + y) : c < 65536 ∧ c / 4096 % 16 = a ∧ c / 256 % 16 = b ∧ c / 16 % 16 = x ∧ c % 16 = y := by omega
theorem pos_found {S N : Nat} {e : Nat → Nat} (hN : N = 2 ∨ N = 4) (hS : S ≤ 12) (h1 : ∀ i, i < N - 1 → 1 ≤ e i ∧ e i ≤ S) (hj : ∀ i j, i < j → j < N - 1 → e i ≠ e j) (hl : e (N - 1) < S) (hn : ∀ i, i < N - 1 → e i - 1 ≠ e (N - 1)) : vld S N (posC N (N - 1) e) = true ∧ ∀ i, i < N → dg N (posC N (N - 1) e) i = (if i = N - 1 then e i else e i - 1) := by
  rcases hN with rfl | rfl
  · have a0 := h1 0 (by omega)
    have n0 := hn 0 (by omega)
    simp only [Nat.reduceSub] at *
    have hc : posC 2 1 e = 16 * (e 0 - 1) + e 1 := by simp [posC, pz]
    obtain ⟨q, q0, q1⟩ := dig2 (by omega) (by omega) hc
    refine ⟨?_, fun i hi => ?_⟩
    · rw [vld, if_pos rfl, q0, q1]; exact decide_eq_true ⟨q, by omega, by omega, n0⟩
    · rcases (show i = 0 ∨ i = 1 by omega) with rfl | rfl
      · exact q0
      · exact q1
  · have a0 := h1 0 (by omega)
    have a1 := h1 1 (by omega)
    have a2 := h1 2 (by omega)
    have n0 := hn 0 (by omega)
    have n1 := hn 1 (by omega)
    have n2 := hn 2 (by omega)
    have j0 := hj 0 1 (by omega) (by omega)
    have j1 := hj 0 2 (by omega) (by omega)
    have j2 := hj 1 2 (by omega) (by omega)
    simp only [Nat.reduceSub] at *
    have hc : posC 4 3 e = 4096 * (e 0 - 1) + 256 * (e 1 - 1) + 16 * (e 2 - 1) + e 3 := by simp [posC, pz]
    obtain ⟨q, q0, q1, q2, q3⟩ := dig4 (by omega) (by omega) (by omega) (by omega) hc
    refine ⟨?_, fun i hi => ?_⟩
    · rw [vld, if_neg (by decide), q0, q1, q2, q3]; exact decide_eq_true ⟨q, ⟨by omega, by omega, by omega, by omega⟩, ⟨by omega, by omega, n0⟩, ⟨by omega, n1⟩, n2⟩
    · rcases (show i = 0 ∨ i = 1 ∨ i = 2 ∨ i = 3 by omega) with rfl | rfl | rfl | rfl
      · exact q0
      · exact q1
      · exact q2
      · exact q3
/-- a fold over the codes below c -/
def foldP {σ : Type} (pr : Nat → Bool) (f : Nat → σ → σ) : Nat → σ → σ
  | 0, s => s
  | c + 1, s => if pr c then f c (foldP pr f c s) else foldP pr f c s
theorem foldP_skip {σ : Type} {pr : Nat → Bool} {f : Nat → σ → σ} {c : Nat} {s : σ} : ∀ t, (∀ x, c ≤ x → x < c + t → pr x = false) → foldP pr f (c + t) s = foldP pr f c s
  | 0, _ => rfl
  | t + 1, h => by
    rw [← Nat.add_assoc, foldP, h (c + t) (by omega) (by omega)]
    exact foldP_skip t (fun x h1 h2 => h x h1 (by omega))
theorem foldP_to {σ : Type} {pr : Nat → Bool} {f : Nat → σ → σ} {c e : Nat} {s : σ} (hc : c ≤ e) (h : ∀ x, c ≤ x → x < e → pr x = false) : foldP pr f e s = foldP pr f c s := by
  obtain ⟨t, rfl⟩ := Nat.exists_eq_add_of_le hc
  exact foldP_skip t h
theorem foldP_hit {σ : Type} {pr : Nat → Bool} {f : Nat → σ → σ} {c e : Nat} {s : σ} (hc : c ≤ e) (h : ∀ x, c ≤ x → x < e → pr x = false) (he : pr e = true) : foldP pr f (e + 1) s = f e (foldP pr f c s) := by
  rw [foldP, if_pos he, foldP_to hc h]
