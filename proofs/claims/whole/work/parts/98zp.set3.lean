-- the reference's way, backward from the aim; least pushes by knobs from j on
def DP (W H K : Nat) (a b : Nat → Nat) (j aim p n : Nat) : Prop := (∃ t, sup j K t ∧ plc W H a b p t = aim ∧ tot t = n) ∧ ∀ t, sup j K t → plc W H a b p t = aim → n ≤ tot t
theorem DP.uni {W H K : Nat} {a b : Nat → Nat} {j aim p n n' : Nat} (h1 : DP W H K a b j aim p n) (h2 : DP W H K a b j aim p n') : n = n' := by
  obtain ⟨t, t1, t2, t3⟩ := h1.1
  obtain ⟨u, u1, u2, u3⟩ := h2.1
  have := h1.2 u u1 u2
  have := h2.2 t t1 t2
  omega
abbrev RLq : Type := List (Nat × Nat)
def RQ (W H K : Nat) (a b : Nat → Nat) (kf aim : Nat) (Q : RLq) (h kk : Nat) : Prop := Q[0]? = some (aim, 0) ∧ (∀ (i j p n p' n' : Nat), i < j → Q[i]? = some (p, n) → Q[j]? = some (p', n') → n ≤ n' ∧ p ≠ p') ∧ (∀ (i p n : Nat), Q[i]? = some (p, n) → p < W * H ∧ n ≤ i ∧ ∃ t, sup kf K t ∧ plc W H a b p t = aim ∧ tot t = n) ∧
  (∀ (j p' n' p n : Nat), Q[j]? = some (p', n') → Q[h]? = some (p, n) → n' ≤ n + 1) ∧ (∀ (i p n k : Nat), Q[i]? = some (p, n) → kf ≤ k → k < K → (i < h ∨ (i = h ∧ k < kk)) → ∃ (j n' : Nat), Q[j]? = some (bst W H a b k p, n') ∧ n' ≤ n + 1)
section RQS
variable {W H K : Nat} {a b : Nat → Nat} {kf aim : Nat} {Q : RLq} {h kk : Nat}
theorem RQ.start (ha : aim < W * H) : RQ W H K a b kf aim [(aim, 0)] 0 kf := by
  have one : ∀ {i p n : Nat}, ([(aim, 0)] : RLq)[i]? = some (p, n) → i = 0 ∧ p = aim ∧ n = 0 := by
    intro i p n e
    have hl := get_lt e
    simp at hl
    subst hl
    simp at e
    exact ⟨rfl, e.1.symm, e.2.symm⟩
  refine ⟨rfl, fun i j p n p' n' hij h1 h2 => ?_, fun i p n h1 => ?_, fun j p' n' p n h1 h2 => ?_, fun i p n k h1 h2 h3 h4 => ?_⟩
  · have := (one h2).1; omega
  · obtain ⟨e1, e2, e3⟩ := one h1
    subst e1 e2 e3
    exact ⟨ha, Nat.le_refl _, (0, 0, 0, 0), sup_0, plc_0 ha, rfl⟩
  · have := (one h1).2.2; omega
  · omega
theorem RQ.met (B : RQ W H K a b kf aim Q h kk) {j p n n' : Nat} (h1 : Q[h]? = some (p, n)) (h4 : Q[j]? = some (bst W H a b kk p, n')) : RQ W H K a b kf aim Q h (kk + 1) := by
  obtain ⟨b1, b2, b3, b4, b5⟩ := B
  refine ⟨b1, b2, b3, b4, fun i p2 n2 k e1 e2 e3 e4 => ?_⟩
  by_cases q : i = h ∧ k = kk
  · obtain ⟨rfl, rfl⟩ := q
    rw [h1] at e1
    injection e1 with e1
    injection e1 with e5 e6
    subst e5 e6
    exact ⟨j, n', h4, b4 j _ n' _ _ h4 h1⟩
  · exact b5 i p2 n2 k e1 e2 e3 (by omega)
theorem RQ.new (B : RQ W H K a b kf aim Q h kk) (hW : 0 < W) (hH : 0 < H) (hK : K ≤ 4) (ha : a kk ≤ 9) (hb : b kk ≤ 9) (hkf : kf ≤ kk) (hkK : kk < K) {p n : Nat} (h1 : Q[h]? = some (p, n)) (h4 : ∀ (j p' n' : Nat), Q[j]? = some (p', n') → p' ≠ bst W H a b kk p) : RQ W H K a b kf aim (Q ++ [(bst W H a b kk p, n + 1)]) h (kk + 1) := by
  obtain ⟨b1, b2, b3, b4, b5⟩ := B
  have hl := get_lt h1
  obtain ⟨p1, p2, t, p3, p4, p5⟩ := b3 h p n h1
  refine ⟨get_old b1, fun i j p' t' p'' t'' hij e1 e2 => ?_, fun i p' t' e => ?_, fun j p' n' p2 n2 e1 e2 => ?_, fun i p' t' k' e1 e2 e3 e4 => ?_⟩
  · rcases get_snoc e2 with e2 | ⟨e2, e3⟩
    · rcases get_snoc e1 with e1 | ⟨e1, -⟩
      · exact b2 i j p' t' p'' t'' hij e1 e2
      · have := get_lt e2; omega
    · injection e3 with e3 e5
      rcases get_snoc e1 with e1 | ⟨e1, -⟩
      · rw [e3, e5]; exact ⟨b4 i p' t' p n e1 h1, h4 i p' t' e1⟩
      · omega
  · rcases get_snoc e with e | ⟨e, e1⟩
    · exact b3 i p' t' e
    · injection e1 with e1 e2
      rw [e1, e2, e]
      refine ⟨bst_lt hW hH _ _, by omega, inc kk t, sup_inc (by omega) p3 hkf hkK, ?_, by rw [tot_inc (by omega), p5]⟩
      rw [plc_st hW hH (by omega), stp_bst hW hH p1 ha hb]
      exact p4
  · rcases get_snoc e2 with f2 | ⟨f2, -⟩
    · rw [h1] at f2
      injection f2 with f2
      injection f2 with f3 f4
      rcases get_snoc e1 with f1 | ⟨-, f1⟩
      · rw [← f4]; exact b4 j p' n' p n f1 h1
      · injection f1 with f1 f5
        omega
    · omega
  · rcases get_snoc e1 with f1 | ⟨f1, -⟩
    · by_cases q : i = h ∧ k' = kk
      · obtain ⟨rfl, rfl⟩ := q
        rw [h1] at f1
        injection f1 with f1
        injection f1 with e5 e6
        subst e5 e6
        exact ⟨Q.length, n + 1, by rw [List.getElem?_append_right (Nat.le_refl _), Nat.sub_self]; rfl, Nat.le_refl _⟩
      · obtain ⟨j, t2, d1, d2⟩ := b5 i p' t' k' f1 e2 e3 (by omega)
        exact ⟨j, t2, get_old d1, d2⟩
    · omega
theorem RQ.next (B : RQ W H K a b kf aim Q h kk) (hh : h < Q.length) (hk : K ≤ kk) : RQ W H K a b kf aim Q (h + 1) kf := by
  obtain ⟨b1, b2, b3, b4, b5⟩ := B
  refine ⟨b1, b2, b3, fun j p' n' p n e1 e2 => ?_, fun i p2 n2 k e1 e2 e3 e4 => b5 i p2 n2 k e1 e2 e3 (by omega)⟩
  obtain ⟨x, hx⟩ : ∃ x, Q[h]? = some x := ⟨_, List.getElem?_eq_getElem hh⟩
  obtain ⟨p0, n0⟩ := x
  have := b4 j p' n' p0 n0 e1 hx
  have := (b2 h (h + 1) p0 n0 p n (by omega) hx e2).1
  omega
theorem RQ.all (B : RQ W H K a b kf aim Q h kk) (hW : 0 < W) (hH : 0 < H) (hK : K ≤ 4) (hab : ∀ k, k < K → a k ≤ 9 ∧ b k ≤ 9) (hh : Q.length ≤ h) : ∀ (m : Nat) (t : V4) (p : Nat), tot t = m → sup kf K t → p < W * H → plc W H a b p t = aim → ∃ (j n : Nat), Q[j]? = some (p, n) ∧ n ≤ m := by
  intro m
  induction m with
  | zero =>
    intro t p h0 hs hp he
    obtain rfl : t = (0, 0, 0, 0) := v4_ext (by unfold tot at h0; show t.1 = 0; omega) (by unfold tot at h0; show t.2.1 = 0; omega) (by unfold tot at h0; show t.2.2.1 = 0; omega) (by unfold tot at h0; show t.2.2.2 = 0; omega)
    rw [plc_0 hp] at he
    subst he
    exact ⟨0, 0, B.1, Nat.le_refl _⟩
  | succ m ih =>
    intro t p h0 hs hp he
    obtain ⟨k, u, e1, e2, e3, e4, e5⟩ := any_dec hs (fun z => by rw [z] at h0; simp [tot] at h0)
    subst e2
    rw [tot_inc e1] at h0
    rw [plc_st hW hH e1] at he
    obtain ⟨j, n, d1, d2⟩ := ih u (stp4 W H a b k p) (by omega) e5 (stp_lt hW hH _ _) he
    have := get_lt d1
    obtain ⟨j', n', f1, f2⟩ := B.2.2.2.2 j _ n k d1 e3 e4 (Or.inl (by omega))
    rw [bst_stp hW hH hp (hab k e4).1 (hab k e4).2] at f1
    exact ⟨j', n', f1, by omega⟩
theorem RQ.uni (B : RQ W H K a b kf aim Q h kk) {i j p n n' : Nat} (h1 : Q[i]? = some (p, n)) (h2 : Q[j]? = some (p, n')) : i = j ∧ n = n' := by
  have e : i = j := by
    by_cases q : i < j
    · exact absurd rfl (B.2.1 i j p n p n' q h1 h2).2
    · by_cases q2 : j < i
      · exact absurd rfl (B.2.1 j i p n' p n q2 h2 h1).2
      · omega
  subst e
  rw [h1] at h2
  injection h2 with h2
  injection h2 with _ h2
  exact ⟨rfl, h2⟩
theorem RQ.dp (B : RQ W H K a b kf aim Q h kk) (hW : 0 < W) (hH : 0 < H) (hK : K ≤ 4) (hab : ∀ k, k < K → a k ≤ 9 ∧ b k ≤ 9) (hh : Q.length ≤ h) {j p n : Nat} (h1 : Q[j]? = some (p, n)) : DP W H K a b kf aim p n := by
  obtain ⟨p1, -, t, p3, p4, p5⟩ := B.2.2.1 j p n h1
  refine ⟨⟨t, p3, p4, p5⟩, fun u hu he => ?_⟩
  obtain ⟨j', n', d1, d2⟩ := B.all hW hH hK hab hh (tot u) u p rfl hu p1 he
  obtain ⟨-, e⟩ := B.uni h1 d1
  omega
theorem RQ.no (B : RQ W H K a b kf aim Q h kk) (hW : 0 < W) (hH : 0 < H) (hK : K ≤ 4) (hab : ∀ k, k < K → a k ≤ 9 ∧ b k ≤ 9) (hh : Q.length ≤ h) {p : Nat} (hp : p < W * H) (h1 : ∀ (j n : Nat), Q[j]? ≠ some (p, n)) : ∀ u, sup kf K u → plc W H a b p u ≠ aim := by
  intro u hu he
  obtain ⟨j', n', d1, -⟩ := B.all hW hH hK hab hh (tot u) u p rfl hu hp he
  exact h1 j' n' d1
theorem RQ.len (B : RQ W H K a b kf aim Q h kk) : Q.length ≤ W * H := nd_q (fun i j p t p' t' h1 h2 h3 => (B.2.1 i j p t p' t' h1 h2 h3).2) (fun i p t h1 => (B.2.2.1 i p t h1).1)
end RQS
-- the walk that finds the row
def vadd (s t : V4) : V4 := (s.1 + t.1, s.2.1 + t.2.1, s.2.2.1 + t.2.2.1, s.2.2.2 + t.2.2.2)
theorem sx_add {a : Nat → Nat} {s t : V4} : sxV a (vadd s t) = sxV a s + sxV a t := by
  unfold sxV vadd
  dsimp only
  rw [Nat.add_mul, Nat.add_mul, Nat.add_mul, Nat.add_mul]
  omega
theorem plc_add {W H : Nat} {a b : Nat → Nat} (hW : 0 < W) (hH : 0 < H) {p : Nat} {s t : V4} : plc W H a b p (vadd s t) = plc W H a b (plc W H a b p s) t := by
  unfold plc
  obtain ⟨e1, e2⟩ := dvH (x := (p / H + sxV a s) % W) (Nat.mod_lt (p % H + sxV b s) hH)
  rw [e1, e2, sx_add, sx_add]
  generalize p / H = X
  generalize p % H = Y
  rw [Nat.mod_add_mod, Nat.mod_add_mod, Nat.add_assoc, Nat.add_assoc]
theorem tot_add {s t : V4} : tot (vadd s t) = tot s + tot t := by unfold tot vadd; dsimp only; omega
/-- the row's first j numbers, then x -/
def preV (L : V4) (j x : Nat) : V4 := if j = 0 then (x, 0, 0, 0) else if j = 1 then (L.1, x, 0, 0) else if j = 2 then (L.1, L.2.1, x, 0) else (L.1, L.2.1, L.2.2.1, x)
def sufV (L : V4) (j : Nat) : V4 := if j = 0 then (0, L.2.1, L.2.2.1, L.2.2.2) else if j = 1 then (0, 0, L.2.2.1, L.2.2.2) else if j = 2 then (0, 0, 0, L.2.2.2) else (0, 0, 0, 0)
theorem pre_suf {L : V4} {j : Nat} (hj : j < 4) : vadd (preV L j (v4g L j)) (sufV L j) = L := by
  rcases q4c hj with rfl | rfl | rfl | rfl <;> exact v4_ext (by simp [vadd, preV, sufV, v4g]) (by simp [vadd, preV, sufV, v4g]) (by simp [vadd, preV, sufV, v4g]) (by simp [vadd, preV, sufV, v4g])
theorem pre_inc {L : V4} {j x : Nat} (hj : j < 4) : preV L j (x + 1) = inc j (preV L j x) := by rcases q4c hj with rfl | rfl | rfl | rfl <;> rfl
theorem pre_next {L : V4} {j : Nat} (hj : j < 3) : preV L (j + 1) 0 = preV L j (v4g L j) := by rcases (show j = 0 ∨ j = 1 ∨ j = 2 by omega) with rfl | rfl | rfl <;> rfl
theorem pre_sup {K : Nat} {L : V4} {j x : Nat} (hj : j < 4) (hL : sup 0 K L) (hx : x ≤ v4g L j) : sup 0 K (preV L j x) := by
  intro k hk hn
  refine hL k hk (fun z => hn ?_)
  rcases q4c hj with rfl | rfl | rfl | rfl <;> rcases q4c hk with rfl | rfl | rfl | rfl <;> simp only [preV, v4g] at * <;> simp at * <;> omega
theorem suf_sup {K : Nat} {L : V4} {j : Nat} (hj : j < 4) (hL : sup 0 K L) : sup (j + 1) K (sufV L j) := by
  intro k hk hn
  rcases q4c hj with rfl | rfl | rfl | rfl <;> rcases q4c hk with rfl | rfl | rfl | rfl <;> first | exact absurd rfl hn | exact ⟨by omega, (hL _ hk hn).2⟩
theorem sup_add {j K : Nat} {s t : V4} (h1 : sup 0 K s) (h2 : sup j K t) : sup 0 K (vadd s t) := by
  intro k hk hn
  refine ⟨Nat.zero_le _, ?_⟩
  by_cases e : v4g s k = 0
  · refine (h2 k hk (fun z => hn ?_)).2
    rcases q4c hk with rfl | rfl | rfl | rfl <;> simp only [vadd, v4g] at * <;> simp at * <;> omega
  · exact (h1 k hk e).2
theorem sup_lo {j K : Nat} {t : V4} (h : sup (j + 1) K t) {k : Nat} (hk : k ≤ j) (h4 : k < 4) : v4g t k = 0 := by
  by_cases e : v4g t k = 0
  · exact e
  · have := (h k h4 e).1; omega
theorem walk_y {W H K : Nat} {a b : Nat → Nat} (hW : 0 < W) (hH : 0 < H) {p aim j : Nat} {L : V4} (hL : IsL W H K a b p aim L) (hj : j < 4) : DP W H K a b (j + 1) aim (plc W H a b p (preV L j (v4g L j))) (tot L - tot (preV L j (v4g L j))) := by
  have e := pre_suf (L := L) hj
  have et : tot L = tot (preV L j (v4g L j)) + tot (sufV L j) := by rw [← tot_add, e]
  refine ⟨⟨sufV L j, suf_sup hj hL.1, by rw [← plc_add hW hH, e]; exact hL.2.1, by omega⟩, fun u hu he => ?_⟩
  have h1 := hL.2.2 (vadd (preV L j (v4g L j)) u) (sup_add (pre_sup hj hL.1 (Nat.le_refl _)) hu) (by rw [plc_add hW hH]; exact he)
  have h2 : tot L ≤ tot (vadd (preV L j (v4g L j)) u) := by
    rcases h1 with h1 | h1
    · exact Nat.le_of_eq (congrArg tot h1)
    · unfold lt4 at h1; omega
  rw [tot_add] at h2
  omega
theorem walk_n {W H K : Nat} {a b : Nat → Nat} (hW : 0 < W) (hH : 0 < H) {p aim j x : Nat} {L : V4} (hL : IsL W H K a b p aim L) (hj : j < 4) (hx : x < v4g L j) : tot (preV L j x) < tot L ∧ ¬ DP W H K a b (j + 1) aim (plc W H a b p (preV L j x)) (tot L - tot (preV L j x)) := by
  have ht : tot (preV L j x) < tot L := by
    rcases q4c hj with rfl | rfl | rfl | rfl <;> simp only [preV, v4g, tot] at * <;> simp at * <;> omega
  refine ⟨ht, fun hd => ?_⟩
  obtain ⟨u, u1, u2, u3⟩ := hd.1
  have h1 := hL.2.2 (vadd (preV L j x) u) (sup_add (pre_sup hj hL.1 (by omega)) u1) (by rw [plc_add hW hH]; exact u2)
  have e1 : tot (vadd (preV L j x) u) = tot L := by rw [tot_add]; omega
  have h2 : lt4 (vadd (preV L j x) u) L := by
    refine Or.inr ⟨e1, ?_⟩
    have z0 := fun h => sup_lo u1 (k := 0) h (by omega)
    have z1 := fun h => sup_lo u1 (k := 1) h (by omega)
    have z2 := fun h => sup_lo u1 (k := 2) h (by omega)
    have z3 := fun h => sup_lo u1 (k := 3) h (by omega)
    have y0 : v4g u 0 = u.1 := rfl
    have y1 : v4g u 1 = u.2.1 := rfl
    have y2 : v4g u 2 = u.2.2.1 := rfl
    have y3 : v4g u 3 = u.2.2.2 := rfl
    unfold vadd tot at e1
    unfold vadd
    rcases q4c hj with rfl | rfl | rfl | rfl <;> simp only [preV, v4g, tot] at * <;> simp at * <;> omega
  exact lt4_irr (le4_lt h1 h2)
