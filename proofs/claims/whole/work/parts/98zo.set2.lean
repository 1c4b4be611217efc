-- the class's way through the places, in numbers
abbrev QL : Type := List (Nat × V4)
def BQ (W H K : Nat) (a b : Nat → Nat) (Q : QL) (h kk : Nat) : Prop := Q[0]? = some (0, (0, 0, 0, 0)) ∧ (∀ (i j p : Nat) (t : V4) (p' : Nat) (t' : V4), i < j → Q[i]? = some (p, t) → Q[j]? = some (p', t') → lt4 t t' ∧ p ≠ p') ∧ (∀ (i p : Nat) (t : V4), Q[i]? = some (p, t) → plc W H a b 0 t = p ∧ sup 0 K t ∧ tot t ≤ i) ∧
  (∀ (j p' : Nat) (t' : V4), 0 < j → Q[j]? = some (p', t') → ∃ (i p : Nat) (t : V4) (k : Nat), i < j ∧ Q[i]? = some (p, t) ∧ lst t ≤ k ∧ k < K ∧ (i < h ∨ (i = h ∧ kk ≤ k)) ∧ t' = inc k t ∧ p' = stp4 W H a b k p) ∧
  (∀ (i p : Nat) (t : V4) (k : Nat), Q[i]? = some (p, t) → lst t ≤ k → k < K → (i < h ∨ (i = h ∧ kk ≤ k)) → ∃ (j : Nat) (t' : V4), Q[j]? = some (stp4 W H a b k p, t') ∧ le4 t' (inc k t))
theorem get_snoc {α : Type} {Q : List α} {x y : α} {i : Nat} (h : (Q ++ [x])[i]? = some y) : Q[i]? = some y ∨ (i = Q.length ∧ y = x) := by
  by_cases q : i < Q.length
  · rw [List.getElem?_append_left q] at h; exact Or.inl h
  · have hl := (List.getElem?_eq_some_iff.mp h).1
    rw [List.length_append, List.length_singleton] at hl
    obtain rfl : i = Q.length := by omega
    rw [List.getElem?_append_right (by omega), Nat.sub_self] at h
    exact Or.inr ⟨rfl, by simpa using h.symm⟩
theorem get_old {α : Type} {Q : List α} {x y : α} {i : Nat} (h : Q[i]? = some y) : (Q ++ [x])[i]? = some y := by rw [List.getElem?_append_left (List.getElem?_eq_some_iff.mp h).1]; exact h
theorem get_lt {α : Type} {Q : List α} {y : α} {i : Nat} (h : Q[i]? = some y) : i < Q.length := (List.getElem?_eq_some_iff.mp h).1
section BQS
variable {W H K : Nat} {a b : Nat → Nat} {Q : QL} {h kk : Nat}
theorem BQ.start (hW : 0 < W) (hH : 0 < H) : BQ W H K a b [(0, (0, 0, 0, 0))] 0 K := by
  have one : ∀ {i p : Nat} {t : V4}, ([(0, (0, 0, 0, 0))] : QL)[i]? = some (p, t) → i = 0 ∧ p = 0 ∧ t = (0, 0, 0, 0) := by
    intro i p t e
    have hl := get_lt e
    simp at hl
    subst hl
    simp at e
    exact ⟨rfl, e.1.symm, e.2.symm⟩
  refine ⟨rfl, fun i j p t p' t' hij h1 h2 => ?_, fun i p t h1 => ?_, fun j p' t' hj h1 => ?_, fun i p t k h1 h2 h3 h4 => ?_⟩
  · have := (one h2).1; omega
  · obtain ⟨e1, e2, e3⟩ := one h1
    subst e1 e2 e3
    exact ⟨plc_0 (Nat.mul_pos hW hH), sup_0, Nat.le_refl _⟩
  · have := (one h1).1; omega
  · omega
theorem BQ.below (B : BQ W H K a b Q h kk) (hK : K ≤ 4) {j p p' k : Nat} {t t' : V4} (h1 : Q[h]? = some (p, t)) (hk : kk = k + 1) (h2 : lst t ≤ k) (h3 : k < K) (h4 : Q[j]? = some (p', t')) : lt4 t' (inc k t) := by
  obtain ⟨b1, b2, b3, b4, b5⟩ := B
  by_cases j0 : j = 0
  · subst j0
    rw [b1] at h4
    injection h4 with h4
    injection h4 with _ e
    subst e
    refine Or.inl ?_
    rw [tot_inc (by omega)]
    show 0 + 0 + 0 + 0 < _
    omega
  · obtain ⟨i, p2, t2, k2, c1, c2, c3, c4', c5, c6, c7⟩ := b4 j p' t' (by omega) h4
    rw [c6]
    rcases c5 with c5 | ⟨c5, c8⟩
    · exact ord1 (b2 i h p2 t2 p t c5 c2 h1).1 c3 (by omega) h2 (by omega)
    · subst c5
      rw [h1] at c2
      injection c2 with c2
      injection c2 with _ e
      subst e
      exact ord2 (by omega) (by omega)
theorem BQ.met (B : BQ W H K a b Q h kk) (hK : K ≤ 4) {j p k : Nat} {t t' : V4} (h1 : Q[h]? = some (p, t)) (hk : kk = k + 1) (h2 : lst t ≤ k) (h3 : k < K) (h4 : Q[j]? = some (stp4 W H a b k p, t')) : BQ W H K a b Q h k := by
  have hb := B.below hK h1 hk h2 h3 h4
  obtain ⟨b1, b2, b3, b4, b5⟩ := B
  refine ⟨b1, b2, b3, fun j p' t' hj e => ?_, fun i p2 t2 k2 e1 e2 e3 e4 => ?_⟩
  · obtain ⟨i, p2, t2, k2, c1, c2, c3, c4', c5, c6, c7⟩ := b4 j p' t' hj e
    exact ⟨i, p2, t2, k2, c1, c2, c3, c4', by omega, c6, c7⟩
  · by_cases q : i = h ∧ k2 = k
    · obtain ⟨rfl, rfl⟩ := q
      rw [h1] at e1
      injection e1 with e1
      injection e1 with e5 e6
      subst e5 e6
      exact ⟨j, t', h4, Or.inr hb⟩
    · exact b5 i p2 t2 k2 e1 e2 e3 (by omega)
theorem BQ.new (B : BQ W H K a b Q h kk) (hW : 0 < W) (hH : 0 < H) (hK : K ≤ 4) {p k : Nat} {t : V4} (h1 : Q[h]? = some (p, t)) (hk : kk = k + 1) (h2 : lst t ≤ k) (h3 : k < K) (h4 : ∀ (j p' : Nat) (t' : V4), Q[j]? = some (p', t') → p' ≠ stp4 W H a b k p) : BQ W H K a b (Q ++ [(stp4 W H a b k p, inc k t)]) h k := by
  have hb := fun {j p' : Nat} {t' : V4} (e : Q[j]? = some (p', t')) => B.below hK h1 hk h2 h3 e
  obtain ⟨b1, b2, b3, b4, b5⟩ := B
  have hl := get_lt h1
  obtain ⟨p1, p2, p3⟩ := b3 h p t h1
  refine ⟨get_old b1, fun i j p' t' p'' t'' hij e1 e2 => ?_, fun i p' t' e => ?_, fun j p' t' hj e => ?_, fun i p' t' k' e1 e2 e3 e4 => ?_⟩
  · rcases get_snoc e2 with e2 | ⟨e2, e3⟩
    · rcases get_snoc e1 with e1 | ⟨e1, -⟩
      · exact b2 i j p' t' p'' t'' hij e1 e2
      · have := get_lt e2; omega
    · injection e3 with e3 e5
      rcases get_snoc e1 with e1 | ⟨e1, -⟩
      · rw [e3, e5]; exact ⟨hb e1, h4 i p' t' e1⟩
      · omega
  · rcases get_snoc e with e | ⟨e, e1⟩
    · exact b3 i p' t' e
    · injection e1 with e1 e2
      rw [e1, e2, e]
      exact ⟨by rw [plc_in hW hH (by omega), p1], sup_inc (by omega) p2 (Nat.zero_le _) h3, by rw [tot_inc (by omega)]; omega⟩
  · rcases get_snoc e with e | ⟨e, e1⟩
    · obtain ⟨i, p2, t2, k2, c1, c2, c3, c4', c5, c6, c7⟩ := b4 j p' t' hj e
      exact ⟨i, p2, t2, k2, c1, get_old c2, c3, c4', by omega, c6, c7⟩
    · injection e1 with e1 e2
      exact ⟨h, p, t, k, by omega, get_old h1, h2, h3, Or.inr ⟨rfl, Nat.le_refl _⟩, e2, e1⟩
  · rcases get_snoc e1 with f1 | ⟨f1, -⟩
    · by_cases q : i = h ∧ k' = k
      · obtain ⟨rfl, rfl⟩ := q
        rw [h1] at f1
        injection f1 with f1
        injection f1 with e5 e6
        subst e5 e6
        exact ⟨Q.length, inc k' t, by rw [List.getElem?_append_right (Nat.le_refl _), Nat.sub_self]; rfl, Or.inl rfl⟩
      · obtain ⟨j, t2, d1, d2⟩ := b5 i p' t' k' f1 e2 e3 (by omega)
        exact ⟨j, t2, get_old d1, d2⟩
    · omega
theorem BQ.next (B : BQ W H K a b Q h kk) {p : Nat} {t : V4} (h1 : Q[h]? = some (p, t)) (hk : kk ≤ lst t) : BQ W H K a b Q (h + 1) K := by
  obtain ⟨b1, b2, b3, b4, b5⟩ := B
  refine ⟨b1, b2, b3, fun j p' t' hj e => ?_, fun i p2 t2 k2 e1 e2 e3 e4 => ?_⟩
  · obtain ⟨i, p2, t2, k2, c1, c2, c3, c4', c5, c6, c7⟩ := b4 j p' t' hj e
    exact ⟨i, p2, t2, k2, c1, c2, c3, c4', by omega, c6, c7⟩
  · refine b5 i p2 t2 k2 e1 e2 e3 ?_
    by_cases q : i = h
    · subst q
      rw [h1] at e1
      injection e1 with e1
      injection e1 with _ e6
      subst e6
      omega
    · omega
/-- what lies below a row that was met was met -/
theorem BQ.low (B : BQ W H K a b Q h kk) (hW : 0 < W) (hH : 0 < H) (hK : K ≤ 4) (u : V4) : sup 0 K u → ((∃ (j p : Nat) (t : V4), Q[j]? = some (p, t) ∧ lt4 u t) ∨ Q.length ≤ h) → ∃ (i : Nat) (t : V4), Q[i]? = some (plc W H a b 0 u, t) ∧ le4 t u := by
  refine lt4_wf.induction (C := fun u => sup 0 K u → ((∃ (j p : Nat) (t : V4), Q[j]? = some (p, t) ∧ lt4 u t) ∨ Q.length ≤ h) → ∃ (i : Nat) (t : V4), Q[i]? = some (plc W H a b 0 u, t) ∧ le4 t u) u ?_
  intro u ih hs hc
  by_cases u0 : u = (0, 0, 0, 0)
  · subst u0
    rw [plc_0 (Nat.mul_pos hW hH)]
    exact ⟨0, _, B.1, Or.inl rfl⟩
  · obtain ⟨v, e1, e2⟩ := dec_ex u0
    obtain ⟨l1, l2⟩ := lst_sup hs u0
    generalize hkk : lst u = k at *
    have hv : sup 0 K v := (sup_dec (k := k) (by omega) (by rw [← e1]; exact hs)).1
    have lv : lt4 v u := by rw [e1]; exact lt_inc (by omega) v
    obtain ⟨i, t, c1, c2⟩ := ih v lv hv (hc.imp (fun ⟨j, p, t, q1, q2⟩ => ⟨j, p, t, q1, lt4_tr lv q2⟩) id)
    obtain ⟨t1, t2, -⟩ := B.2.2.1 i _ t c1
    rcases c2 with c2 | c2
    · subst c2
      have hp : i < h ∨ (i = h ∧ kk ≤ k) := by
        rcases hc with ⟨j, p, t', q1, q2⟩ | q1
        · by_cases j0 : j = 0
          · subst j0
            rw [B.1] at q1
            injection q1 with q1
            injection q1 with _ q3
            rw [← q3] at q2
            unfold lt4 tot at q2
            dsimp only at q2
            omega
          · obtain ⟨i2, p2, t2', k2, d1, d2, d3, d4, d5, d6, d7⟩ := B.2.2.2.1 j p t' (by omega) q1
            rw [d6, e1] at q2
            by_cases z : i < h ∨ (i = h ∧ kk ≤ k)
            · exact z
            · exfalso
              by_cases z2 : i2 < i
              · exact lt4_irr (lt4_tr q2 (ord1 (B.2.1 i2 i _ _ _ _ z2 d2 c1).1 d3 (by omega) e2 (by omega)))
              · obtain rfl : i2 = i := by omega
                rw [d2] at c1
                injection c1 with c1
                injection c1 with _ c3
                subst c3
                exact lt4_irr (lt4_tr q2 (ord2 (by omega) (by omega)))
        · have := get_lt c1; omega
      obtain ⟨j, t', d1, d2⟩ := B.2.2.2.2 i _ t k c1 e2 l1 hp
      rw [← plc_in hW hH (by omega), ← e1] at d1
      exact ⟨j, t', d1, by rw [e1]; exact d2⟩
    · have lw : lt4 (inc k t) u := by rw [e1]; exact inc_mono (by omega) c2
      obtain ⟨j, t', d1, d2⟩ := ih (inc k t) lw (sup_inc (by omega) t2 (Nat.zero_le _) l1) (hc.imp (fun ⟨j, p, t, q1, q2⟩ => ⟨j, p, t, q1, lt4_tr lw q2⟩) id)
      rw [plc_in hW hH (by omega), t1, ← plc_in hW hH (by omega), ← e1] at d1
      exact ⟨j, t', d1, Or.inr (le4_lt d2 lw)⟩
theorem BQ.uni (B : BQ W H K a b Q h kk) {i j p : Nat} {t t' : V4} (h1 : Q[i]? = some (p, t)) (h2 : Q[j]? = some (p, t')) : i = j ∧ t = t' := by
  have e : i = j := by
    by_cases q : i < j
    · exact absurd rfl (B.2.1 i j p t p t' q h1 h2).2
    · by_cases q2 : j < i
      · exact absurd rfl (B.2.1 j i p t' p t q2 h2 h1).2
      · omega
  subst e
  rw [h1] at h2
  injection h2 with h2
  injection h2 with _ h2
  exact ⟨rfl, h2⟩
theorem BQ.opt (B : BQ W H K a b Q h kk) (hW : 0 < W) (hH : 0 < H) (hK : K ≤ 4) {j p : Nat} {t : V4} (h1 : Q[j]? = some (p, t)) : IsL W H K a b 0 p t := by
  obtain ⟨t1, t2, -⟩ := B.2.2.1 j p t h1
  refine ⟨t2, t1, fun u hu hp => le4_of (fun z => ?_)⟩
  obtain ⟨i, t', d1, d2⟩ := B.low hW hH hK u hu (Or.inl ⟨j, p, t, h1, z⟩)
  rw [hp] at d1
  obtain ⟨-, rfl⟩ := B.uni d1 h1
  exact lt4_irr (le4_lt d2 z)
theorem BQ.none (B : BQ W H K a b Q h kk) (hW : 0 < W) (hH : 0 < H) (hK : K ≤ 4) (hh : Q.length ≤ h) {q : Nat} (hq : ∀ (j : Nat) (t : V4), Q[j]? ≠ some (q, t)) : ∀ u, sup 0 K u → plc W H a b 0 u ≠ q := by
  intro u hu e
  obtain ⟨i, t, d1, -⟩ := B.low hW hH hK u hu (Or.inr hh)
  rw [e] at d1
  exact hq i t d1
end BQS
theorem sm_le {f : Nat → Nat} : ∀ n, (∀ i, f i ≤ 1) → sm f n ≤ n
  | 0, _ => Nat.le_refl _
  | n + 1, h => by rw [sm]; have := sm_le n h; have := h n; omega
theorem sm_put {f : Nat → Nat} {x : Nat} : ∀ n, x < n → f x = 0 → sm (fun p => if p = x then 1 else f p) n = sm f n + 1
  | 0, h, _ => absurd h (Nat.not_lt_zero _)
  | n + 1, h, h0 => by
    rw [sm, sm]
    by_cases e : n = x
    · subst e
      rw [if_pos rfl, h0, sm_congr (g := f) n (fun i hi => if_neg (by omega))]
    · rw [if_neg e, sm_put n (by omega) h0]; omega
theorem nd_sm : ∀ (L : List Nat) (n : Nat), L.Nodup → (∀ p ∈ L, p < n) → sm (fun p => if p ∈ L then 1 else 0) n = L.length
  | [], n, _, _ => by
    rw [sm_congr (g := fun _ => 0) n (fun i _ => if_neg (by simp)), sm_zero]; rfl
  | x :: L, n, hd, hl => by
    rw [List.nodup_cons] at hd
    have ih := nd_sm L n hd.2 (fun p hp => hl p (List.mem_cons_of_mem _ hp))
    rw [List.length_cons, ← ih, ← sm_put (f := fun p => if p ∈ L then 1 else 0) n (hl x List.mem_cons_self) (if_neg hd.1)]
    refine sm_congr n (fun i _ => ?_)
    by_cases e : i = x
    · rw [if_pos e, if_pos (by rw [e]; exact List.mem_cons_self)]
    · rw [if_neg e]
      by_cases e2 : i ∈ L
      · rw [if_pos e2, if_pos (List.mem_cons_of_mem _ e2)]
      · rw [if_neg e2, if_neg (fun z => (List.mem_cons.mp z).elim e e2)]
theorem nd_len {L : List Nat} {n : Nat} (h : L.Nodup) (hl : ∀ p ∈ L, p < n) : L.length ≤ n := by
  rw [← nd_sm L n h hl]
  exact sm_le n (fun i => by split <;> omega)
theorem nd_q {α : Type} {Q : List (Nat × α)} {n : Nat} (h1 : ∀ (i j p : Nat) (t : α) (p' : Nat) (t' : α), i < j → Q[i]? = some (p, t) → Q[j]? = some (p', t') → p ≠ p') (h2 : ∀ (i p : Nat) (t : α), Q[i]? = some (p, t) → p < n) : Q.length ≤ n := by
  rw [← List.length_map (f := Prod.fst) (as := Q)]
  refine nd_len ?_ (fun p hp => ?_)
  · rw [List.Nodup, List.pairwise_iff_getElem]
    intro i j hi hj hij
    rw [List.getElem_map, List.getElem_map]
    rw [List.length_map] at hi hj
    exact h1 i j _ _ _ _ hij (List.getElem?_eq_getElem hi) (List.getElem?_eq_getElem hj)
  · obtain ⟨e, he, rfl⟩ := List.mem_map.mp hp
    obtain ⟨i, hi⟩ := List.getElem?_of_mem he
    exact h2 i _ _ hi
theorem BQ.len {W H K : Nat} {a b : Nat → Nat} {Q : QL} {h kk : Nat} (B : BQ W H K a b Q h kk) (hW : 0 < W) (hH : 0 < H) : Q.length ≤ W * H := nd_q (fun i j p t p' t' h1 h2 h3 => (B.2.1 i j p t p' t' h1 h2 h3).2) (fun i p t h1 => by rw [← (B.2.2.1 i p t h1).1]; exact plc_lt hW hH _ _)
