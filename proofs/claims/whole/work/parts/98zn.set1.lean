-- setting: rows of pushes, places
abbrev V4 : Type := Nat × Nat × Nat × Nat
def tot (t : V4) : Nat := t.1 + t.2.1 + t.2.2.1 + t.2.2.2
def v4g (t : V4) (k : Nat) : Nat := if k = 0 then t.1 else if k = 1 then t.2.1 else if k = 2 then t.2.2.1 else t.2.2.2
def inc (k : Nat) (t : V4) : V4 := if k = 0 then (t.1 + 1, t.2.1, t.2.2.1, t.2.2.2) else if k = 1 then (t.1, t.2.1 + 1, t.2.2.1, t.2.2.2) else if k = 2 then (t.1, t.2.1, t.2.2.1 + 1, t.2.2.2) else (t.1, t.2.1, t.2.2.1, t.2.2.2 + 1)
def lt4 (s t : V4) : Prop := tot s < tot t ∨ (tot s = tot t ∧ (s.1 < t.1 ∨ (s.1 = t.1 ∧ (s.2.1 < t.2.1 ∨ (s.2.1 = t.2.1 ∧ s.2.2.1 < t.2.2.1)))))
def le4 (s t : V4) : Prop := s = t ∨ lt4 s t
def lst (t : V4) : Nat := if t.2.2.2 ≠ 0 then 3 else if t.2.2.1 ≠ 0 then 2 else if t.2.1 ≠ 0 then 1 else 0
def sup (j K : Nat) (t : V4) : Prop := ∀ k, k < 4 → v4g t k ≠ 0 → j ≤ k ∧ k < K
theorem q4c {k : Nat} (h : k < 4) : k = 0 ∨ k = 1 ∨ k = 2 ∨ k = 3 := by omega
theorem inc0 (t : V4) : inc 0 t = (t.1 + 1, t.2.1, t.2.2.1, t.2.2.2) := rfl
theorem inc1 (t : V4) : inc 1 t = (t.1, t.2.1 + 1, t.2.2.1, t.2.2.2) := rfl
theorem inc2 (t : V4) : inc 2 t = (t.1, t.2.1, t.2.2.1 + 1, t.2.2.2) := rfl
theorem inc3 (t : V4) : inc 3 t = (t.1, t.2.1, t.2.2.1, t.2.2.2 + 1) := rfl
theorem v4_ext {s t : V4} (h0 : s.1 = t.1) (h1 : s.2.1 = t.2.1) (h2 : s.2.2.1 = t.2.2.1) (h3 : s.2.2.2 = t.2.2.2) : s = t := by
  obtain ⟨a, b, c, d⟩ := s
  obtain ⟨a', b', c', d'⟩ := t
  simp only at h0 h1 h2 h3
  subst h0 h1 h2 h3
  rfl
theorem tot_inc {k : Nat} (h : k < 4) (t : V4) : tot (inc k t) = tot t + 1 := by
  rcases q4c h with rfl | rfl | rfl | rfl
  · rw [inc0]; unfold tot; dsimp only; omega
  · rw [inc1]; unfold tot; dsimp only; omega
  · rw [inc2]; unfold tot; dsimp only; omega
  · rw [inc3]; unfold tot; dsimp only; omega
theorem lt4_irr {s : V4} : ¬ lt4 s s := by unfold lt4; omega
theorem lt4_tr {s t u : V4} (h1 : lt4 s t) (h2 : lt4 t u) : lt4 s u := by unfold lt4 at *; omega
theorem lt4_tri (s t : V4) : lt4 s t ∨ s = t ∨ lt4 t s := by
  by_cases e : s.1 = t.1 ∧ s.2.1 = t.2.1 ∧ s.2.2.1 = t.2.2.1 ∧ s.2.2.2 = t.2.2.2
  · exact Or.inr (Or.inl (v4_ext e.1 e.2.1 e.2.2.1 e.2.2.2))
  · rcases (show lt4 s t ∨ lt4 t s by unfold lt4 tot; omega) with h | h
    · exact Or.inl h
    · exact Or.inr (Or.inr h)
theorem le4_lt {s t u : V4} (h1 : le4 s t) (h2 : lt4 t u) : lt4 s u := by
  rcases h1 with rfl | h1
  · exact h2
  · exact lt4_tr h1 h2
theorem le4_tr {s t u : V4} (h1 : le4 s t) (h2 : le4 t u) : le4 s u := by
  rcases h2 with rfl | h2
  · exact h1
  · exact Or.inr (le4_lt h1 h2)
theorem le4_anti {s t : V4} (h1 : le4 s t) (h2 : le4 t s) : s = t := by
  rcases h1 with h | h
  · exact h
  · exact absurd (le4_lt h2 h) lt4_irr
theorem le4_of {s t : V4} (h : ¬ lt4 t s) : le4 s t := by
  rcases lt4_tri s t with z | z | z
  · exact Or.inr z
  · exact Or.inl z
  · exact absurd z h
theorem lt4_wf : WellFounded lt4 := by
  refine Subrelation.wf (r := InvImage (Prod.Lex (· < ·) (Prod.Lex (· < ·) (Prod.Lex (· < ·) (· < ·)))) (fun t : V4 => (tot t, t.1, t.2.1, t.2.2.1))) ?_ (InvImage.wf _ (Prod.lex ⟨_, Nat.lt_wfRel.wf⟩ (Prod.lex ⟨_, Nat.lt_wfRel.wf⟩ (Prod.lex ⟨_, Nat.lt_wfRel.wf⟩ ⟨_, Nat.lt_wfRel.wf⟩))).wf)
  intro s t h
  unfold InvImage
  rcases h with h | ⟨h1, h | ⟨h2, h | ⟨h3, h4⟩⟩⟩
  · exact Prod.Lex.left _ _ h
  · simp only [h1]; exact Prod.Lex.right _ (Prod.Lex.left _ _ h)
  · simp only [h1, h2]; exact Prod.Lex.right _ (Prod.Lex.right _ (Prod.Lex.left _ _ h))
  · simp only [h1, h2, h3]; exact Prod.Lex.right _ (Prod.Lex.right _ (Prod.Lex.right _ h4))
theorem inc_mono {k : Nat} {s t : V4} (hk : k < 4) (h : lt4 s t) : lt4 (inc k s) (inc k t) := by
  rcases q4c hk with rfl | rfl | rfl | rfl
  · rw [inc0, inc0]; unfold lt4 tot at *; dsimp only; omega
  · rw [inc1, inc1]; unfold lt4 tot at *; dsimp only; omega
  · rw [inc2, inc2]; unfold lt4 tot at *; dsimp only; omega
  · rw [inc3, inc3]; unfold lt4 tot at *; dsimp only; omega
theorem lt_inc {k : Nat} (hk : k < 4) (t : V4) : lt4 t (inc k t) := Or.inl (by rw [tot_inc hk]; omega)
theorem lst_le (t : V4) : lst t ≤ 3 := by unfold lst; split; omega; split; omega; split <;> omega
theorem lst_z {t : V4} {k : Nat} (h : lst t ≤ k) : (k < 3 → t.2.2.2 = 0) ∧ (k < 2 → t.2.2.1 = 0) ∧ (k < 1 → t.2.1 = 0) := by
  unfold lst at h
  split at h
  · omega
  · split at h
    · omega
    · split at h <;> omega
theorem ord2 {t : V4} {k k' : Nat} (h : k' < k) (hk : k < 4) : lt4 (inc k t) (inc k' t) := by
  rcases q4c hk with rfl | rfl | rfl | rfl
  · omega
  · obtain rfl : k' = 0 := by omega
    rw [inc1, inc0]; unfold lt4 tot; dsimp only; omega
  · rcases (show k' = 0 ∨ k' = 1 by omega) with rfl | rfl
    · rw [inc2, inc0]; unfold lt4 tot; dsimp only; omega
    · rw [inc2, inc1]; unfold lt4 tot; dsimp only; omega
  · rcases (show k' = 0 ∨ k' = 1 ∨ k' = 2 by omega) with rfl | rfl | rfl
    · rw [inc3, inc0]; unfold lt4 tot; dsimp only; omega
    · rw [inc3, inc1]; unfold lt4 tot; dsimp only; omega
    · rw [inc3, inc2]; unfold lt4 tot; dsimp only; omega
theorem ord1 {s t : V4} {k k' : Nat} (h : lt4 s t) (h1 : lst s ≤ k) (hk : k < 4) (h2 : lst t ≤ k') (hk' : k' < 4) : lt4 (inc k s) (inc k' t) := by
  by_cases e : tot s < tot t
  · exact Or.inl (by rw [tot_inc hk, tot_inc hk']; omega)
  · have a := lst_z h1
    have b := lst_z h2
    have h' : tot s = tot t ∧ (s.1 < t.1 ∨ (s.1 = t.1 ∧ (s.2.1 < t.2.1 ∨ (s.2.1 = t.2.1 ∧ s.2.2.1 < t.2.2.1)))) := h.resolve_left e
    refine Or.inr ⟨by rw [tot_inc hk, tot_inc hk', h'.1], ?_⟩
    have h3 := h'.1
    unfold tot at h3
    replace h' := h'.2
    clear h e
    rcases q4c hk with rfl | rfl | rfl | rfl <;> rcases q4c hk' with rfl | rfl | rfl | rfl <;> simp only [inc0, inc1, inc2, inc3] <;> omega
/-- the last push taken away -/
theorem dec_ex {t : V4} (h : t ≠ (0, 0, 0, 0)) : ∃ u, t = inc (lst t) u ∧ lst u ≤ lst t := by
  unfold lst
  split
  · rename_i z
    exact ⟨(t.1, t.2.1, t.2.2.1, t.2.2.2 - 1), by rw [inc3]; exact v4_ext rfl rfl rfl (by dsimp only; omega), lst_le _⟩
  · split
    · rename_i z1 z2
      exact ⟨(t.1, t.2.1, t.2.2.1 - 1, t.2.2.2), by rw [inc2]; exact v4_ext rfl rfl (by dsimp only; omega) rfl, by dsimp only; rw [if_neg z1]; split; omega; split <;> omega⟩
    · split
      · rename_i z1 z2 z3
        exact ⟨(t.1, t.2.1 - 1, t.2.2.1, t.2.2.2), by rw [inc1]; exact v4_ext rfl (by dsimp only; omega) rfl rfl, by dsimp only; rw [if_neg z1, if_neg z2]; split <;> omega⟩
      · rename_i z1 z2 z3
        have z0 : t.1 ≠ 0 := fun e => h (v4_ext e (by show t.2.1 = 0; omega) (by show t.2.2.1 = 0; omega) (by show t.2.2.2 = 0; omega))
        exact ⟨(t.1 - 1, t.2.1, t.2.2.1, t.2.2.2), by rw [inc0]; exact v4_ext (by dsimp only; omega) rfl rfl rfl, by dsimp only; rw [if_neg z1, if_neg z2, if_neg z3]; omega⟩
theorem g_inc {k j : Nat} {t : V4} (hk : k < 4) (hj : j < 4) : v4g (inc k t) j = v4g t j + (if j = k then 1 else 0) := by
  rcases q4c hk with rfl | rfl | rfl | rfl <;> rcases q4c hj with rfl | rfl | rfl | rfl <;> rfl
theorem sup_inc {j K k : Nat} {t : V4} (hk : k < 4) (h : sup j K t) (h1 : j ≤ k) (h2 : k < K) : sup j K (inc k t) := by
  intro i hi hn
  rw [g_inc hk hi] at hn
  by_cases e : i = k
  · subst e; exact ⟨h1, h2⟩
  · rw [if_neg e] at hn; exact h i hi hn
theorem sup_dec {j K k : Nat} {t : V4} (hk : k < 4) (h : sup j K (inc k t)) : sup j K t ∧ j ≤ k ∧ k < K := ⟨fun i hi hn => h i hi (by rw [g_inc hk hi]; omega), h k hk (by rw [g_inc hk hk, if_pos rfl]; omega)⟩
theorem sup_0 {j K : Nat} : sup j K (0, 0, 0, 0) := fun k hk hn => by rcases q4c hk with rfl | rfl | rfl | rfl <;> exact absurd rfl hn
theorem lst_sup {j K : Nat} {t : V4} (h : sup j K t) (hn : t ≠ (0, 0, 0, 0)) : lst t < K ∧ lst t < 4 := by
  obtain ⟨u, h1, h2⟩ := dec_ex hn
  have h3 := lst_le t
  rw [h1] at h
  exact ⟨(sup_dec (by omega) h).2.2, by omega⟩
theorem any_dec {j K : Nat} {t : V4} (h : sup j K t) (hn : t ≠ (0, 0, 0, 0)) : ∃ k u, k < 4 ∧ t = inc k u ∧ j ≤ k ∧ k < K ∧ sup j K u := by
  obtain ⟨u, h1, h2⟩ := dec_ex hn
  have h3 := lst_le t
  have h4 := h
  rw [h1] at h4
  have h5 := sup_dec (by omega) h4
  exact ⟨lst t, u, by omega, h1, h5.2.1, h5.2.2, h5.1⟩
-- places
def sxV (a : Nat → Nat) (t : V4) : Nat := t.1 * a 0 + t.2.1 * a 1 + t.2.2.1 * a 2 + t.2.2.2 * a 3
def plc (W H : Nat) (a b : Nat → Nat) (p : Nat) (t : V4) : Nat := ((p / H + sxV a t) % W) * H + (p % H + sxV b t) % H
def stp4 (W H : Nat) (a b : Nat → Nat) (k p : Nat) : Nat := ((p / H + a k) % W) * H + (p % H + b k) % H
theorem sx_inc {a : Nat → Nat} {k : Nat} {t : V4} (hk : k < 4) : sxV a (inc k t) = sxV a t + a k := by
  rcases q4c hk with rfl | rfl | rfl | rfl
  · rw [inc0]; unfold sxV; dsimp only; rw [Nat.add_mul]; omega
  · rw [inc1]; unfold sxV; dsimp only; rw [Nat.add_mul]; omega
  · rw [inc2]; unfold sxV; dsimp only; rw [Nat.add_mul]; omega
  · rw [inc3]; unfold sxV; dsimp only; rw [Nat.add_mul]; omega
theorem dvH {x y H : Nat} (h : y < H) : (x * H + y) / H = x ∧ (x * H + y) % H = y := by
  have h0 : 0 < H := by omega
  rw [Nat.mul_comm, Nat.mul_add_div h0, Nat.mul_add_mod, Nat.mod_eq_of_lt h, Nat.div_eq_of_lt h]
  exact ⟨rfl, rfl⟩
theorem dvE (p H : Nat) : p / H * H + p % H = p := by rw [Nat.mul_comm]; exact Nat.div_add_mod p H
theorem pl_lt {x y W H : Nat} (hx : x < W) (hy : y < H) : x * H + y < W * H := by
  have : (x + 1) * H ≤ W * H := Nat.mul_le_mul_right _ hx
  rw [Nat.add_mul] at this
  omega
theorem dv_lt {p W H : Nat} (h : p < W * H) : p / H < W ∧ p % H < H := by
  have h0 : 0 < H := Nat.pos_of_ne_zero (fun e => by subst e; omega)
  exact ⟨Nat.div_lt_of_lt_mul (by rw [Nat.mul_comm]; exact h), Nat.mod_lt _ h0⟩
section PLC
variable {W H K : Nat} {a b : Nat → Nat}
theorem plc_lt (hW : 0 < W) (hH : 0 < H) (p : Nat) (t : V4) : plc W H a b p t < W * H := pl_lt (Nat.mod_lt _ hW) (Nat.mod_lt _ hH)
theorem stp_lt (hW : 0 < W) (hH : 0 < H) (k p : Nat) : stp4 W H a b k p < W * H := pl_lt (Nat.mod_lt _ hW) (Nat.mod_lt _ hH)
theorem plc_in (hW : 0 < W) (hH : 0 < H) {k p : Nat} {t : V4} (hk : k < 4) : plc W H a b p (inc k t) = stp4 W H a b k (plc W H a b p t) := by
  unfold plc stp4
  obtain ⟨e1, e2⟩ := dvH (x := (p / H + sxV a t) % W) (Nat.mod_lt (p % H + sxV b t) hH)
  rw [e1, e2, sx_inc hk, sx_inc hk]
  generalize p / H = X
  generalize p % H = Y
  rw [Nat.mod_add_mod, Nat.mod_add_mod, Nat.add_assoc, Nat.add_assoc]
theorem plc_st (hW : 0 < W) (hH : 0 < H) {k p : Nat} {t : V4} (hk : k < 4) : plc W H a b p (inc k t) = plc W H a b (stp4 W H a b k p) t := by
  unfold plc stp4
  obtain ⟨e1, e2⟩ := dvH (x := (p / H + a k) % W) (Nat.mod_lt (p % H + b k) hH)
  rw [e1, e2, sx_inc hk, sx_inc hk]
  generalize p / H = X
  generalize p % H = Y
  rw [Nat.mod_add_mod, Nat.mod_add_mod]
  congr 2
  · rw [Nat.add_assoc, Nat.add_comm (a k)]
  · rw [Nat.add_assoc, Nat.add_comm (b k)]
theorem plc_0 {p : Nat} (h : p < W * H) : plc W H a b p (0, 0, 0, 0) = p := by
  obtain ⟨h1, h2⟩ := dv_lt h
  unfold plc sxV
  simp only [Nat.zero_mul, Nat.add_zero]
  rw [Nat.mod_eq_of_lt h1, Nat.mod_eq_of_lt h2]
  exact dvE p H
/-- back by knob k -/
def bst (W H : Nat) (a b : Nat → Nat) (k q : Nat) : Nat := ((q / H + (9 * W - a k)) % W) * H + (q % H + (9 * H - b k)) % H
theorem md1 {x c m : Nat} (hx : x < m) (hc : c ≤ 9) : ((x + c) % m + (9 * m - c)) % m = x := by
  have h0 : 9 * 1 ≤ 9 * m := by omega
  rw [Nat.mod_add_mod, show x + c + (9 * m - c) = x + m * 9 by omega, Nat.add_mul_mod_self_left, Nat.mod_eq_of_lt hx]
theorem md2 {x c m : Nat} (hx : x < m) (hc : c ≤ 9) : ((x + (9 * m - c)) % m + c) % m = x := by
  have h0 : 9 * 1 ≤ 9 * m := by omega
  rw [Nat.mod_add_mod, show x + (9 * m - c) + c = x + m * 9 by omega, Nat.add_mul_mod_self_left, Nat.mod_eq_of_lt hx]
theorem bst_stp (hW : 0 < W) (hH : 0 < H) {k p : Nat} (h : p < W * H) (ha : a k ≤ 9) (hb : b k ≤ 9) : bst W H a b k (stp4 W H a b k p) = p := by
  obtain ⟨h1, h2⟩ := dv_lt h
  unfold bst stp4
  obtain ⟨e1, e2⟩ := dvH (x := (p / H + a k) % W) (Nat.mod_lt (p % H + b k) hH)
  rw [e1, e2, md1 h1 ha, md1 h2 hb]
  exact dvE p H
theorem stp_bst (hW : 0 < W) (hH : 0 < H) {k p : Nat} (h : p < W * H) (ha : a k ≤ 9) (hb : b k ≤ 9) : stp4 W H a b k (bst W H a b k p) = p := by
  obtain ⟨h1, h2⟩ := dv_lt h
  unfold bst stp4
  obtain ⟨e1, e2⟩ := dvH (x := (p / H + (9 * W - a k)) % W) (Nat.mod_lt (p % H + (9 * H - b k)) hH)
  rw [e1, e2, md2 h1 ha, md2 h2 hb]
  exact dvE p H
theorem bst_lt (hW : 0 < W) (hH : 0 < H) (k p : Nat) : bst W H a b k p < W * H := pl_lt (Nat.mod_lt _ hW) (Nat.mod_lt _ hH)
end PLC
/-- the row that is due, from p to q -/
def IsL (W H K : Nat) (a b : Nat → Nat) (p q : Nat) (t : V4) : Prop := sup 0 K t ∧ plc W H a b p t = q ∧ ∀ u, sup 0 K u → plc W H a b p u = q → le4 t u
def SetR (W H K : Nat) (a b : Nat → Nat) (p q w : Nat) (r : Int) : Prop := (∃ t, IsL W H K a b p q t ∧ r = if w = 0 then (tot t : Int) else (v4g t (w - 1) : Int)) ∨ ((∀ u, sup 0 K u → plc W H a b p u ≠ q) ∧ r = -1)
theorem SetR.uni {W H K : Nat} {a b : Nat → Nat} {p q w : Nat} {r1 r2 : Int} (h1 : SetR W H K a b p q w r1) (h2 : SetR W H K a b p q w r2) : r1 = r2 := by
  rcases h1 with ⟨t, ⟨a1, a2, a3⟩, a4⟩ | ⟨a1, a2⟩
  · rcases h2 with ⟨u, ⟨b1, b2, b3⟩, b4⟩ | ⟨b1, -⟩
    · obtain rfl := le4_anti (a3 u b1 b2) (b3 t a1 a2)
      rw [a4, b4]
    · exact absurd a2 (b1 t a1)
  · rcases h2 with ⟨u, ⟨b1, b2, -⟩, -⟩ | ⟨-, b2⟩
    · exact absurd b2 (a1 u b1)
    · rw [a2, b2]
theorem isL_ex {W H K : Nat} {a b : Nat → Nat} {p q : Nat} : ∀ t, sup 0 K t → plc W H a b p t = q → ∃ u, IsL W H K a b p q u := by
  intro t
  refine lt4_wf.induction (C := fun t => sup 0 K t → plc W H a b p t = q → ∃ u, IsL W H K a b p q u) t ?_
  intro t ih h1 h2
  by_cases e : ∃ u, sup 0 K u ∧ plc W H a b p u = q ∧ lt4 u t
  · obtain ⟨u, e1, e2, e3⟩ := e
    exact ih u e3 e1 e2
  · exact ⟨t, h1, h2, fun u u1 u2 => le4_of (fun z => e ⟨u, u1, u2, z⟩)⟩
