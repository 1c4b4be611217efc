-- the class's searches: rows in order
def SrS (ci : Nat) (T : mT) (F : mF) (o : Nat) : Prop := T o = some (.inl ci) ∧ (F o 0 = some (o + 1) ∧ T (o + 1) = some (.inr (.int, 4))) ∧ F o 1 = some (o + 2) ∧ T (o + 2) = some (.inr (.int, 4))
section SRP
variable {ci oo : Nat} {T : mT} {F : mF}
theorem SrS.o (h : SrS ci T F oo) : T oo = some (.inl ci) := h.1
theorem SrS.f0 (h : SrS ci T F oo) : F oo 0 = some (oo + 1) := h.2.1.1
theorem SrS.t0 (h : SrS ci T F oo) : T (oo + 1) = some (.inr (.int, 4)) := h.2.1.2
theorem SrS.f1 (h : SrS ci T F oo) : F oo 1 = some (oo + 2) := h.2.2.1
theorem SrS.t1 (h : SrS ci T F oo) : T (oo + 2) = some (.inr (.int, 4)) := h.2.2.2
end SRP
theorem v4_no {S c : Nat} (h : S ≤ dg 4 c 0 ∨ S ≤ dg 4 c 1 ∨ S ≤ dg 4 c 2 ∨ S ≤ dg 4 c 3 ∨ dg 4 c 2 ≤ dg 4 c 0 ∨ dg 4 c 3 ≤ dg 4 c 1 ∨ dg 4 c 0 = dg 4 c 1 ∨ dg 4 c 1 = dg 4 c 2 ∨ dg 4 c 3 = dg 4 c 0 ∨ dg 4 c 3 = dg 4 c 2) : v4 S c = false := by
  cases e : v4 S c with
  | false => rfl
  | true =>
    rw [v4, Bool.and_eq_true, vld4_iff] at e
    obtain ⟨⟨-, ⟨s0, s1, s2, s3⟩, ⟨n1, n2, n3⟩, ⟨n4, n5⟩, n6⟩, e2⟩ := e
    have := of_decide_eq_true e2
    omega
theorem v4_yes {S a b x y : Nat} (hS : S ≤ 12) (ha : a < S) (hb : b < S) (hx : x < S) (hy : y < S) (h1 : a ≠ b) (h2 : a < x) (h3 : x ≠ b) (h4 : b < y) (h5 : y ≠ a) (h6 : y ≠ x) : v4 S (cod4 a b x y) = true := by
  obtain ⟨-, d0, d1, d2, d3⟩ := dig4d (a := a) (b := b) (x := x) (y := y) (by omega) (by omega) (by omega) (by omega)
  rw [v4, (vld_r (by omega) (by omega) (by omega) (by omega)).mpr ⟨⟨ha, hb, hx, hy⟩, ⟨h1, by omega, fun z => h5 z.symm⟩, ⟨fun z => h3 z.symm, by omega⟩, fun z => h6 z.symm⟩]
  unfold cod4
  rw [d0, d1, d2, d3]
  exact decide_eq_true ⟨h2, h4⟩
theorem dgb {a b x y c : Nat} (ha : a < 16) (hb : b < 16) (hx : x < 16) (hy : y ≤ 16) (z : Nat) (hz : z ≤ 16) (h1 : cod4 a b x y ≤ c) (h2 : c < cod4 a b x z) : dg 4 c 0 = a ∧ dg 4 c 1 = b ∧ dg 4 c 2 = x ∧ y ≤ dg 4 c 3 ∧ dg 4 c 3 < z := by
  unfold cod4 at h1 h2
  obtain ⟨e0, e1, e2, e3⟩ := dg4 c
  rw [e0, e1, e2, e3]
  omega
theorem dgx {a b x z c : Nat} (ha : a < 16) (hb : b < 16) (hx : x ≤ 16) (hz : z ≤ 16) (h1 : cod4 a b x 0 ≤ c) (h2 : c < cod4 a b z 0) : dg 4 c 0 = a ∧ dg 4 c 1 = b ∧ x ≤ dg 4 c 2 ∧ dg 4 c 2 < z := by
  unfold cod4 at h1 h2
  obtain ⟨e0, e1, e2, e3⟩ := dg4 c
  rw [e0, e1, e2]
  omega
theorem dgc {a b z c : Nat} (ha : a < 16) (hb : b ≤ 16) (hz : z ≤ 16) (h1 : cod4 a b 0 0 ≤ c) (h2 : c < cod4 a z 0 0) : dg 4 c 0 = a ∧ b ≤ dg 4 c 1 ∧ dg 4 c 1 < z := by
  unfold cod4 at h1 h2
  obtain ⟨e0, e1, e2, e3⟩ := dg4 c
  rw [e0, e1]
  omega
section SKP
variable {σ : Type} {f : Nat → σ → σ} {s0 : σ} {S a b x : Nat}
theorem cod_y (a b x y : Nat) : cod4 a b x (y + 1) = cod4 a b x y + 1 := rfl
theorem cod_x (a b x : Nat) : cod4 a b x 16 = cod4 a b (x + 1) 0 := by unfold cod4; omega
theorem cod_b (a b : Nat) : cod4 a b 16 0 = cod4 a (b + 1) 0 0 := by unfold cod4; omega
theorem cod_a (a : Nat) : cod4 a 16 0 0 = cod4 (a + 1) 0 0 0 := by unfold cod4; omega
theorem cod_le {a b x y z : Nat} (h : y ≤ z) : cod4 a b x y ≤ cod4 a b x z := by unfold cod4; omega
theorem cod_lx {a b x z : Nat} (h : x ≤ z) : cod4 a b x 0 ≤ cod4 a b z 0 := by unfold cod4; omega
theorem cod_lb {a b z : Nat} (h : b ≤ z) : cod4 a b 0 0 ≤ cod4 a z 0 0 := by unfold cod4; omega
theorem sk_d0 (ha : a < 16) (hb : b < 16) (hx : x < 16) : foldP (v4 S) f (cod4 a b x (b + 1)) s0 = foldP (v4 S) f (cod4 a b x 0) s0 := foldP_to (cod_le (by omega)) (fun c h1 h2 => v4_no (by have := dgb ha hb hx (by omega) _ (by omega) h1 h2; omega))
theorem sk_d1 (hS : S ≤ 12) (ha : a < 16) (hb : b < 16) (hx : x < 16) : foldP (v4 S) f (cod4 a b (x + 1) 0) s0 = foldP (v4 S) f (cod4 a b x S) s0 := by
  rw [← cod_x]
  exact foldP_to (cod_le (by omega)) (fun c h1 h2 => v4_no (by have := dgb ha hb hx (by omega) _ (by omega) h1 h2; omega))
theorem sk_x0 (ha : a < 16) (hb : b < 16) : foldP (v4 S) f (cod4 a b (a + 1) 0) s0 = foldP (v4 S) f (cod4 a b 0 0) s0 := foldP_to (cod_lx (by omega)) (fun c h1 h2 => v4_no (by have := dgx ha hb (by omega) (by omega) h1 h2; omega))
theorem sk_xb (ha : a < 16) (hb : b < 16) : foldP (v4 S) f (cod4 a b (b + 1) 0) s0 = foldP (v4 S) f (cod4 a b b 0) s0 := foldP_to (cod_lx (by omega)) (fun c h1 h2 => v4_no (by have := dgx ha hb (by omega) (by omega) h1 h2; omega))
theorem sk_x1 (hS : S ≤ 12) (ha : a < 16) (hb : b < 16) (hx : S ≤ x) (hx2 : x ≤ 16) : foldP (v4 S) f (cod4 a (b + 1) 0 0) s0 = foldP (v4 S) f (cod4 a b x 0) s0 := by
  rw [← cod_b]
  exact foldP_to (cod_lx (by omega)) (fun c h1 h2 => v4_no (by have := dgx ha hb (by omega) (by omega) h1 h2; omega))
theorem sk_bb (ha : a < 16) : foldP (v4 S) f (cod4 a (a + 1) 0 0) s0 = foldP (v4 S) f (cod4 a a 0 0) s0 := foldP_to (cod_lb (by omega)) (fun c h1 h2 => v4_no (by have := dgc ha (by omega) (by omega) h1 h2; omega))
theorem sk_b1 (hS : S ≤ 12) (ha : a < 16) : foldP (v4 S) f (cod4 (a + 1) 0 0 0) s0 = foldP (v4 S) f (cod4 a S 0 0) s0 := by
  rw [← cod_a]
  exact foldP_to (cod_lb (by omega)) (fun c h1 h2 => v4_no (by have := dgc ha (by omega) (by omega) h1 h2; omega))
theorem sk_a1 (hS : S ≤ 12) : foldP (v4 S) f 65536 s0 = foldP (v4 S) f (cod4 S 0 0 0) s0 := by
  refine foldP_to (by unfold cod4; omega) (fun c h1 h2 => v4_no (Or.inl ?_))
  unfold cod4 at h1
  rw [(dg4 c).1]
  omega
theorem sk_y {y : Nat} (h : v4 S (cod4 a b x y) = false) : foldP (v4 S) f (cod4 a b x (y + 1)) s0 = foldP (v4 S) f (cod4 a b x y) s0 := by rw [cod_y, foldP, h]; rfl
theorem hit_y {y : Nat} (h : v4 S (cod4 a b x y) = true) : foldP (v4 S) f (cod4 a b x (y + 1)) s0 = f (cod4 a b x y) (foldP (v4 S) f (cod4 a b x y) s0) := by rw [cod_y, foldP, if_pos h]
theorem v4_ya (hS : S ≤ 12) (ha : a < S) (hb : b < S) (hx : x < S) : v4 S (cod4 a b x a) = false := v4_no (by obtain ⟨-, d0, d1, d2, d3⟩ := dig4d (a := a) (b := b) (x := x) (y := a) (by omega) (by omega) (by omega) (by omega); unfold cod4; rw [d0, d1, d2, d3]; omega)
theorem v4_yx (hS : S ≤ 12) (ha : a < S) (hb : b < S) (hx : x < S) : v4 S (cod4 a b x x) = false := v4_no (by obtain ⟨-, d0, d1, d2, d3⟩ := dig4d (a := a) (b := b) (x := x) (y := x) (by omega) (by omega) (by omega) (by omega); unfold cod4; rw [d0, d1, d2, d3]; omega)
theorem vld2_iff {c : Nat} : vld S 2 c = true ↔ c < 256 ∧ c / 16 % 16 < S ∧ c % 16 < S ∧ c / 16 % 16 ≠ c % 16 := by
  rw [vld, if_pos rfl]
  exact decide_eq_true_iff
theorem vld2_f {c : Nat} (h : ¬ (c < 256 ∧ c / 16 % 16 < S ∧ c % 16 < S ∧ c / 16 % 16 ≠ c % 16)) : vld S 2 c = false := by
  cases e : vld S 2 c with
  | false => rfl
  | true => exact absurd (vld2_iff.mp e) h
theorem tk_b (hS : S ≤ 12) (ha : a < 16) : foldP (vld S 2) f (16 * (a + 1)) s0 = foldP (vld S 2) f (16 * a + S) s0 := foldP_to (by omega) (fun c h1 h2 => vld2_f (by omega))
theorem tk_a (hS : S ≤ 12) : foldP (vld S 2) f 256 s0 = foldP (vld S 2) f (16 * S) s0 := foldP_to (by omega) (fun c h1 h2 => vld2_f (by omega))
theorem dg2e {a b : Nat} (ha : a < 16) (hb : b < 16) : (16 * a + b) / 16 % 16 = a ∧ (16 * a + b) % 16 = b := by omega
theorem tk_e (hS : S ≤ 12) (ha : a < S) : foldP (vld S 2) f (16 * a + (a + 1)) s0 = foldP (vld S 2) f (16 * a + a) s0 := by
  refine foldP_to (by omega) (fun c h1 h2 => vld2_f ?_)
  obtain rfl : c = 16 * a + a := by omega
  obtain ⟨e1, e2⟩ := dg2e (show a < 16 by omega) (show a < 16 by omega)
  rw [e1, e2]; omega
theorem tk_v (hS : S ≤ 12) (ha : a < S) (hb : b < S) (h : a ≠ b) : vld S 2 (16 * a + b) = true := vld2_iff.mpr (by
  have e1 : (16 * a + b) / 16 % 16 = a := by omega
  have e2 : (16 * a + b) % 16 = b := by omega
  rw [e1, e2]; omega)
theorem tk_h (hS : S ≤ 12) (ha : a < S) (hb : b < S) (h : a ≠ b) : foldP (vld S 2) f (16 * a + (b + 1)) s0 = f (16 * a + b) (foldP (vld S 2) f (16 * a + b) s0) := by rw [← Nat.add_assoc, foldP, if_pos (tk_v hS ha hb h)]
end SKP
theorem drv_c4 {s : List Nat} {a b x y : Nat} (ha : a < 16) (hb : b < 16) (hx : x < 16) (hy : y < 16) : drvN s 4 (cod4 a b x y) = stT s a * stT s x ∧ drnN s 4 (cod4 a b x y) = stT s b * stT s y := by
  obtain ⟨-, d0, d1, d2, d3⟩ := dig4d ha hb hx hy
  unfold drvN drnN cod4
  rw [if_neg (by decide), if_neg (by decide), d0, d1, d2, d3]
  exact ⟨rfl, rfl⟩
theorem drv_c2 {s : List Nat} {a b : Nat} (ha : a < 16) (hb : b < 16) : drvN s 2 (16 * a + b) = stT s a ∧ drnN s 2 (16 * a + b) = stT s b := by
  unfold drvN drnN
  rw [if_pos rfl, if_pos rfl]
  have e0 : dg 2 (16 * a + b) 0 = a := by show (16 * a + b) / 16 % 16 = a; omega
  have e1 : dg 2 (16 * a + b) 1 = b := by show (16 * a + b) % 16 = b; omega
  rw [e0, e1]
  exact ⟨rfl, rfl⟩
theorem dg_c4 {a b x y : Nat} (ha : a < 16) (hb : b < 16) (hx : x < 16) (hy : y < 16) {f : Nat → Int32} (h0 : f 0 = nI a) (h1 : f 1 = nI b) (h2 : f 2 = nI x) (h3 : f 3 = nI y) : ∀ i, i < 4 → f i = nI (dg 4 (cod4 a b x y) i) := by
  obtain ⟨-, d0, d1, d2, d3⟩ := dig4d ha hb hx hy
  intro i hi
  unfold cod4
  rcases (show i = 0 ∨ i = 1 ∨ i = 2 ∨ i = 3 by omega) with rfl | rfl | rfl | rfl
  · rw [h0, d0]
  · rw [h1, d1]
  · rw [h2, d2]
  · rw [h3, d3]
theorem dg_c2 {a b : Nat} (ha : a < 16) (hb : b < 16) {f : Nat → Int32} (h0 : f 0 = nI a) (h1 : f 1 = nI b) : ∀ i, i < 2 → f i = nI (dg 2 (16 * a + b) i) := by
  intro i hi
  rcases (show i = 0 ∨ i = 1 by omega) with rfl | rfl
  · rw [h0]; congr 1; show a = (16 * a + b) / 16 % 16; omega
  · rw [h1]; congr 1; show b = (16 * a + b) % 16; omega
/-- the stock, as the state at u has it -/
def StkU (I : mI) (u : Nat) (s : List Nat) : Prop := StkOK s ∧ I u 4 = nI s.length ∧ ∀ (i t : Nat), s[i]? = some t → I (u + 2) i = nI t
theorem StkU.congr {I I' : mI} {u : Nat} {s : List Nat} (h : StkU I u s) (e1 : I' u = I u) (e2 : I' (u + 2) = I (u + 2)) : StkU I' u s := by unfold StkU; rw [e1, e2]; exact h
theorem x_wAt {g : gG} {d : Nat} {T : mT} {n : Nat} {I : mI} {J : mJ} {F : mF} {u a : Nat} {s : List Nat} (v : Int32) (hS : SS T F u) (hs : StkU I u s) (hv : v = nI a) (ha : a < s.length) : Ct g mX8_wheelAt (d + 0) [.ref u, .int v] 0 0 T n I J F (pureQ T n I J F (some (.int (nI (stT s a))))) := by
  have h12 := hs.1.1
  have z := x_wheelAt (g := g) (d := d) (n := n) (J := J) v hS hs.2.1 hs.1.1 hs.2.2
  have e : v.toInt = (a : Int) := by rw [hv, nI_toInt (by omega)]
  rw [if_pos (by rw [e]; omega), e] at z
  exact z
