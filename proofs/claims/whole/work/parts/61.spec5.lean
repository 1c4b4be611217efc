-- what the calls that only tell answer: rates, days, gaps, wear, sharing, storms
theorem RepM.hd {I : mI} {J : mJ} {m h : Nat} {A : Ab} {y : Hd} (hR : RepM I J m A) (hA : AbOK A) (hy : (hds (cor A))[h]? = some y) : HdM I m h y := by
  have hl : h < (hds (cor A)).length := (List.getElem?_eq_some_iff.mp hy).1
  have h6 := hA.1.1
  exact ⟨by omega, hR.2.2.1.2.1 h y hy, hA.1.2.1 y (List.mem_of_getElem? hy)⟩
def fstD (P : Nat → Bool) (d : Nat) : Nat → Int
  | 0 => -1
  | t + 1 => if P d then (d : Int) else fstD P (d + 1) t
def cntD (P : Nat → Bool) (d : Nat) : Nat → Nat
  | 0 => 0
  | t + 1 => (if P d then 1 else 0) + cntD P (d + 1) t
theorem fstD_z {P : Nat → Bool} {d : Nat} : fstD P d 0 = -1 := rfl
theorem fstD_y {P : Nat → Bool} {d t : Nat} (h : P d = true) : fstD P d (t + 1) = d := by rw [fstD, if_pos h]
theorem fstD_n {P : Nat → Bool} {d t : Nat} (h : P d = false) : fstD P d (t + 1) = fstD P (d + 1) t := by rw [fstD, h]; rfl
theorem cntD_y {P : Nat → Bool} {d t : Nat} (h : P d = true) : cntD P d (t + 1) = 1 + cntD P (d + 1) t := by rw [cntD, if_pos h]
theorem cntD_n {P : Nat → Bool} {d t : Nat} (h : P d = false) : cntD P d (t + 1) = cntD P (d + 1) t := by rw [cntD, h]; exact Nat.zero_add _
theorem cntD_le {P : Nat → Bool} : ∀ (t d : Nat), cntD P d t ≤ t := by
  intro t
  induction t with
  | zero => intro d; exact Nat.le_refl 0
  | succ t ih => intro d; have := ih (d + 1); rw [cntD]; split <;> omega
theorem fstD_bd {P : Nat → Bool} : ∀ (t d : Nat), fstD P d t = -1 ∨ ((d : Int) ≤ fstD P d t ∧ fstD P d t < d + t) := by
  intro t
  induction t with
  | zero => intro d; exact Or.inl rfl
  | succ t ih =>
    intro d
    have := ih (d + 1)
    rw [fstD]
    split
    · right; omega
    · omega
def rateU (y : Hd) : Nat := upN y.2.2.2 / Nat.gcd (upN y.2.2.2) (loN y.2.2.2)
def rateL (y : Hd) : Nat := loN y.2.2.2 / Nat.gcd (upN y.2.2.2) (loN y.2.2.2)
def s_rate (A : Ab) (h w : Int) : Int := match hdAt (cor A) h with
  | none => -1
  | some y => if w = 0 then (rateU y : Int) else if w = 1 then (rateL y : Int) else -1
def absN (a b : Nat) : Nat := if a < b then b - a else a - b
def offN (u l p q : Nat) (w : Int) : Int :=
  if w = 0 then ((absN (u * q) (l * p) / Nat.gcd (absN (u * q) (l * p)) (l * q) : Nat) : Int) else if w = 1 then ((l * q / Nat.gcd (absN (u * q) (l * p)) (l * q) : Nat) : Int)
  else if absN (u * q) (l * p) = 0 then -1 else if (l * q + absN (u * q) (l * p) - 1) / absN (u * q) (l * p) ≤ 1000000 then (((l * q + absN (u * q) (l * p) - 1) / absN (u * q) (l * p) : Nat) : Int) else -1
def s_off (A : Ab) (h p q w : Int) : Int := match hdAt (cor A) h with
  | none => -1
  | some y => if ((1 ≤ p ∧ p ≤ 100000) ∧ (1 ≤ q ∧ q ≤ 100000)) ∧ (0 ≤ w ∧ w ≤ 2) then offN (upN y.2.2.2) (loN y.2.2.2) p.toNat q.toNat w else -1
def markD (y : Hd) (d : Nat) : Nat := mkN (goN d y.2.2.1) (upN y.2.2.2) (loN y.2.2.2) y.1 y.2.1
theorem markD_lt {y : Hd} (hY : HdOK y) (d : Nat) : markD y d < 400 := by
  unfold markD mkN
  have h1 := hY.1
  have h2 := hY.2.1
  have := Nat.mod_lt (goN d y.2.2.1 * upN y.2.2.2 * y.1 / loN y.2.2.2 + y.2.1) (show 0 < y.1 by omega)
  omega
def togP (y1 y2 : Hd) (m1 m2 : Int) (d : Nat) : Bool := decide ((markD y1 d : Int) = m1) && decide ((markD y2 d : Int) = m2)
theorem togP_y {y1 y2 : Hd} {m1 m2 : Int} {d : Nat} (h1 : (markD y1 d : Int) = m1) (h2 : (markD y2 d : Int) = m2) : togP y1 y2 m1 m2 d = true := by unfold togP; rw [decide_eq_true h1, decide_eq_true h2]; rfl
theorem togP_n1 {y1 y2 : Hd} {m1 m2 : Int} {d : Nat} (h1 : ¬ (markD y1 d : Int) = m1) : togP y1 y2 m1 m2 d = false := by unfold togP; rw [decide_eq_false h1]; rfl
theorem togP_n2 {y1 y2 : Hd} {m1 m2 : Int} {d : Nat} (h2 : ¬ (markD y2 d : Int) = m2) : togP y1 y2 m1 m2 d = false := by unfold togP; rw [decide_eq_false h2, Bool.and_false]
def spanN (f : Nat) : Nat := if f + 5000 ≤ 1000000 then 5001 else 1000001 - f
theorem spanN_or {f : Nat} (h : f ≤ 1000000) : (f + 5000 ≤ 1000000 ∧ spanN f = 5001) ∨ (1000000 < f + 5000 ∧ f + spanN f = 1000001) := by
  unfold spanN
  split
  · left; exact ⟨by assumption, rfl⟩
  · right; omega
def s_together (A : Ab) (h1 m1 h2 m2 f : Int) : Int := match hdAt (cor A) h1 with
  | none => -1
  | some y1 => match hdAt (cor A) h2 with
    | none => -1
    | some y2 => if 0 ≤ f ∧ f ≤ 1000000 then fstD (togP y1 y2 m1 m2) f.toNat (spanN f.toNat) else -1
def seenP (ss : List Sg) (h : Nat) (y : Hd) (gap : Nat) : Bool := ss.all (fun s => !decide (s.1 = h) || decide (mkN (goN s.2.1 gap) (upN y.2.2.2) (loN y.2.2.2) y.1 y.2.1 = s.2.2))
def s_gone (A : Ab) (h w : Int) : Int := match hdAt (cor A) h with
  | none => -1
  | some y => if w = 0 then (cntD (seenP (sgs (cor A)) h.toNat y) 2 399 : Int) else if w = 1 then fstD (seenP (sgs (cor A)) h.toNat y) 2 399 else -1
/-- the day when wheel k of a train is worn; the first of those of the wheels 0 .. k -/
def wrN (wear : Nat) (tr : List (Nat × Nat)) (k : Nat) : Nat := (wear * loN (tr.take k) + upN (tr.take k) - 1) / upN (tr.take k)
def wmin (wear : Nat) (tr : List (Nat × Nat)) : Nat → Nat
  | 0 => wear
  | k + 1 => if wrN wear tr (k + 1) < wmin wear tr k then wrN wear tr (k + 1) else wmin wear tr k
def wornI (wear : Nat) (y : Hd) : Int := if y.2.2.2.length = 0 then -1 else if wmin wear y.2.2.2 y.2.2.2.length ≤ 1000000 then (wmin wear y.2.2.2 y.2.2.2.length : Int) else -1
theorem wmin_le (wear : Nat) (tr : List (Nat × Nat)) : ∀ k, wmin wear tr k ≤ wear := by
  intro k
  induction k with
  | zero => exact Nat.le_refl _
  | succ k ih => rw [wmin]; split <;> omega
theorem wrN_zero {wear : Nat} {tr : List (Nat × Nat)} : wrN wear tr 0 = wear := by
  unfold wrN
  rw [List.take_zero]
  show (wear * 1 + 1 - 1) / 1 = wear
  rw [Nat.div_one, Nat.mul_one]; omega
def betI (a b : Int) : Int := if b ≠ -1 ∧ (a = -1 ∨ b < a) then b else a
def wfx (x : Int) (wear : Nat) (hs : List Hd) : Nat → Int
  | 0 => -1
  | j + 1 => betI (wfx x wear hs j) (if x = -1 ∨ x = j then wornI wear (hs.getD j (0, 0, 0, [])) else -1)
def s_worn (A : Ab) (h : Int) : Int := if h = -1 then wfx (-1) (wer (cor A)) (hds (cor A)) (hds (cor A)).length else match hdAt (cor A) h with
  | none => -1
  | some y => wornI (wer (cor A)) y
/-- how many pairs two trains have in common from their beginnings -/
def cpl : List (Nat × Nat) → List (Nat × Nat) → Nat
  | a :: s, b :: t => if a = b then cpl s t + 1 else 0
  | _, _ => 0
theorem cpl_le (s : List (Nat × Nat)) : ∀ t, cpl s t ≤ s.length := by
  induction s with
  | nil => intro t; simp [cpl]
  | cons a s ih =>
    intro t
    cases t with
    | nil => simp [cpl]
    | cons b t => rw [cpl]; have := ih t; split <;> simp <;> omega
def mxC (s : List (Nat × Nat)) (l : List Hd) : Nat := l.foldl (fun a o => max a (cpl s o.2.2.2)) 0
def shN (hs : List Hd) : Nat → Nat
  | 0 => 0
  | h + 1 => shN hs h + 2 * ((hs.getD h (0, 0, 0, [])).2.2.2.length - mxC (hs.getD h (0, 0, 0, [])).2.2.2 (hs.take h))
def s_shared (A : Ab) : Int := (shN (hds (cor A)) (hds (cor A)).length : Nat)
/-- draws: what is drawn i-th (from 1), whether it loses a day -/
def drw (s : Nat) : Nat → Nat
  | 0 => s
  | i + 1 => (drw s i * 1103 + 12345) % 1000003
def outN (s i : Nat) : Nat := if drw s (i + 1) % 10 = 0 then 1 else 0
def lostN (s H h : Nat) : Nat → Nat
  | 0 => 0
  | t + 1 => lostN s H h t + outN s (t * H + h)
def allN (s : Nat) : Nat → Nat
  | 0 => 0
  | i + 1 => allN s i + outN s i
theorem drw_lt {s : Nat} (h : s ≤ 1000000) : ∀ i, drw s i ≤ 1000002
  | 0 => by rw [drw]; omega
  | i + 1 => by rw [drw]; omega
theorem outN_le (s i : Nat) : outN s i ≤ 1 := by unfold outN; split <;> omega
theorem lostN_le (s H h : Nat) : ∀ t, lostN s H h t ≤ t
  | 0 => Nat.le_refl 0
  | t + 1 => by rw [lostN]; have := lostN_le s H h t; have := outN_le s (t * H + h); omega
theorem allN_le (s : Nat) : ∀ t, allN s t ≤ t
  | 0 => Nat.le_refl 0
  | t + 1 => by rw [allN]; have := allN_le s t; have := outN_le s t; omega
def stmL (hs : List Hd) (s day n : Nat) : List (Nat × Nat) := (List.range hs.length).map (fun h => (markD (hs.getD h (0, 0, 0, [])) (day + n - lostN s hs.length h n), lostN s hs.length h n))
def s_storm (A : Ab) (s d n : Int) : Int × Ab := if ((0 ≤ s ∧ s ≤ 1000000) ∧ (0 ≤ d ∧ d ≤ 1000000)) ∧ ((1 ≤ n ∧ n ≤ 100) ∧ d + n ≤ 1000000) then ((allN s.toNat (n.toNat * (hds (cor A)).length) : Int), (cor A, img A, tap A, flt A, bnt A, rfs A, 0, stmL (hds (cor A)) s.toNat d.toNat n.toNat)) else (-1, tellA A (-1))
def s_stormed (A : Ab) (h w : Int) : Int := if 0 ≤ h ∧ h < (stm A).length then (if w = 0 then (((stm A).getD h.toNat (0, 0)).1 : Int) else if w = 1 then (((stm A).getD h.toNat (0, 0)).2 : Int) else -1) else -1
