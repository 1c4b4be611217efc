-- rates in lowest terms answer as rates do
theorem gcd_pos_lo {y : Hd} (hY : HdOK y) : 0 < Nat.gcd (upN y.2.2.2) (loN y.2.2.2) := by
  have hb := rate_bd hY y.2.2.2.length
  rw [List.take_length] at hb
  exact Nat.gcd_pos_of_pos_right _ (by omega)
theorem rateU_mul (y : Hd) : Nat.gcd (upN y.2.2.2) (loN y.2.2.2) * rateU y = upN y.2.2.2 := Nat.mul_div_cancel' (Nat.gcd_dvd_left _ _)
theorem rateL_mul (y : Hd) : Nat.gcd (upN y.2.2.2) (loN y.2.2.2) * rateL y = loN y.2.2.2 := Nat.mul_div_cancel' (Nat.gcd_dvd_right _ _)
theorem rateU_le {y : Hd} (hY : HdOK y) : rateU y ≤ 207360000 := by
  have hb := rate_bd hY y.2.2.2.length
  rw [List.take_length] at hb
  exact Nat.le_trans (Nat.div_le_self _ _) hb.1.2
theorem rateL_bd {y : Hd} (hY : HdOK y) : 1 ≤ rateL y ∧ rateL y ≤ 207360000 := by
  have hb := rate_bd hY y.2.2.2.length
  rw [List.take_length] at hb
  exact ⟨Nat.div_pos (Nat.gcd_le_right _ (by omega)) (gcd_pos_lo hY), Nat.le_trans (Nat.div_le_self _ _) hb.2.2⟩
theorem red_mk0 {g u l u2 l2 go mk : Nat} (h0 : 0 < g) (h1 : g * u2 = u) (h2 : g * l2 = l) : go * u2 * mk / l2 = go * u * mk / l := by
  rw [← h1, ← h2, show go * (g * u2) * mk = g * (go * u2 * mk) by rw [Nat.mul_left_comm go g, Nat.mul_assoc g], Nat.mul_div_mul_left _ _ h0]
theorem red_mk {y : Hd} (hY : HdOK y) (go mk : Nat) : go * rateU y * mk / rateL y = go * upN y.2.2.2 * mk / loN y.2.2.2 := red_mk0 (gcd_pos_lo hY) (rateU_mul y) (rateL_mul y)
theorem red_tn {y : Hd} (hY : HdOK y) (go : Nat) : go * rateU y / rateL y = go * upN y.2.2.2 / loN y.2.2.2 := by
  have := red_mk hY go 1
  rwa [Nat.mul_one, Nat.mul_one] at this
theorem cup_eq {a b : Nat} (h0 : 0 < b) : a / b + (if a % b = 0 then 0 else 1) = (a + b - 1) / b := by
  have h1 := Nat.div_add_mod a b
  have h2 := Nat.mod_lt a h0
  split
  · rename_i h
    rw [Nat.add_zero]
    symm
    apply Nat.div_eq_of_lt_le
    · rw [Nat.mul_comm]; omega
    · rw [Nat.add_mul, Nat.mul_comm]; omega
  · rename_i h
    symm
    apply Nat.div_eq_of_lt_le
    · rw [Nat.add_mul, Nat.mul_comm]; omega
    · rw [Nat.add_mul, Nat.add_mul, Nat.mul_comm]; omega
theorem absN_mul (g a b : Nat) : absN (g * a) (g * b) = g * absN a b := by
  unfold absN
  by_cases h0 : g = 0
  · subst h0; simp
  by_cases h : a < b
  · rw [if_pos h, if_pos (Nat.mul_lt_mul_of_pos_left h (by omega)), Nat.mul_sub]
  · rw [if_neg h, if_neg (by have := Nat.mul_le_mul_left g (show b ≤ a by omega); omega), Nat.mul_sub]
theorem offN_red {g u l p q : Nat} {w : Int} (hg : 0 < g) : offN (g * u) (g * l) p q w = offN u l p q w := by
  unfold offN
  rw [Nat.mul_assoc, Nat.mul_assoc, Nat.mul_assoc, absN_mul, Nat.gcd_mul_left, Nat.mul_div_mul_left _ _ hg, Nat.mul_div_mul_left _ _ hg]
  by_cases z : absN (u * q) (l * p) = 0
  · rw [z, Nat.mul_zero, if_pos rfl, if_pos rfl]
  · rw [if_neg (show ¬ g * absN (u * q) (l * p) = 0 from Nat.mul_ne_zero (by omega) z), if_neg z, ← cup_eq (a := g * (l * q)) (b := g * absN (u * q) (l * p)) (Nat.mul_pos hg (by omega)), ← cup_eq (a := l * q) (b := absN (u * q) (l * p)) (by omega), Nat.mul_div_mul_left _ _ hg, Nat.mul_mod_mul_left]
    rw [show (if g * (l * q % absN (u * q) (l * p)) = 0 then 0 else 1) = (if l * q % absN (u * q) (l * p) = 0 then 0 else 1) from by
      by_cases e : l * q % absN (u * q) (l * p) = 0
      · rw [e, Nat.mul_zero]
      · rw [if_neg e, if_neg (Nat.mul_ne_zero (by omega) e)]]
theorem offN_y {y : Hd} (hY : HdOK y) {p q : Nat} {w : Int} : offN (rateU y) (rateL y) p q w = offN (upN y.2.2.2) (loN y.2.2.2) p q w := by
  rw [← offN_red (g := Nat.gcd (upN y.2.2.2) (loN y.2.2.2)) (u := rateU y) (l := rateL y) (gcd_pos_lo hY), rateU_mul, rateL_mul]
theorem QX.q {T : mT} {n : Nat} {I : mI} {J : mJ} {F : mF} {x : Nat} {A : Ab} {r r' : Option Value} (hX : XS T F x) (hR : RepX T I J F x A) (h : r = r') : QX x T n I J F r' A r T n I J F := by
  subst h
  exact ⟨rfl, fun _ _ z => z, Nat.le_refl _, FrX.rf, FrX.rf, FrX.rf, hX, hR⟩
theorem RepX.hd {T : mT} {I : mI} {J : mJ} {F : mF} {x h : Nat} {A : Ab} {y : Hd} (hR : RepX T I J F x A) (hy : (hds (cor A))[h]? = some y) : HdX I J (x + 1 + 8 + 2 * h) y := hR.2.2.1.2.1 h y hy
