-- numbers
def iI (z : Int) : Int32 := Int32.ofInt z
def lI (z : Int) : Int64 := Int64.ofInt z
theorem iI_nat (k : Nat) : iI (k : Int) = nI k := by unfold iI nI; exact Int32.ofInt_eq_ofNat
theorem iI_toInt {z : Int} (h1 : -2147483648 ≤ z) (h2 : z ≤ 2147483647) : (iI z).toInt = z := by unfold iI; exact Int32.toInt_ofInt_of_le h1 (by omega)
theorem iI_of (x : Int32) : x = iI x.toInt := by unfold iI; exact (Int32.ofInt_toInt x).symm
theorem lI_toInt {z : Int} (h1 : -9223372036854775808 ≤ z) (h2 : z ≤ 9223372036854775807) : (lI z).toInt = z := by unfold lI; exact Int64.toInt_ofInt_of_le h1 (by omega)
theorem lI_of (x : Int64) : x = lI x.toInt := by unfold lI; exact (Int64.ofInt_toInt x).symm
theorem lI_nat (k : Nat) : lI (k : Int) = lN k := by unfold lI lN; exact Int64.ofInt_eq_ofNat
theorem lI_add (a b : Int) : lI a + lI b = lI (a + b) := by unfold lI; exact (Int64.ofInt_add a b).symm
theorem lI_sub (a b : Int) : lI a - lI b = lI (a - b) := by unfold lI; exact (Int64.ofInt_sub a b).symm
theorem lI_mul (a b : Int) : lI a * lI b = lI (a * b) := by unfold lI; exact (Int64.ofInt_mul a b).symm
theorem lI_neg (a : Int) : -lI a = lI (-a) := by unfold lI; exact (Int64.ofInt_neg a).symm
theorem iI_add (a b : Int) : iI a + iI b = iI (a + b) := by unfold iI; exact (Int32.ofInt_add a b).symm
theorem iI_sub (a b : Int) : iI a - iI b = iI (a - b) := by unfold iI; exact (Int32.ofInt_sub a b).symm
theorem iI_mul (a b : Int) : iI a * iI b = iI (a * b) := by unfold iI; exact (Int32.ofInt_mul a b).symm
theorem iI_neg (a : Int) : -iI a = iI (-a) := by unfold iI; exact (Int32.ofInt_neg a).symm
theorem lN_toI {n : Nat} (h : n < 2 ^ 63) : (lN n).toInt = (n : Int) := by rw [← lI_nat]; exact lI_toInt (by omega) (by omega)
theorem nI_toI {n : Nat} (h : n < 2 ^ 31) : (nI n).toInt = (n : Int) := nI_toInt h
theorem lN_leL {a b : Nat} (ha : a < 2 ^ 63) (hb : b < 2 ^ 63) : lN a ≤ lN b ↔ a ≤ b := by rw [Int64.le_iff_toInt_le, lN_toI ha, lN_toI hb]; omega
theorem lN_ltL {a b : Nat} (ha : a < 2 ^ 63) (hb : b < 2 ^ 63) : lN a < lN b ↔ a < b := by rw [Int64.lt_iff_toInt_lt, lN_toI ha, lN_toI hb]; omega
theorem lN_eqL {a b : Nat} (ha : a < 2 ^ 63) (hb : b < 2 ^ 63) : lN a = lN b ↔ a = b := by rw [← Int64.toInt_inj, lN_toI ha, lN_toI hb]; omega
theorem toI64 (x : Int32) : x.toInt64.toInt = x.toInt := Int32.toInt_toInt64 x
theorem lN_div {a b : Nat} (ha : a < 2 ^ 63) (hb : b < 2 ^ 63) : lN a / lN b = lN (a / b) := by
  rw [← Int64.toInt_inj, Int64.toInt_div, lN_toI ha, lN_toI hb, lN_toI (Nat.lt_of_le_of_lt (Nat.div_le_self a b) ha)]
  rw [Int.tdiv_eq_ediv_of_nonneg (by omega)]
  have h1 : (a : Int) / (b : Int) = ((a / b : Nat) : Int) := by omega
  rw [h1]
  have h2 : a / b ≤ a := Nat.div_le_self a b
  have h3 : ((a / b : Nat) : Int) ≤ (a : Int) := by exact_mod_cast h2
  have h4 : (0 : Int) ≤ ((a / b : Nat) : Int) := Int.natCast_nonneg _
  generalize ((a / b : Nat) : Int) = q at h3 h4 ⊢
  exact Int.bmod_eq_of_le (by omega) (by omega)
theorem lN_rem {a b : Nat} (ha : a < 2 ^ 63) (hb : b < 2 ^ 63) : lN a - lN a / lN b * lN b = lN (a % b) := by
  have h1 : a / b * b ≤ a := Nat.div_mul_le_self a b
  rw [lN_div ha hb, lN_mul, lN_sub h1]
  congr 1
  have := Nat.div_add_mod a b
  have h3 : b * (a / b) = a / b * b := Nat.mul_comm _ _
  omega
theorem nI_div {a b : Nat} (ha : a < 2 ^ 31) (hb : b < 2 ^ 31) (h0 : 0 < b) : nI a / nI b = nI (a / b) := pk_div ha h0 hb
theorem i64_ne0 {x : Int32} (h : ¬ x = 0) : ¬ x.toInt64 = 0 := by
  intro q
  apply h
  rw [← Int32.toInt_inj]
  have := congrArg Int64.toInt q
  rw [toI64] at this
  simpa using this
theorem lN_abs1 {a b : Nat} (ha : a < 2 ^ 62) (hb : b < 2 ^ 62) : (if lN a - lN b < 0 then -(lN a - lN b) else lN a - lN b) = lN (if a < b then b - a else a - b) := by
  rw [← lI_nat a, ← lI_nat b, lI_sub]
  have e0 : (0 : Int64) = lI 0 := rfl
  by_cases h : a < b
  · rw [if_pos h, if_pos, lI_neg, ← lI_nat]
    · congr 1; omega
    · rw [e0, Int64.lt_iff_toInt_lt, lI_toInt (by omega) (by omega), lI_toInt (by omega) (by omega)]; omega
  · rw [if_neg h, if_neg, ← lI_nat]
    · congr 1; omega
    · rw [e0, Int64.lt_iff_toInt_lt, lI_toInt (by omega) (by omega), lI_toInt (by omega) (by omega)]; omega
theorem lN_abs2 {a b : Nat} (ha : a < 2 ^ 62) (hb : b < 2 ^ 62) : (if 0 < lN a - lN b then lN a - lN b else -(lN a - lN b)) = lN (if a < b then b - a else a - b) := by
  rw [← lI_nat a, ← lI_nat b, lI_sub]
  have e0 : (0 : Int64) = lI 0 := rfl
  by_cases h : b < a
  · rw [if_pos, if_neg (by omega), ← lI_nat]
    · congr 1; omega
    · rw [e0, Int64.lt_iff_toInt_lt, lI_toInt (by omega) (by omega), lI_toInt (by omega) (by omega)]; omega
  · rw [if_neg, lI_neg, ← lI_nat]
    · congr 1; by_cases h2 : a < b
      · rw [if_pos h2]; omega
      · rw [if_neg h2]; omega
    · rw [e0, Int64.lt_iff_toInt_lt, lI_toInt (by omega) (by omega), lI_toInt (by omega) (by omega)]; omega
theorem in64 (x : Int32) (a b : Int64) (za zb : Int) (h1 : a.toInt = za) (h2 : b.toInt = zb) : (a ≤ x.toInt64 ∧ x.toInt64 ≤ b) ↔ (za ≤ x.toInt ∧ x.toInt ≤ zb) := by
  rw [Int64.le_iff_toInt_le, Int64.le_iff_toInt_le, toI64, h1, h2]
theorem lt32 (x y : Int32) : x < y ↔ x.toInt < y.toInt := Int32.lt_iff_toInt_lt
theorem le32 (x y : Int32) : x ≤ y ↔ x.toInt ≤ y.toInt := Int32.le_iff_toInt_le
theorem eq32 (x y : Int32) : x = y ↔ x.toInt = y.toInt := Int32.toInt_inj.symm
theorem bd32 (x : Int32) : -2147483648 ≤ x.toInt ∧ x.toInt ≤ 2147483647 := ⟨Int32.le_toInt x, by have := Int32.toInt_lt x; omega⟩
