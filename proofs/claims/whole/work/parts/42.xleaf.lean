theorem x_areTeeth {g : gG} {d : Nat} {T : mT} {n : Nat} {I : mI} {J : mJ} {F : mF} (x : Int32)  : Ct g mX11_areTeeth (d + 0) [.int x] 0 0 T n I J F (pureQ T n I J F (some (.int (bi (6 ≤ x.toInt ∧ x.toInt ≤ 120))))) := by
  refine Ct.ofV (k := 0) (by decide) (Nat.le_of_ble_eq_true rfl) ?_
  show V g mX11_areTeeth (d + 0) _ 0 0 0 [some (.int x)] [] T n I J F
  refine V.iload_n (pc := 0) dX11_areTeeth_0 rfl ?_
  refine V.bipush (v := 6) (pc := 1) dX11_areTeeth_1 (by decide) ?_
  refine V.icmp_lt 16 (pc := 3) dX11_areTeeth_3 (by decide) (fun h3 => ?_) (fun h3 => ?_)
  · refine V.iconst (v := 0) (pc := 16) dX11_areTeeth_16 (by decide) ?_
    exact V.zret (pc := 17) dX11_areTeeth_17 rfl (by first | exact Or.inl rfl | exact Or.inr rfl | exact bi_or | assumption) ⟨congrArg (fun z => some (Value.int z)) (bi_f (by have e0 : (0 : Int32).toInt = 0 := rfl; have e1 : (1 : Int32).toInt = 1 := rfl; have e6 : (6 : Int32).toInt = 6 := rfl; have e120 : (120 : Int32).toInt = 120 := rfl; have eM : (1000000 : Int32).toInt = 1000000 := rfl; have eR : (100000 : Int32).toInt = 100000 := rfl; rw [lt32] at h3; omega)).symm, rfl, rfl, rfl, rfl, rfl⟩
  · refine V.iload_n (pc := 6) dX11_areTeeth_6 rfl ?_
    refine V.bipush (v := 120) (pc := 7) dX11_areTeeth_7 (by decide) ?_
    refine V.icmp_gt 16 (pc := 9) dX11_areTeeth_9 (by decide) (fun h9 => ?_) (fun h9 => ?_)
    · refine V.iconst (v := 0) (pc := 16) dX11_areTeeth_16 (by decide) ?_
      exact V.zret (pc := 17) dX11_areTeeth_17 rfl (by first | exact Or.inl rfl | exact Or.inr rfl | exact bi_or | assumption) ⟨congrArg (fun z => some (Value.int z)) (bi_f (by have e0 : (0 : Int32).toInt = 0 := rfl; have e1 : (1 : Int32).toInt = 1 := rfl; have e6 : (6 : Int32).toInt = 6 := rfl; have e120 : (120 : Int32).toInt = 120 := rfl; have eM : (1000000 : Int32).toInt = 1000000 := rfl; have eR : (100000 : Int32).toInt = 100000 := rfl; rw [lt32] at h3; rw [lt32] at h9; omega)).symm, rfl, rfl, rfl, rfl, rfl⟩
    · refine V.iconst (v := 1) (pc := 12) dX11_areTeeth_12 (by decide) ?_
      refine V.goto 17 (pc := 13) dX11_areTeeth_13 (by decide) ?_
      exact V.zret (pc := 17) dX11_areTeeth_17 rfl (by first | exact Or.inl rfl | exact Or.inr rfl | exact bi_or | assumption) ⟨congrArg (fun z => some (Value.int z)) (bi_t (by have e0 : (0 : Int32).toInt = 0 := rfl; have e1 : (1 : Int32).toInt = 1 := rfl; have e6 : (6 : Int32).toInt = 6 := rfl; have e120 : (120 : Int32).toInt = 120 := rfl; have eM : (1000000 : Int32).toInt = 1000000 := rfl; have eR : (100000 : Int32).toInt = 100000 := rfl; rw [lt32] at h3; rw [lt32] at h9; omega)).symm, rfl, rfl, rfl, rfl, rfl⟩
theorem x_isDay {g : gG} {d : Nat} {T : mT} {n : Nat} {I : mI} {J : mJ} {F : mF} (x : Int32)  : Ct g mX11_isDay (d + 0) [.int x] 0 0 T n I J F (pureQ T n I J F (some (.int (bi (0 ≤ x.toInt ∧ x.toInt ≤ 1000000))))) := by
  refine Ct.ofV (k := 0) (by decide) (Nat.le_of_ble_eq_true rfl) ?_
  show V g mX11_isDay (d + 0) _ 0 0 0 [some (.int x)] [] T n I J F
  refine V.iload_n (pc := 0) dX11_isDay_0 rfl ?_
  refine V.if_lt 14 (pc := 1) dX11_isDay_1 (by decide) (fun h1 => ?_) (fun h1 => ?_)
  · refine V.iconst (v := 0) (pc := 14) dX11_isDay_14 (by decide) ?_
    exact V.zret (pc := 15) dX11_isDay_15 rfl (by first | exact Or.inl rfl | exact Or.inr rfl | exact bi_or | assumption) ⟨congrArg (fun z => some (Value.int z)) (bi_f (by have e0 : (0 : Int32).toInt = 0 := rfl; have e1 : (1 : Int32).toInt = 1 := rfl; have e6 : (6 : Int32).toInt = 6 := rfl; have e120 : (120 : Int32).toInt = 120 := rfl; have eM : (1000000 : Int32).toInt = 1000000 := rfl; have eR : (100000 : Int32).toInt = 100000 := rfl; rw [lt32] at h1; omega)).symm, rfl, rfl, rfl, rfl, rfl⟩
  · refine V.iload_n (pc := 4) dX11_isDay_4 rfl ?_
    refine V.ldc (pc := 5) dX11_isDay_5 qX11_139 ?_
    refine V.icmp_gt 14 (pc := 7) dX11_isDay_7 (by decide) (fun h7 => ?_) (fun h7 => ?_)
    · refine V.iconst (v := 0) (pc := 14) dX11_isDay_14 (by decide) ?_
      exact V.zret (pc := 15) dX11_isDay_15 rfl (by first | exact Or.inl rfl | exact Or.inr rfl | exact bi_or | assumption) ⟨congrArg (fun z => some (Value.int z)) (bi_f (by have e0 : (0 : Int32).toInt = 0 := rfl; have e1 : (1 : Int32).toInt = 1 := rfl; have e6 : (6 : Int32).toInt = 6 := rfl; have e120 : (120 : Int32).toInt = 120 := rfl; have eM : (1000000 : Int32).toInt = 1000000 := rfl; have eR : (100000 : Int32).toInt = 100000 := rfl; rw [lt32] at h1; rw [lt32] at h7; omega)).symm, rfl, rfl, rfl, rfl, rfl⟩
    · refine V.iconst (v := 1) (pc := 10) dX11_isDay_10 (by decide) ?_
      refine V.goto 15 (pc := 11) dX11_isDay_11 (by decide) ?_
      exact V.zret (pc := 15) dX11_isDay_15 rfl (by first | exact Or.inl rfl | exact Or.inr rfl | exact bi_or | assumption) ⟨congrArg (fun z => some (Value.int z)) (bi_t (by have e0 : (0 : Int32).toInt = 0 := rfl; have e1 : (1 : Int32).toInt = 1 := rfl; have e6 : (6 : Int32).toInt = 6 := rfl; have e120 : (120 : Int32).toInt = 120 := rfl; have eM : (1000000 : Int32).toInt = 1000000 := rfl; have eR : (100000 : Int32).toInt = 100000 := rfl; rw [lt32] at h1; rw [lt32] at h7; omega)).symm, rfl, rfl, rfl, rfl, rfl⟩
theorem x_isRate {g : gG} {d : Nat} {T : mT} {n : Nat} {I : mI} {J : mJ} {F : mF} (p q : Int32)  : Ct g mX11_isRate (d + 0) [.int p, .int q] 0 0 T n I J F (pureQ T n I J F (some (.int (bi ((1 ≤ p.toInt ∧ p.toInt ≤ 100000) ∧ (1 ≤ q.toInt ∧ q.toInt ≤ 100000)))))) := by
  refine Ct.ofV (k := 0) (by decide) (Nat.le_of_ble_eq_true rfl) ?_
  show V g mX11_isRate (d + 0) _ 0 0 0 [some (.int p), some (.int q)] [] T n I J F
  refine V.iload_n (pc := 0) dX11_isRate_0 rfl ?_
  refine V.iconst (v := 1) (pc := 1) dX11_isRate_1 (by decide) ?_
  refine V.icmp_lt 28 (pc := 2) dX11_isRate_2 (by decide) (fun h2 => ?_) (fun h2 => ?_)
  · refine V.iconst (v := 0) (pc := 28) dX11_isRate_28 (by decide) ?_
    exact V.zret (pc := 29) dX11_isRate_29 rfl (by first | exact Or.inl rfl | exact Or.inr rfl | exact bi_or | assumption) ⟨congrArg (fun z => some (Value.int z)) (bi_f (by have e0 : (0 : Int32).toInt = 0 := rfl; have e1 : (1 : Int32).toInt = 1 := rfl; have e6 : (6 : Int32).toInt = 6 := rfl; have e120 : (120 : Int32).toInt = 120 := rfl; have eM : (1000000 : Int32).toInt = 1000000 := rfl; have eR : (100000 : Int32).toInt = 100000 := rfl; rw [lt32] at h2; omega)).symm, rfl, rfl, rfl, rfl, rfl⟩
  · refine V.iload_n (pc := 5) dX11_isRate_5 rfl ?_
    refine V.ldcw (pc := 6) dX11_isRate_6 qX11_343 ?_
    refine V.icmp_gt 28 (pc := 9) dX11_isRate_9 (by decide) (fun h9 => ?_) (fun h9 => ?_)
    · refine V.iconst (v := 0) (pc := 28) dX11_isRate_28 (by decide) ?_
      exact V.zret (pc := 29) dX11_isRate_29 rfl (by first | exact Or.inl rfl | exact Or.inr rfl | exact bi_or | assumption) ⟨congrArg (fun z => some (Value.int z)) (bi_f (by have e0 : (0 : Int32).toInt = 0 := rfl; have e1 : (1 : Int32).toInt = 1 := rfl; have e6 : (6 : Int32).toInt = 6 := rfl; have e120 : (120 : Int32).toInt = 120 := rfl; have eM : (1000000 : Int32).toInt = 1000000 := rfl; have eR : (100000 : Int32).toInt = 100000 := rfl; rw [lt32] at h2; rw [lt32] at h9; omega)).symm, rfl, rfl, rfl, rfl, rfl⟩
    · refine V.iload_n (pc := 12) dX11_isRate_12 rfl ?_
      refine V.iconst (v := 1) (pc := 13) dX11_isRate_13 (by decide) ?_
      refine V.icmp_lt 28 (pc := 14) dX11_isRate_14 (by decide) (fun h14 => ?_) (fun h14 => ?_)
      · refine V.iconst (v := 0) (pc := 28) dX11_isRate_28 (by decide) ?_
        exact V.zret (pc := 29) dX11_isRate_29 rfl (by first | exact Or.inl rfl | exact Or.inr rfl | exact bi_or | assumption) ⟨congrArg (fun z => some (Value.int z)) (bi_f (by have e0 : (0 : Int32).toInt = 0 := rfl; have e1 : (1 : Int32).toInt = 1 := rfl; have e6 : (6 : Int32).toInt = 6 := rfl; have e120 : (120 : Int32).toInt = 120 := rfl; have eM : (1000000 : Int32).toInt = 1000000 := rfl; have eR : (100000 : Int32).toInt = 100000 := rfl; rw [lt32] at h2; rw [lt32] at h9; rw [lt32] at h14; omega)).symm, rfl, rfl, rfl, rfl, rfl⟩
      · refine V.iload_n (pc := 17) dX11_isRate_17 rfl ?_
        refine V.ldcw (pc := 18) dX11_isRate_18 qX11_343 ?_
        refine V.icmp_gt 28 (pc := 21) dX11_isRate_21 (by decide) (fun h21 => ?_) (fun h21 => ?_)
        · refine V.iconst (v := 0) (pc := 28) dX11_isRate_28 (by decide) ?_
          exact V.zret (pc := 29) dX11_isRate_29 rfl (by first | exact Or.inl rfl | exact Or.inr rfl | exact bi_or | assumption) ⟨congrArg (fun z => some (Value.int z)) (bi_f (by have e0 : (0 : Int32).toInt = 0 := rfl; have e1 : (1 : Int32).toInt = 1 := rfl; have e6 : (6 : Int32).toInt = 6 := rfl; have e120 : (120 : Int32).toInt = 120 := rfl; have eM : (1000000 : Int32).toInt = 1000000 := rfl; have eR : (100000 : Int32).toInt = 100000 := rfl; rw [lt32] at h2; rw [lt32] at h9; rw [lt32] at h14; rw [lt32] at h21; omega)).symm, rfl, rfl, rfl, rfl, rfl⟩
        · refine V.iconst (v := 1) (pc := 24) dX11_isRate_24 (by decide) ?_
          refine V.goto 29 (pc := 25) dX11_isRate_25 (by decide) ?_
          exact V.zret (pc := 29) dX11_isRate_29 rfl (by first | exact Or.inl rfl | exact Or.inr rfl | exact bi_or | assumption) ⟨congrArg (fun z => some (Value.int z)) (bi_t (by have e0 : (0 : Int32).toInt = 0 := rfl; have e1 : (1 : Int32).toInt = 1 := rfl; have e6 : (6 : Int32).toInt = 6 := rfl; have e120 : (120 : Int32).toInt = 120 := rfl; have eM : (1000000 : Int32).toInt = 1000000 := rfl; have eR : (100000 : Int32).toInt = 100000 := rfl; rw [lt32] at h2; rw [lt32] at h9; rw [lt32] at h14; rw [lt32] at h21; omega)).symm, rfl, rfl, rfl, rfl, rfl⟩
theorem x_daysGone {g : gG} {d : Nat} {T : mT} {n : Nat} {I : mI} {J : mJ} {F : mF} {dd gap : Nat} (x y : Int32) (hx : x = nI dd) (hy : y = nI gap) (hq1 : dd ≤ 1000000) (hq2 : gap ≤ 9999) : Ct g mX11_daysGone (d + 0) [.int x, .int y] 0 0 T n I J F (pureQ T n I J F (some (.long (lN (goN dd gap))))) := by
  refine Ct.ofV (k := 0) (by decide) (Nat.le_of_ble_eq_true rfl) ?_
  show V g mX11_daysGone (d + 0) _ 0 0 0 [some (.int x), some (.int y)] [] T n I J F
  subst hx hy
  refine V.iload_n (pc := 0) dX11_daysGone_0 rfl ?_
  refine V.if_le 13 (pc := 1) dX11_daysGone_1 (by decide) (fun h1 => ?_) (fun h1 => ?_)
  · have g0 : gap = 0 := by
      rw [L0, nI_leI (by omega) (by omega)] at h1
      omega
    refine V.iload_n (pc := 13) dX11_daysGone_13 rfl ?_
    refine V.i2l (pc := 14) dX11_daysGone_14 ?_
    rw [nI_l (by omega)]
    exact V.lret (pc := 15) dX11_daysGone_15 rfl ⟨by rw [goN, if_pos g0], rfl, rfl, rfl, rfl, rfl⟩
  · have g0 : ¬ gap = 0 := fun z => h1 (by rw [z]; decide)
    refine V.iload_n (pc := 4) dX11_daysGone_4 rfl ?_
    refine V.iload_n (pc := 5) dX11_daysGone_5 rfl ?_
    refine V.iload_n (pc := 6) dX11_daysGone_6 rfl ?_
    refine V.idiv (pc := 7) dX11_daysGone_7 (by rw [L0, nI_eq (by omega) (by omega)]; exact g0) ?_
    rw [pk_div (by omega) (by omega) (by omega)]
    refine V.isub (pc := 8) dX11_daysGone_8 ?_
    rw [pk_sub (Nat.div_le_self _ _)]
    refine V.i2l (pc := 9) dX11_daysGone_9 ?_
    rw [nI_l (Nat.lt_of_le_of_lt (Nat.sub_le _ _) (by omega))]
    refine V.goto 15 (pc := 10) dX11_daysGone_10 (by decide) ?_
    exact V.lret (pc := 15) dX11_daysGone_15 rfl ⟨by rw [goN, if_neg g0], rfl, rfl, rfl, rfl, rfl⟩
theorem x_cut {g : gG} {d : Nat} {T : mT} {n : Nat} {I : mI} {J : mJ} {F : mF} {a b : Nat} (x y : Int64) (hx : x = lN a) (hy : y = lN b) (ha : a < 2 ^ 63) (hb : b < 2 ^ 63) : Ct g mX11_cut (d + 0) [.long x, .long y] 0 0 T n I J F (pureQ T n I J F (some (.long (lN (a / b))))) := by
  refine Ct.ofV (k := 0) (by decide) (Nat.le_of_ble_eq_true rfl) ?_
  show V g mX11_cut (d + 0) _ 0 0 0 [some (.long x), none, some (.long y), none] [] T n I J F
  subst hx hy
  refine V.lload_n (pc := 0) dX11_cut_0 rfl ?_
  refine V.lconst (v := 0) (pc := 1) dX11_cut_1 (by decide) ?_
  refine V.lcmp_ne 10 (pc := 2) dX11_cut_2 dX11_cut_3 (by decide) (fun h2 => ?_) (fun h2 => ?_)
  · refine V.lload_n (pc := 10) dX11_cut_10 rfl ?_
    refine V.lload_n (pc := 11) dX11_cut_11 rfl ?_
    refine V.ldiv (pc := 12) dX11_cut_12 h2 ?_
    rw [lN_div ha hb]
    exact V.lret (pc := 13) dX11_cut_13 rfl ⟨rfl, rfl, rfl, rfl, rfl, rfl⟩
  · have b0 : b = 0 := by
      rw [show (0 : Int64) = lN 0 from rfl, lN_eqL (by omega) (by decide)] at h2
      exact h2
    refine V.lconst (v := 0) (pc := 6) dX11_cut_6 (by decide) ?_
    refine V.goto 13 (pc := 7) dX11_cut_7 (by decide) ?_
    exact V.lret (pc := 13) dX11_cut_13 rfl ⟨by rw [b0, Nat.div_zero]; rfl, rfl, rfl, rfl, rfl, rfl⟩
theorem x_remainder {g : gG} {d : Nat} {T : mT} {n : Nat} {I : mI} {J : mJ} {F : mF} {a b : Nat} (x y : Int64) (hx : x = lN a) (hy : y = lN b) (ha : a < 2 ^ 63) (hb : b < 2 ^ 63) (h0 : 0 < b) : Ct g mX11_remainder (d + 0) [.long x, .long y] 0 0 T n I J F (pureQ T n I J F (some (.long (lN (a % b))))) := by
  refine Ct.ofV (k := 0) (by decide) (Nat.le_of_ble_eq_true rfl) ?_
  show V g mX11_remainder (d + 0) _ 0 0 0 [some (.long x), none, some (.long y), none] [] T n I J F
  subst hx hy
  refine V.lload_n (pc := 0) dX11_remainder_0 rfl ?_
  refine V.lconst (v := 0) (pc := 1) dX11_remainder_1 (by decide) ?_
  refine V.lcmp_ne 10 (pc := 2) dX11_remainder_2 dX11_remainder_3 (by decide) (fun h2 => ?_) (fun h2 => absurd h2 (by rw [show (0 : Int64) = lN 0 from rfl, lN_eqL (by omega) (by decide)]; omega))
  refine V.lload_n (pc := 10) dX11_remainder_10 rfl ?_
  refine V.lload_n (pc := 11) dX11_remainder_11 rfl ?_
  refine V.lrem (pc := 12) dX11_remainder_12 h2 ?_
  rw [lN_rem ha hb]
  exact V.lret (pc := 13) dX11_remainder_13 rfl ⟨rfl, rfl, rfl, rfl, rfl, rfl⟩
theorem x_cutUp {g : gG} {d : Nat} {T : mT} {n : Nat} {I : mI} {J : mJ} {F : mF} {a b : Nat} (x y : Int64) (hx : x = lN a) (hy : y = lN b) (ha : a < 2 ^ 63) (hb : b < 2 ^ 63) (h0 : 0 < b) : Ct g mX11_cutUp (d + 1) [.long x, .long y] 0 0 T n I J F (pureQ T n I J F (some (.long (lN (a / b + if a % b = 0 then 0 else 1))))) := by
  refine Ct.ofV (k := 0) (by decide) (Nat.le_of_ble_eq_true rfl) ?_
  show V g mX11_cutUp (d + 1) _ 0 0 0 [some (.long x), none, some (.long y), none] [] T n I J F
  have hm := Nat.mod_lt a h0
  refine V.lload_n (pc := 0) dX11_cutUp_0 rfl ?_
  refine V.lload_n (pc := 1) dX11_cutUp_1 rfl ?_
  refine V.pS (as := [_, _]) (pc := 2) dX11_cutUp_2 lX11_344 bX11_cut sX11_cut (x_cut (d := d + 0) (a := a) (b := b) _ _ hx hy ha hb) (by omega) rfl (Nat.le_of_ble_eq_true rfl) ?_
  refine V.lload_n (pc := 5) dX11_cutUp_5 rfl ?_
  refine V.lload_n (pc := 6) dX11_cutUp_6 rfl ?_
  refine V.pS (as := [_, _]) (pc := 7) dX11_cutUp_7 lX11_347 bX11_remainder sX11_remainder (x_remainder (d := d + 0) (a := a) (b := b) _ _ hx hy ha hb h0) (by omega) rfl (Nat.le_of_ble_eq_true rfl) ?_
  refine V.lconst (v := 0) (pc := 10) dX11_cutUp_10 (by decide) ?_
  refine V.lcmp_ne 19 (pc := 11) dX11_cutUp_11 dX11_cutUp_12 (by decide) (fun h11 => ?_) (fun h11 => ?_)
  · have e : ¬ a % b = 0 := fun z => h11 (by rw [z]; rfl)
    refine V.iconst (v := 1) (pc := 19) dX11_cutUp_19 (by decide) ?_
    refine V.i2l (pc := 20) dX11_cutUp_20 ?_
    rw [show (1 : Int32).toInt64 = lN 1 from rfl]
    refine V.ladd (pc := 21) dX11_cutUp_21 ?_
    rw [lN_add]
    exact V.lret (pc := 22) dX11_cutUp_22 rfl ⟨by rw [if_neg e], rfl, rfl, rfl, rfl, rfl⟩
  · have e : a % b = 0 := by
      rw [show (0 : Int64) = lN 0 from rfl, lN_eqL (by omega) (by decide)] at h11
      exact h11
    refine V.iconst (v := 0) (pc := 15) dX11_cutUp_15 (by decide) ?_
    refine V.goto 20 (pc := 16) dX11_cutUp_16 (by decide) ?_
    refine V.i2l (pc := 20) dX11_cutUp_20 ?_
    rw [show (0 : Int32).toInt64 = lN 0 from rfl]
    refine V.ladd (pc := 21) dX11_cutUp_21 ?_
    rw [lN_add]
    exact V.lret (pc := 22) dX11_cutUp_22 rfl ⟨by rw [if_pos e], rfl, rfl, rfl, rfl, rfl⟩
theorem L100 : (100 : Int32) = nI 100 := rfl
theorem mod_half {b r : Nat} (h0 : 0 < r) (h : r < b) : 2 * (b % r) < b := by
  have h1 := Nat.mod_lt b h0
  have h2 := Nat.div_add_mod b r
  have h3 : 1 ≤ b / r := Nat.div_pos (by omega) h0
  have h4 : r * 1 ≤ r * (b / r) := Nat.mul_le_mul_left r h3
  omega
theorem g_step {g : gG} {d : Nat} {T : mT} {n : Nat} {I : mI} {J : mJ} {F : mF} {a b : Int64} {x y i : Nat} {r : Option Value} (hx : x < 2 ^ 63) (hy : y < 2 ^ 63) (hi : i < 100) (h0 : y ≠ 0) (kk : V g mX11_greatestCommon (d + 0) (pureQ T n I J F (some (.long (lN (Nat.gcd y (x % y)))))) 0 0 9 [some (.long a), none, some (.long b), none, some (.long (lN y)), none, some (.long (lN (x % y))), none, some (.int (nI (i + 1))), some (.long (lN (x % y))), none] [] T n I J F) : V g mX11_greatestCommon (d + 0) (pureQ T n I J F (some (.long (lN (Nat.gcd x y))))) 0 0 9 [some (.long a), none, some (.long b), none, some (.long (lN x)), none, some (.long (lN y)), none, some (.int (nI i)), r, none] [] T n I J F := by
  rw [show Nat.gcd y (x % y) = Nat.gcd x y by rw [Nat.gcd_comm x y, Nat.gcd_rec y x, Nat.gcd_comm]] at kk
  refine V.iload (pc := 9) dX11_greatestCommon_9 rfl ?_
  refine V.bipush (v := 100) (pc := 11) dX11_greatestCommon_11 (by decide) ?_
  refine V.icmp_ge 44 (pc := 13) dX11_greatestCommon_13 (by decide) (fun h13 => absurd h13 (by rw [L100]; exact nI_ge (by omega) (by omega))) (fun h13 => ?_)
  refine V.lload (pc := 16) dX11_greatestCommon_16 rfl ?_
  refine V.lconst (v := 0) (pc := 18) dX11_greatestCommon_18 (by decide) ?_
  refine V.lcmp_eq 44 (pc := 19) dX11_greatestCommon_19 dX11_greatestCommon_20 (by decide) (fun h19 => absurd h19 (by rw [show (0 : Int64) = lN 0 from rfl, lN_eqL hy (by decide)]; exact h0)) (fun h19 => ?_)
  refine V.lload (pc := 23) dX11_greatestCommon_23 rfl ?_
  refine V.lload (pc := 25) dX11_greatestCommon_25 rfl ?_
  refine V.lrem (pc := 27) dX11_greatestCommon_27 (by rw [show (0 : Int64) = lN 0 from rfl, lN_eqL hy (by decide)]; exact h0) ?_
  rw [lN_rem hx hy]
  refine V.ls (pc := 28) dX11_greatestCommon_28 (by decide) (st2_9 rfl) ?_
  refine V.lload (pc := 30) dX11_greatestCommon_30 rfl ?_
  refine V.ls (pc := 32) dX11_greatestCommon_32 (by decide) (st2_4 rfl) ?_
  refine V.lload (pc := 34) dX11_greatestCommon_34 rfl ?_
  refine V.ls (pc := 36) dX11_greatestCommon_36 (by decide) (st2_6 rfl) ?_
  refine V.iinc1 (pc := 38) dX11_greatestCommon_38 (by decide) rfl (st1_8 rfl) ?_
  refine V.goto 9 (pc := 41) dX11_greatestCommon_41 (by decide) ?_
  rw [nI_1]
  exact kk
theorem g_end {g : gG} {d : Nat} {T : mT} {n : Nat} {I : mI} {J : mJ} {F : mF} {a b : Int64} {x i : Nat} {r : Option Value} (hi : i ≤ 100) : V g mX11_greatestCommon (d + 0) (pureQ T n I J F (some (.long (lN (Nat.gcd x 0))))) 0 0 9 [some (.long a), none, some (.long b), none, some (.long (lN x)), none, some (.long (lN 0)), none, some (.int (nI i)), r, none] [] T n I J F := by
  rw [Nat.gcd_zero_right]
  refine V.iload (pc := 9) dX11_greatestCommon_9 rfl ?_
  refine V.bipush (v := 100) (pc := 11) dX11_greatestCommon_11 (by decide) ?_
  refine V.icmp_ge 44 (pc := 13) dX11_greatestCommon_13 (by decide) (fun h13 => ?_) (fun h13 => ?_)
  · refine V.lload (pc := 44) dX11_greatestCommon_44 rfl ?_
    exact V.lret (pc := 46) dX11_greatestCommon_46 rfl ⟨rfl, rfl, rfl, rfl, rfl, rfl⟩
  · refine V.lload (pc := 16) dX11_greatestCommon_16 rfl ?_
    refine V.lconst (v := 0) (pc := 18) dX11_greatestCommon_18 (by decide) ?_
    refine V.lcmp_eq 44 (pc := 19) dX11_greatestCommon_19 dX11_greatestCommon_20 (by decide) (fun h19 => ?_) (fun h19 => absurd rfl h19)
    refine V.lload (pc := 44) dX11_greatestCommon_44 rfl ?_
    exact V.lret (pc := 46) dX11_greatestCommon_46 rfl ⟨rfl, rfl, rfl, rfl, rfl, rfl⟩
theorem g_all {g : gG} {d : Nat} {T : mT} {n : Nat} {I : mI} {J : mJ} {F : mF} {a b : Int64} : ∀ (k x y i : Nat) (r : Option Value), x < 2 ^ 63 → y < 2 ^ k → k ≤ 48 → i + 2 * k ≤ 100 → V g mX11_greatestCommon (d + 0) (pureQ T n I J F (some (.long (lN (Nat.gcd x y))))) 0 0 9 [some (.long a), none, some (.long b), none, some (.long (lN x)), none, some (.long (lN y)), none, some (.int (nI i)), r, none] [] T n I J F := by
  intro k
  induction k with
  | zero =>
    intro x y i r hx hy hk hi
    obtain rfl : y = 0 := by omega
    exact g_end (by omega)
  | succ k ih =>
    intro x y i r hx hy hk hi
    have hp : 2 ^ (k + 1) ≤ 2 ^ 48 := Nat.pow_le_pow_right (by omega) hk
    have e48 : 2 ^ 48 = 281474976710656 := by decide
    have hp2 : 2 ^ (k + 1) = 2 * 2 ^ k := by rw [Nat.pow_succ, Nat.mul_comm]
    by_cases y0 : y = 0
    · subst y0; exact g_end (by omega)
    · refine g_step hx (by omega) (by omega) y0 ?_
      have hm := Nat.mod_lt x (Nat.pos_of_ne_zero y0)
      by_cases z0 : x % y = 0
      · rw [z0]; exact g_end (by omega)
      · refine g_step (by omega) (by omega) (by omega) z0 ?_
        have hh := mod_half (Nat.pos_of_ne_zero z0) hm
        exact ih _ _ _ _ (by omega) (by omega) (by omega) (by omega)
theorem x_gcd {g : gG} {d : Nat} {T : mT} {n : Nat} {I : mI} {J : mJ} {F : mF} {a b : Nat} (x y : Int64) (hx : x = lN a) (hy : y = lN b) (ha : a < 2 ^ 63) (hb : b < 2 ^ 48) : Ct g mX11_greatestCommon (d + 0) [.long x, .long y] 0 0 T n I J F (pureQ T n I J F (some (.long (lN (Nat.gcd a b))))) := by
  refine Ct.ofV (k := 7) (by decide) (Nat.le_of_ble_eq_true rfl) ?_
  show V g mX11_greatestCommon (d + 0) _ 0 0 0 [some (.long x), none, some (.long y), none, none, none, none, none, none, none, none] [] T n I J F
  subst hx hy
  refine V.lload_n (pc := 0) dX11_greatestCommon_0 rfl ?_
  refine V.ls (pc := 1) dX11_greatestCommon_1 (by decide) (st2_4 rfl) ?_
  refine V.lload_n (pc := 3) dX11_greatestCommon_3 rfl ?_
  refine V.ls (pc := 4) dX11_greatestCommon_4 (by decide) (st2_6 rfl) ?_
  refine V.iconst (v := 0) (pc := 6) dX11_greatestCommon_6 (by decide) ?_
  refine V.is (pc := 7) dX11_greatestCommon_7 (by decide) (st1_8 rfl) ?_
  exact g_all 48 a b 0 none ha hb (Nat.le_refl _) (by omega)
theorem x_low {g : gG} {d : Nat} {T : mT} {n : Nat} {I : mI} {J : mJ} {F : mF} {a b : Nat} (x y : Int64) (w : Int32) (hx : x = lN a) (hy : y = lN b) (ha : a < 2 ^ 63) (hb : b < 2 ^ 48) (h0 : 0 < b) : Ct g mX11_inLowestTerms (d + 1) [.long x, .long y, .int w] 0 0 T n I J F (pureQ T n I J F (some (.long (if w = 0 then lN (a / Nat.gcd a b) else lN (b / Nat.gcd a b))))) := by
  refine Ct.ofV (k := 2) (by decide) (Nat.le_of_ble_eq_true rfl) ?_
  show V g mX11_inLowestTerms (d + 1) _ 0 0 0 [some (.long x), none, some (.long y), none, some (.int w), none, none] [] T n I J F
  have hg : Nat.gcd a b ≤ b := Nat.gcd_le_right a h0
  refine V.lload_n (pc := 0) dX11_inLowestTerms_0 rfl ?_
  refine V.lload_n (pc := 1) dX11_inLowestTerms_1 rfl ?_
  refine V.pS (as := [_, _]) (pc := 2) dX11_inLowestTerms_2 lX11_350 bX11_greatestCommon sX11_greatestCommon (x_gcd (d := d + 0) (a := a) (b := b) _ _ hx hy ha hb) (by omega) rfl (Nat.le_of_ble_eq_true rfl) ?_
  refine V.ls (pc := 5) dX11_inLowestTerms_5 (by decide) (st2_5 rfl) ?_
  refine V.iload (pc := 7) dX11_inLowestTerms_7 rfl ?_
  refine V.if_ne 16 (pc := 9) dX11_inLowestTerms_9 (by decide) (fun h9 => ?_) (fun h9 => ?_)
  · refine V.lload_n (pc := 16) dX11_inLowestTerms_16 rfl ?_
    refine V.lload (pc := 17) dX11_inLowestTerms_17 rfl ?_
    refine V.pS (as := [_, _]) (pc := 19) dX11_inLowestTerms_19 lX11_344 bX11_cut sX11_cut (x_cut (d := d + 0) (a := b) (b := Nat.gcd a b) _ _ hy rfl (by omega) (by omega)) (by omega) rfl (Nat.le_of_ble_eq_true rfl) ?_
    exact V.lret (pc := 22) dX11_inLowestTerms_22 rfl ⟨by rw [if_neg h9], rfl, rfl, rfl, rfl, rfl⟩
  · refine V.lload_n (pc := 12) dX11_inLowestTerms_12 rfl ?_
    refine V.goto 17 (pc := 13) dX11_inLowestTerms_13 (by decide) ?_
    refine V.lload (pc := 17) dX11_inLowestTerms_17 rfl ?_
    refine V.pS (as := [_, _]) (pc := 19) dX11_inLowestTerms_19 lX11_344 bX11_cut sX11_cut (x_cut (d := d + 0) (a := a) (b := Nat.gcd a b) _ _ hx rfl ha (by omega)) (by omega) rfl (Nat.le_of_ble_eq_true rfl) ?_
    exact V.lret (pc := 22) dX11_inLowestTerms_22 rfl ⟨by rw [if_pos h9], rfl, rfl, rfl, rfl, rfl⟩
