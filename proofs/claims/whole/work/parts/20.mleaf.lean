def bi (p : Prop) [Decidable p] : Int32 := if p then 1 else 0
theorem bi_or {p : Prop} [Decidable p] : bi p = 0 ∨ bi p = 1 := by unfold bi; split <;> simp
theorem bi_ne {p : Prop} [Decidable p] : ¬ bi p = 0 ↔ p := by unfold bi; split <;> simp_all
theorem bi_eq {p : Prop} [Decidable p] : bi p = 0 ↔ ¬ p := by unfold bi; split <;> simp_all
theorem bi_t {p : Prop} [Decidable p] (h : p) : bi p = 1 := if_pos h
theorem bi_f {p : Prop} [Decidable p] (h : ¬ p) : bi p = 0 := if_neg h
theorem bi_c {p q : Prop} [Decidable p] [Decidable q] (h : p ↔ q) : bi p = bi q := by unfold bi; simp [h]
theorem c_in {g : gG} {d : Nat} {T : mT} {n : Nat} {I : mI} {J : mJ} {F : mF} (v lo hi : Int64)  : Ct g mX12_in (d + 0) [.long v, .long lo, .long hi] 0 0 T n I J F (pureQ T n I J F (some (.int (bi (lo ≤ v ∧ v ≤ hi))))) := by
  refine Ct.ofV (k := 0) (by decide) (Nat.le_of_ble_eq_true rfl) ?_
  show V g mX12_in (d + 0) _ 0 0 0 [some (.long v), none, some (.long lo), none, some (.long hi), none] [] T n I J F
  refine V.lload_n (pc := 0) dX12_in_0 rfl ?_
  refine V.lload_n (pc := 1) dX12_in_1 rfl ?_
  refine V.lcmp_lt 17 (pc := 2) dX12_in_2 dX12_in_3 (by decide) (fun h2 => ?_) (fun h2 => ?_)
  · refine V.iconst (v := 0) (pc := 17) dX12_in_17 (by decide) ?_
    exact V.zret (pc := 18) dX12_in_18 rfl (by first | exact Or.inl rfl | exact Or.inr rfl | exact bi_or | assumption) ⟨by simp only [bi, ← Int64.not_lt]; simp [*], rfl, rfl, rfl, rfl, rfl⟩
  · refine V.lload_n (pc := 6) dX12_in_6 rfl ?_
    refine V.lload (pc := 7) dX12_in_7 rfl ?_
    refine V.lcmp_gt 17 (pc := 9) dX12_in_9 dX12_in_10 (by decide) (fun h9 => ?_) (fun h9 => ?_)
    · refine V.iconst (v := 0) (pc := 17) dX12_in_17 (by decide) ?_
      exact V.zret (pc := 18) dX12_in_18 rfl (by first | exact Or.inl rfl | exact Or.inr rfl | exact bi_or | assumption) ⟨by simp only [bi, ← Int64.not_lt]; simp [*], rfl, rfl, rfl, rfl, rfl⟩
    · refine V.iconst (v := 1) (pc := 13) dX12_in_13 (by decide) ?_
      refine V.goto 18 (pc := 14) dX12_in_14 (by decide) ?_
      exact V.zret (pc := 18) dX12_in_18 rfl (by first | exact Or.inl rfl | exact Or.inr rfl | exact bi_or | assumption) ⟨by simp only [bi, ← Int64.not_lt]; simp [*], rfl, rfl, rfl, rfl, rfl⟩
theorem c_isDay {g : gG} {d : Nat} {T : mT} {n : Nat} {I : mI} {J : mJ} {F : mF} (x : Int32)  : Ct g mX12_isDay (d + 1) [.int x] 0 0 T n I J F (pureQ T n I J F (some (.int (bi (0 ≤ x.toInt ∧ x.toInt ≤ 1000000))))) := by
  refine Ct.ofV (k := 0) (by decide) (Nat.le_of_ble_eq_true rfl) ?_
  show V g mX12_isDay (d + 1) _ 0 0 0 [some (.int x)] [] T n I J F
  refine V.iload_n (pc := 0) dX12_isDay_0 rfl ?_
  refine V.i2l (pc := 1) dX12_isDay_1 ?_
  refine V.lconst (v := 0) (pc := 2) dX12_isDay_2 (by decide) ?_
  refine V.ldc2 (pc := 3) dX12_isDay_3 qX12_105 ?_
  refine V.pS (as := [_, _, _]) (pc := 6) dX12_isDay_6 lX12_98 bX12_in sX12_in (c_in (d := d + 0) _ _ _) (by omega) rfl (Nat.le_of_ble_eq_true rfl) ?_
  exact V.zret (pc := 9) dX12_isDay_9 rfl (by first | exact Or.inl rfl | exact Or.inr rfl | exact bi_or | assumption) ⟨by rw [bi_c (in64 x 0 1000000 0 1000000 rfl rfl)], rfl, rfl, rfl, rfl, rfl⟩
theorem c_areTeeth {g : gG} {d : Nat} {T : mT} {n : Nat} {I : mI} {J : mJ} {F : mF} (x : Int32)  : Ct g mX12_areTeeth (d + 1) [.int x] 0 0 T n I J F (pureQ T n I J F (some (.int (bi (6 ≤ x.toInt ∧ x.toInt ≤ 120))))) := by
  refine Ct.ofV (k := 0) (by decide) (Nat.le_of_ble_eq_true rfl) ?_
  show V g mX12_areTeeth (d + 1) _ 0 0 0 [some (.int x)] [] T n I J F
  refine V.iload_n (pc := 0) dX12_areTeeth_0 rfl ?_
  refine V.i2l (pc := 1) dX12_areTeeth_1 ?_
  refine V.ldc2 (pc := 2) dX12_areTeeth_2 qX12_122 ?_
  refine V.ldc2 (pc := 5) dX12_areTeeth_5 qX12_124 ?_
  refine V.pS (as := [_, _, _]) (pc := 8) dX12_areTeeth_8 lX12_98 bX12_in sX12_in (c_in (d := d + 0) _ _ _) (by omega) rfl (Nat.le_of_ble_eq_true rfl) ?_
  exact V.zret (pc := 11) dX12_areTeeth_11 rfl (by first | exact Or.inl rfl | exact Or.inr rfl | exact bi_or | assumption) ⟨by rw [bi_c (in64 x 6 120 6 120 rfl rfl)], rfl, rfl, rfl, rfl, rfl⟩
theorem c_isSmall {g : gG} {d : Nat} {T : mT} {n : Nat} {I : mI} {J : mJ} {F : mF} (x : Int32)  : Ct g mX12_isSmall (d + 0) [.int x] 0 0 T n I J F (pureQ T n I J F (some (.int (bi (97 ≤ x ∧ x ≤ 122))))) := by
  refine Ct.ofV (k := 0) (by decide) (Nat.le_of_ble_eq_true rfl) ?_
  show V g mX12_isSmall (d + 0) _ 0 0 0 [some (.int x)] [] T n I J F
  refine V.iload_n (pc := 0) dX12_isSmall_0 rfl ?_
  refine V.bipush (v := 97) (pc := 1) dX12_isSmall_1 (by decide) ?_
  refine V.icmp_lt 16 (pc := 3) dX12_isSmall_3 (by decide) (fun h3 => ?_) (fun h3 => ?_)
  · refine V.iconst (v := 0) (pc := 16) dX12_isSmall_16 (by decide) ?_
    exact V.zret (pc := 17) dX12_isSmall_17 rfl (by first | exact Or.inl rfl | exact Or.inr rfl | exact bi_or | assumption) ⟨by simp only [bi, ← Int32.not_lt]; simp [*], rfl, rfl, rfl, rfl, rfl⟩
  · refine V.iload_n (pc := 6) dX12_isSmall_6 rfl ?_
    refine V.bipush (v := 122) (pc := 7) dX12_isSmall_7 (by decide) ?_
    refine V.icmp_gt 16 (pc := 9) dX12_isSmall_9 (by decide) (fun h9 => ?_) (fun h9 => ?_)
    · refine V.iconst (v := 0) (pc := 16) dX12_isSmall_16 (by decide) ?_
      exact V.zret (pc := 17) dX12_isSmall_17 rfl (by first | exact Or.inl rfl | exact Or.inr rfl | exact bi_or | assumption) ⟨by simp only [bi, ← Int32.not_lt]; simp [*], rfl, rfl, rfl, rfl, rfl⟩
    · refine V.iconst (v := 1) (pc := 12) dX12_isSmall_12 (by decide) ?_
      refine V.goto 17 (pc := 13) dX12_isSmall_13 (by decide) ?_
      exact V.zret (pc := 17) dX12_isSmall_17 rfl (by first | exact Or.inl rfl | exact Or.inr rfl | exact bi_or | assumption) ⟨by simp only [bi, ← Int32.not_lt]; simp [*], rfl, rfl, rfl, rfl, rfl⟩
theorem c_isDigit {g : gG} {d : Nat} {T : mT} {n : Nat} {I : mI} {J : mJ} {F : mF} (x : Int32)  : Ct g mX12_isDigit (d + 0) [.int x] 0 0 T n I J F (pureQ T n I J F (some (.int (bi (48 ≤ x ∧ x ≤ 57))))) := by
  refine Ct.ofV (k := 0) (by decide) (Nat.le_of_ble_eq_true rfl) ?_
  show V g mX12_isDigit (d + 0) _ 0 0 0 [some (.int x)] [] T n I J F
  refine V.iload_n (pc := 0) dX12_isDigit_0 rfl ?_
  refine V.bipush (v := 48) (pc := 1) dX12_isDigit_1 (by decide) ?_
  refine V.icmp_lt 16 (pc := 3) dX12_isDigit_3 (by decide) (fun h3 => ?_) (fun h3 => ?_)
  · refine V.iconst (v := 0) (pc := 16) dX12_isDigit_16 (by decide) ?_
    exact V.zret (pc := 17) dX12_isDigit_17 rfl (by first | exact Or.inl rfl | exact Or.inr rfl | exact bi_or | assumption) ⟨by simp only [bi, ← Int32.not_lt]; simp [*], rfl, rfl, rfl, rfl, rfl⟩
  · refine V.iload_n (pc := 6) dX12_isDigit_6 rfl ?_
    refine V.bipush (v := 57) (pc := 7) dX12_isDigit_7 (by decide) ?_
    refine V.icmp_gt 16 (pc := 9) dX12_isDigit_9 (by decide) (fun h9 => ?_) (fun h9 => ?_)
    · refine V.iconst (v := 0) (pc := 16) dX12_isDigit_16 (by decide) ?_
      exact V.zret (pc := 17) dX12_isDigit_17 rfl (by first | exact Or.inl rfl | exact Or.inr rfl | exact bi_or | assumption) ⟨by simp only [bi, ← Int32.not_lt]; simp [*], rfl, rfl, rfl, rfl, rfl⟩
    · refine V.iconst (v := 1) (pc := 12) dX12_isDigit_12 (by decide) ?_
      refine V.goto 17 (pc := 13) dX12_isDigit_13 (by decide) ?_
      exact V.zret (pc := 17) dX12_isDigit_17 rfl (by first | exact Or.inl rfl | exact Or.inr rfl | exact bi_or | assumption) ⟨by simp only [bi, ← Int32.not_lt]; simp [*], rfl, rfl, rfl, rfl, rfl⟩
theorem c_size {g : gG} {d : Nat} {T : mT} {n : Nat} {I : mI} {J : mJ} {F : mF} (x : Int64)  : Ct g mX12_size (d + 0) [.long x] 0 0 T n I J F (pureQ T n I J F (some (.long (if x < 0 then -x else x)))) := by
  refine Ct.ofV (k := 0) (by decide) (Nat.le_of_ble_eq_true rfl) ?_
  show V g mX12_size (d + 0) _ 0 0 0 [some (.long x), none] [] T n I J F
  refine V.lload_n (pc := 0) dX12_size_0 rfl ?_
  refine V.lconst (v := 0) (pc := 1) dX12_size_1 (by decide) ?_
  refine V.lcmp_ge 11 (pc := 2) dX12_size_2 dX12_size_3 (by decide) (fun h2 => ?_) (fun h2 => ?_)
  · refine V.lload_n (pc := 11) dX12_size_11 rfl ?_
    exact V.lret (pc := 12) dX12_size_12 rfl ⟨by simp only [← Int64.not_lt] at *; simp [*], rfl, rfl, rfl, rfl, rfl⟩
  · refine V.lload_n (pc := 6) dX12_size_6 rfl ?_
    refine V.lneg (pc := 7) dX12_size_7 ?_
    refine V.goto 12 (pc := 8) dX12_size_8 (by decide) ?_
    exact V.lret (pc := 12) dX12_size_12 rfl ⟨by simp only [← Int64.not_lt] at *; simp [*], rfl, rfl, rfl, rfl, rfl⟩
theorem c_isRate {g : gG} {d : Nat} {T : mT} {n : Nat} {I : mI} {J : mJ} {F : mF} (p q : Int32)  : Ct g mX12_isRate (d + 1) [.int p, .int q] 0 0 T n I J F (pureQ T n I J F (some (.int (bi ((1 ≤ p.toInt ∧ p.toInt ≤ 100000) ∧ (1 ≤ q.toInt ∧ q.toInt ≤ 100000)))))) := by
  refine Ct.ofV (k := 0) (by decide) (Nat.le_of_ble_eq_true rfl) ?_
  show V g mX12_isRate (d + 1) _ 0 0 0 [some (.int p), some (.int q)] [] T n I J F
  refine V.iload_n (pc := 0) dX12_isRate_0 rfl ?_
  refine V.i2l (pc := 1) dX12_isRate_1 ?_
  refine V.lconst (v := 1) (pc := 2) dX12_isRate_2 (by decide) ?_
  refine V.ldc2 (pc := 3) dX12_isRate_3 qX12_361 ?_
  refine V.pS (as := [_, _, _]) (pc := 6) dX12_isRate_6 lX12_98 bX12_in sX12_in (c_in (d := d + 0) _ _ _) (by omega) rfl (Nat.le_of_ble_eq_true rfl) ?_
  refine V.if_eq 28 (pc := 9) dX12_isRate_9 (by decide) (fun h9 => ?_) (fun h9 => ?_)
  · refine V.iconst (v := 0) (pc := 28) dX12_isRate_28 (by decide) ?_
    exact V.zret (pc := 29) dX12_isRate_29 rfl (by first | exact Or.inl rfl | exact Or.inr rfl | exact bi_or | assumption) ⟨by simp only [bi_ne, bi_eq, in64 p 1 100000 1 100000 rfl rfl, in64 q 1 100000 1 100000 rfl rfl] at *; simp only [bi]; simp [*], rfl, rfl, rfl, rfl, rfl⟩
  · refine V.iload_n (pc := 12) dX12_isRate_12 rfl ?_
    refine V.i2l (pc := 13) dX12_isRate_13 ?_
    refine V.lconst (v := 1) (pc := 14) dX12_isRate_14 (by decide) ?_
    refine V.ldc2 (pc := 15) dX12_isRate_15 qX12_361 ?_
    refine V.pS (as := [_, _, _]) (pc := 18) dX12_isRate_18 lX12_98 bX12_in sX12_in (c_in (d := d + 0) _ _ _) (by omega) rfl (Nat.le_of_ble_eq_true rfl) ?_
    refine V.if_eq 28 (pc := 21) dX12_isRate_21 (by decide) (fun h21 => ?_) (fun h21 => ?_)
    · refine V.iconst (v := 0) (pc := 28) dX12_isRate_28 (by decide) ?_
      exact V.zret (pc := 29) dX12_isRate_29 rfl (by first | exact Or.inl rfl | exact Or.inr rfl | exact bi_or | assumption) ⟨by simp only [bi_ne, bi_eq, in64 p 1 100000 1 100000 rfl rfl, in64 q 1 100000 1 100000 rfl rfl] at *; simp only [bi]; simp [*], rfl, rfl, rfl, rfl, rfl⟩
    · refine V.iconst (v := 1) (pc := 24) dX12_isRate_24 (by decide) ?_
      refine V.goto 29 (pc := 25) dX12_isRate_25 (by decide) ?_
      exact V.zret (pc := 29) dX12_isRate_29 rfl (by first | exact Or.inl rfl | exact Or.inr rfl | exact bi_or | assumption) ⟨by simp only [bi_ne, bi_eq, in64 p 1 100000 1 100000 rfl rfl, in64 q 1 100000 1 100000 rfl rfl] at *; simp only [bi]; simp [*], rfl, rfl, rfl, rfl, rfl⟩
theorem c_through {g : gG} {d : Nat} {T : mT} {n : Nat} {I : mI} {J : mJ} {F : mF} (x : Int64) (gap : Int32)  : Ct g mX12_through (d + 0) [.long x, .int gap] 0 0 T n I J F (pureQ T n I J F (some (.long (if gap = 0 then x else x - x / gap.toInt64)))) := by
  refine Ct.ofV (k := 0) (by decide) (Nat.le_of_ble_eq_true rfl) ?_
  show V g mX12_through (d + 0) _ 0 0 0 [some (.long x), none, some (.int gap)] [] T n I J F
  refine V.iload_n (pc := 0) dX12_through_0 rfl ?_
  refine V.if_ne 8 (pc := 1) dX12_through_1 (by decide) (fun h1 => ?_) (fun h1 => ?_)
  · refine V.lload_n (pc := 8) dX12_through_8 rfl ?_
    refine V.lload_n (pc := 9) dX12_through_9 rfl ?_
    refine V.iload_n (pc := 10) dX12_through_10 rfl ?_
    refine V.i2l (pc := 11) dX12_through_11 ?_
    refine V.ldiv (pc := 12) dX12_through_12 (i64_ne0 h1) ?_
    refine V.lsub (pc := 13) dX12_through_13 ?_
    exact V.lret (pc := 14) dX12_through_14 rfl ⟨by first | rfl | simp [*], rfl, rfl, rfl, rfl, rfl⟩
  · refine V.lload_n (pc := 4) dX12_through_4 rfl ?_
    refine V.goto 14 (pc := 5) dX12_through_5 (by decide) ?_
    exact V.lret (pc := 14) dX12_through_14 rfl ⟨by first | rfl | simp [*], rfl, rfl, rfl, rfl, rfl⟩
