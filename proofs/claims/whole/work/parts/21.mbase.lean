theorem L0 : (0 : Int32) = nI 0 := rfl
theorem L1 : (1 : Int32) = nI 1 := rfl
theorem L2 : (2 : Int32) = nI 2 := rfl
theorem L3 : (3 : Int32) = nI 3 := rfl
theorem L4 : (4 : Int32) = nI 4 := rfl
theorem L5 : (5 : Int32) = nI 5 := rfl
theorem L6 : (6 : Int32) = nI 6 := rfl
theorem L7 : (7 : Int32) = nI 7 := rfl
theorem L8 : (8 : Int32) = nI 8 := rfl
theorem L9 : (9 : Int32) = nI 9 := rfl
theorem L10 : (10 : Int32) = nI 10 := rfl
theorem L11 : (11 : Int32) = nI 11 := rfl
theorem L12 : (12 : Int32) = nI 12 := rfl
theorem L13 : (13 : Int32) = nI 13 := rfl
theorem L20 : (20 : Int32) = nI 20 := rfl
theorem L24 : (24 : Int32) = nI 24 := rfl
theorem L30 : (30 : Int32) = nI 30 := rfl
theorem L82 : (82 : Int32) = nI 82 := rfl
theorem L94 : (94 : Int32) = nI 94 := rfl
theorem L98 : (98 : Int32) = nI 98 := rfl
theorem L124 : (124 : Int32) = nI 124 := rfl
theorem L150 : (150 : Int32) = nI 150 := rfl
theorem L400 : (400 : Int32) = nI 400 := rfl
theorem L900 : (900 : Int32) = nI 900 := rfl
theorem L5550 : (5550 : Int32) = nI 5550 := rfl
theorem neg_toI {x : Int32} (h : -2147483648 < x.toInt) : (-x).toInt = -x.toInt := by
  have h2 := (bd32 x).2
  conv => lhs; rw [iI_of x]
  rw [iI_neg, iI_toInt (by omega) (by omega)]
def tellI (I : mI) (m : Nat) (v : Int32) : mI := if v < 0 then up2 (up2 I m 1 v) (m + 1) (-v).toNatClampNeg (up2 I m 1 v (m + 1) (-v).toNatClampNeg + 1) else up2 I m 1 0
theorem c_tell {g : gG} {d : Nat} {T : mT} {n : Nat} {I : mI} {J : mJ} {F : mF} {m : Nat} (v : Int32) (hM : MS T F m) (hv : -6 ≤ v.toInt) : Ct g mX12_tell (d + 0) [.ref m, .int v] 0 0 T n I J F (fun r' T' n' I' J' F' => r' = some (.int v) ∧ T' = T ∧ n' = n ∧ I' = tellI I m v ∧ J' = J ∧ F' = F) := by
  refine Ct.ofV (k := 0) (by decide) (Nat.le_of_ble_eq_true rfl) ?_
  show V g mX12_tell (d + 0) _ 0 0 0 [some (.ref m), some (.int v)] [] T n I J F
  by_cases q : 0 ≤ v
  · refine V.aload_n (pc := 0) dX12_tell_0 rfl ?_
    refine V.iload_n (pc := 1) dX12_tell_1 rfl ?_
    refine V.if_ge 9 (pc := 2) dX12_tell_2 (by decide) (fun h2 => ?_) (fun h2 => absurd q h2)
    refine V.iconst (v := 0) (pc := 9) dX12_tell_9 (by decide) ?_
    refine V.putI (pc := 10) dX12_tell_10 fX12_91_11 (fun r h => by cases h; exact Or.inl rfl) rfl hM.o ?_
    refine V.iload_n (pc := 13) dX12_tell_13 rfl ?_
    refine V.if_ge 28 (pc := 14) dX12_tell_14 (by decide) (fun h14 => ?_) (fun h14 => absurd q h14)
    refine V.iload_n (pc := 28) dX12_tell_28 rfl ?_
    exact V.iret (pc := 29) dX12_tell_29 rfl ⟨rfl, rfl, rfl, (if_neg (Int32.not_lt.mpr q)).symm, rfl, rfl⟩
  · refine V.aload_n (pc := 0) dX12_tell_0 rfl ?_
    refine V.iload_n (pc := 1) dX12_tell_1 rfl ?_
    refine V.if_ge 9 (pc := 2) dX12_tell_2 (by decide) (fun h2 => absurd h2 q) (fun h2 => ?_)
    refine V.iload_n (pc := 5) dX12_tell_5 rfl ?_
    refine V.goto 10 (pc := 6) dX12_tell_6 (by decide) ?_
    refine V.putI (pc := 10) dX12_tell_10 fX12_91_11 (fun r h => by cases h; exact Or.inl rfl) rfl hM.o ?_
    refine V.iload_n (pc := 13) dX12_tell_13 rfl ?_
    refine V.if_ge 28 (pc := 14) dX12_tell_14 (by decide) (fun h14 => absurd h14 q) (fun h14 => ?_)
    refine V.aload_n (pc := 17) dX12_tell_17 rfl ?_
    refine V.getR (pc := 18) dX12_tell_18 fX12_7_11 rfl hM.o hM.f2 ?_
    refine V.iload_n (pc := 21) dX12_tell_21 rfl ?_
    refine V.ineg (pc := 22) dX12_tell_22 ?_
    refine V.dup2 (pc := 23) dX12_tell_23 rfl rfl ?_
    refine V.iald (pc := 24) dX12_tell_24 hM.t2 (by rw [vp_in_iff, neg_toI (by omega)]; have hz := (lt32 _ _).mp (Int32.not_le.mp q); have e0 : (0 : Int32).toInt = 0 := rfl; omega) ?_
    refine V.iconst (v := 1) (pc := 25) dX12_tell_25 (by decide) ?_
    refine V.iadd (pc := 26) dX12_tell_26 ?_
    refine V.iast (pc := 27) dX12_tell_27 hM.t2 (by rw [vp_in_iff, neg_toI (by omega)]; have hz := (lt32 _ _).mp (Int32.not_le.mp q); have e0 : (0 : Int32).toInt = 0 := rfl; omega) ?_
    refine V.iload_n (pc := 28) dX12_tell_28 rfl ?_
    exact V.iret (pc := 29) dX12_tell_29 rfl ⟨rfl, rfl, rfl, (if_pos (Int32.not_le.mp q)).symm, rfl, rfl⟩
theorem c_was {g : gG} {d : Nat} {T : mT} {n : Nat} {I : mI} {J : mJ} {F : mF} {m : Nat} (v : Int32) (hM : MS T F m) : Ct g mX12_was (d + 0) [.ref m, .int v] 0 0 T n I J F (fun r' T' n' I' J' F' => r' = some (.int v) ∧ T' = T ∧ n' = n ∧ I' = up2 I m 1 0 ∧ J' = J ∧ F' = F) := by
  refine Ct.ofV (k := 0) (by decide) (Nat.le_of_ble_eq_true rfl) ?_
  show V g mX12_was (d + 0) _ 0 0 0 [some (.ref m), some (.int v)] [] T n I J F
  refine V.aload_n (pc := 0) dX12_was_0 rfl ?_
  refine V.iconst (v := 0) (pc := 1) dX12_was_1 (by decide) ?_
  refine V.putI (pc := 2) dX12_was_2 fX12_91_11 (fun r h => by cases h; exact Or.inl rfl) rfl hM.o ?_
  refine V.iload_n (pc := 5) dX12_was_5 rfl ?_
  exact V.iret (pc := 6) dX12_was_6 rfl ⟨rfl, rfl, rfl, rfl, rfl, rfl⟩
theorem c_change {g : gG} {d : Nat} {T : mT} {n : Nat} {I : mI} {J : mJ} {F : mF} {m k : Nat} (a v : Int32) (hM : MS T F m) (ha : a = nI k) (hk : k < 5550) : Ct g mX12_change (d + 1) [.ref m, .int a, .int v] 0 0 T n I J F (fun r' T' n' I' J' F' => r' = some (.int (I (m + 2) k)) ∧ T' = T ∧ n' = n ∧ I' = up2 (up2 I (m + 2) k v) m 1 0 ∧ J' = J ∧ F' = F) := by
  refine Ct.ofV (k := 1) (by decide) (Nat.le_of_ble_eq_true rfl) ?_
  show V g mX12_change (d + 1) _ 0 0 0 [some (.ref m), some (.int a), some (.int v), none] [] T n I J F
  refine V.aload_n (pc := 0) dX12_change_0 rfl ?_
  refine V.getR (pc := 1) dX12_change_1 fX12_13_11 rfl hM.o hM.f3 ?_
  refine V.iload_n (pc := 4) dX12_change_4 rfl ?_
  refine V.iald' (k := k) (pc := 5) dX12_change_5 hM.t3 ha hk (by decide) ?_
  refine V.isn (pc := 6) dX12_change_6 (by decide) (st1_3 rfl) ?_
  refine V.aload_n (pc := 7) dX12_change_7 rfl ?_
  refine V.getR (pc := 8) dX12_change_8 fX12_13_11 rfl hM.o hM.f3 ?_
  refine V.iload_n (pc := 11) dX12_change_11 rfl ?_
  refine V.iload_n (pc := 12) dX12_change_12 rfl ?_
  refine V.iast' (k := k) (pc := 13) dX12_change_13 hM.t3 ha hk (by decide) ?_
  refine V.aload_n (pc := 14) dX12_change_14 rfl ?_
  refine V.iload_n (pc := 15) dX12_change_15 rfl ?_
  refine V.invV0 (as := [_]) (pc := 16) dX12_change_16 lX12_94 bX12_was nX12_was (ci := 11) rfl eX12_was hM.o (c_was (d := d + 0) _ hM) (by omega) rfl (Nat.le_of_ble_eq_true rfl) ?_
  rintro _ _ _ _ _ _ ⟨rfl, rfl, rfl, rfl, rfl, rfl⟩
  exact V.iret (pc := 19) dX12_change_19 rfl ⟨rfl, rfl, rfl, rfl, rfl, rfl⟩
theorem c_ofHand {g : gG} {d : Nat} {T : mT} {n : Nat} {I : mI} {J : mJ} {F : mF} {m h w : Nat} (x y : Int32) (hM : MS T F m) (hx : x = nI h) (hy : y = nI w) (hk : 10 + 12 * h + w < 5550) : Ct g mX12_ofHand (d + 0) [.ref m, .int x, .int y] 0 0 T n I J F (pureQ T n I J F (some (.int (I (m + 2) (10 + 12 * h + w))))) := by
  refine Ct.ofV (k := 0) (by decide) (Nat.le_of_ble_eq_true rfl) ?_
  show V g mX12_ofHand (d + 0) _ 0 0 0 [some (.ref m), some (.int x), some (.int y)] [] T n I J F
  refine V.aload_n (pc := 0) dX12_ofHand_0 rfl ?_
  refine V.getR (pc := 1) dX12_ofHand_1 fX12_13_11 rfl hM.o hM.f3 ?_
  refine V.bipush (v := 10) (pc := 4) dX12_ofHand_4 (by decide) ?_
  refine V.bipush (v := 12) (pc := 6) dX12_ofHand_6 (by decide) ?_
  refine V.iload_n (pc := 8) dX12_ofHand_8 rfl ?_
  refine V.imul (pc := 9) dX12_ofHand_9 ?_
  refine V.iadd (pc := 10) dX12_ofHand_10 ?_
  refine V.iload_n (pc := 11) dX12_ofHand_11 rfl ?_
  refine V.iadd (pc := 12) dX12_ofHand_12 ?_
  refine V.iald' (k := 10 + 12 * h + w) (pc := 13) dX12_ofHand_13 hM.t3 (by subst hx hy; simp only [L10, L12, pk_mul, nI_add]) hk (by decide) ?_
  exact V.iret (pc := 14) dX12_ofHand_14 rfl ⟨rfl, rfl, rfl, rfl, rfl, rfl⟩
theorem sub1 (k : Nat) (hk : k < 2 ^ 31) : ((nI k).toInt64 - 1).toInt = (k : Int) - 1 := by
  rw [nI_l hk, ← lI_nat, show (1 : Int64) = lI 1 from rfl, lI_sub, lI_toInt (by omega) (by omega)]
theorem in0 (x : Int32) (k : Nat) (hk : k < 2 ^ 31) : ((0 : Int64) ≤ x.toInt64 ∧ x.toInt64 ≤ (nI k).toInt64 - 1) ↔ (0 ≤ x.toInt ∧ x.toInt < k) := by
  rw [Int64.le_iff_toInt_le, Int64.le_iff_toInt_le, toI64, sub1 k hk]
  have e0 : (0 : Int64).toInt = 0 := rfl
  omega
theorem c_isHand {g : gG} {d : Nat} {T : mT} {n : Nat} {I : mI} {J : mJ} {F : mF} {m k : Nat} (x : Int32) (hM : MS T F m) (hk : k < 2 ^ 31) (h0 : I (m + 2) 0 = nI k) : Ct g mX12_isHand (d + 1) [.ref m, .int x] 0 0 T n I J F (pureQ T n I J F (some (.int (bi (0 ≤ x.toInt ∧ x.toInt < k))))) := by
  refine Ct.ofV (k := 0) (by decide) (Nat.le_of_ble_eq_true rfl) ?_
  show V g mX12_isHand (d + 1) _ 0 0 0 [some (.ref m), some (.int x)] [] T n I J F
  refine V.iload_n (pc := 0) dX12_isHand_0 rfl ?_
  refine V.i2l (pc := 1) dX12_isHand_1 ?_
  refine V.lconst (v := 0) (pc := 2) dX12_isHand_2 (by decide) ?_
  refine V.aload_n (pc := 3) dX12_isHand_3 rfl ?_
  refine V.getR (pc := 4) dX12_isHand_4 fX12_13_11 rfl hM.o hM.f3 ?_
  refine V.iconst (v := 0) (pc := 7) dX12_isHand_7 (by decide) ?_
  refine V.iald' (k := 0) (pc := 8) dX12_isHand_8 hM.t3 rfl (by decide) (by decide) ?_
  refine V.i2l (pc := 9) dX12_isHand_9 ?_
  refine V.lconst (v := 1) (pc := 10) dX12_isHand_10 (by decide) ?_
  refine V.lsub (pc := 11) dX12_isHand_11 ?_
  refine V.pS (as := [_, _, _]) (pc := 12) dX12_isHand_12 lX12_98 bX12_in sX12_in (c_in (d := d + 0) _ _ _) (by omega) rfl (Nat.le_of_ble_eq_true rfl) ?_
  exact V.zret (pc := 15) dX12_isHand_15 rfl (by first | exact Or.inl rfl | exact Or.inr rfl | exact bi_or | assumption) ⟨by rw [h0, bi_c (in0 x k hk)], rfl, rfl, rfl, rfl, rfl⟩
theorem c_isWheel {g : gG} {d : Nat} {T : mT} {n : Nat} {I : mI} {J : mJ} {F : mF} {m k : Nat} (x : Int32) (hM : MS T F m) (hk : k < 2 ^ 31) (h0 : I (m + 2) 1 = nI k) : Ct g mX12_isWheel (d + 1) [.ref m, .int x] 0 0 T n I J F (pureQ T n I J F (some (.int (bi (0 ≤ x.toInt ∧ x.toInt < k))))) := by
  refine Ct.ofV (k := 0) (by decide) (Nat.le_of_ble_eq_true rfl) ?_
  show V g mX12_isWheel (d + 1) _ 0 0 0 [some (.ref m), some (.int x)] [] T n I J F
  refine V.iload_n (pc := 0) dX12_isWheel_0 rfl ?_
  refine V.i2l (pc := 1) dX12_isWheel_1 ?_
  refine V.lconst (v := 0) (pc := 2) dX12_isWheel_2 (by decide) ?_
  refine V.aload_n (pc := 3) dX12_isWheel_3 rfl ?_
  refine V.getR (pc := 4) dX12_isWheel_4 fX12_13_11 rfl hM.o hM.f3 ?_
  refine V.iconst (v := 1) (pc := 7) dX12_isWheel_7 (by decide) ?_
  refine V.iald' (k := 1) (pc := 8) dX12_isWheel_8 hM.t3 rfl (by decide) (by decide) ?_
  refine V.i2l (pc := 9) dX12_isWheel_9 ?_
  refine V.lconst (v := 1) (pc := 10) dX12_isWheel_10 (by decide) ?_
  refine V.lsub (pc := 11) dX12_isWheel_11 ?_
  refine V.pS (as := [_, _, _]) (pc := 12) dX12_isWheel_12 lX12_98 bX12_in sX12_in (c_in (d := d + 0) _ _ _) (by omega) rfl (Nat.le_of_ble_eq_true rfl) ?_
  exact V.zret (pc := 15) dX12_isWheel_15 rfl (by first | exact Or.inl rfl | exact Or.inr rfl | exact bi_or | assumption) ⟨by rw [h0, bi_c (in0 x k hk)], rfl, rfl, rfl, rfl, rfl⟩
