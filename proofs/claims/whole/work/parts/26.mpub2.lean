theorem ix3 {x : Int32} {h : Nat} (hx : x = nI h) : 10 + 12 * x + 3 = nI (10 + 12 * h + 3) := by subst hx; simp only [L3, L10, L12, pk_mul, nI_add]
theorem ix1 {x y : Int32} {h w : Nat} (hx : x = nI h) (hy : y = nI w) : 10 + 12 * x + 1 + y = nI (10 + 12 * h + 1 + w) := by subst hx hy; simp only [L1, L10, L12, pk_mul, nI_add]
theorem ixk {x y : Int32} {h w : Nat} (hx : x = nI h) (hy : y = nI w) : 124 + 6 * x + y = nI (124 + 6 * h + w) := by subst hx hy; simp only [L6, L124, pk_mul, nI_add]
theorem c_addPair {g : gG} {d : Nat} {T : mT} {n : Nat} {I : mI} {J : mJ} {F : mF} {m h k : Nat} (x a b : Int32) (hM : MS T F m) (hx : x = nI h) (hh : h < 6) (hk : k < 4) (h3 : I (m + 2) (10 + 12 * h + 3) = nI k) : Ct g mX12_addPair (d + 0) [.ref m, .int x, .int a, .int b] 0 0 T n I J F (fun r' T' n' I' J' F' => r' = none ∧ T' = T ∧ n' = n ∧ J' = J ∧ F' = F ∧ (∀ b, b ≠ m + 2 → I' b = I b) ∧ I' (m + 2) (10 + 12 * h + 3) = nI (k + 1) ∧ I' (m + 2) (10 + 12 * h + 4 + 2 * k) = a ∧ I' (m + 2) (10 + 12 * h + 5 + 2 * k) = b ∧ ∀ j, j ≠ 10 + 12 * h + 3 → j ≠ 10 + 12 * h + 4 + 2 * k → j ≠ 10 + 12 * h + 5 + 2 * k → I' (m + 2) j = I (m + 2) j) := by
  refine Ct.ofV (k := 1) (by decide) (Nat.le_of_ble_eq_true rfl) ?_
  show V g mX12_addPair (d + 0) _ 0 0 0 [some (.ref m), some (.int x), some (.int a), some (.int b), none] [] T n I J F
  subst hx
  refine V.bipush (v := 10) (pc := 0) dX12_addPair_0 (by decide) ?_
  refine V.bipush (v := 12) (pc := 2) dX12_addPair_2 (by decide) ?_
  refine V.iload_n (pc := 4) dX12_addPair_4 rfl ?_
  refine V.imul (pc := 5) dX12_addPair_5 ?_
  refine V.iadd (pc := 6) dX12_addPair_6 ?_
  refine V.is (pc := 7) dX12_addPair_7 (by decide) (st1_4 rfl) ?_
  refine V.aload_n (pc := 9) dX12_addPair_9 rfl ?_
  refine V.getR (pc := 10) dX12_addPair_10 fX12_13_11 rfl hM.o hM.f3 ?_
  refine V.iload (pc := 13) dX12_addPair_13 rfl ?_
  refine V.iconst (v := 4) (pc := 15) dX12_addPair_15 (by decide) ?_
  refine V.iadd (pc := 16) dX12_addPair_16 ?_
  refine V.iconst (v := 2) (pc := 17) dX12_addPair_17 (by decide) ?_
  refine V.aload_n (pc := 18) dX12_addPair_18 rfl ?_
  refine V.getR (pc := 19) dX12_addPair_19 fX12_13_11 rfl hM.o hM.f3 ?_
  refine V.iload (pc := 22) dX12_addPair_22 rfl ?_
  refine V.iconst (v := 3) (pc := 24) dX12_addPair_24 (by decide) ?_
  refine V.iadd (pc := 25) dX12_addPair_25 ?_
  refine V.iald' (k := 10 + 12 * h + 3) (pc := 26) dX12_addPair_26 hM.t3 (by simp only [L0, L1, L2, L3, L4, L5, L6, L10, L12, L94, L124, pk_mul, nI_add] <;> first | rfl | (congr 1; omega)) (by omega) (by decide) ?_
  refine V.topi h3 ?_
  refine V.imul (pc := 27) dX12_addPair_27 ?_
  refine V.iadd (pc := 28) dX12_addPair_28 ?_
  refine V.iload_n (pc := 29) dX12_addPair_29 rfl ?_
  refine V.iast' (k := 10 + 12 * h + 4 + 2 * k) (pc := 30) dX12_addPair_30 hM.t3 (by simp only [L0, L1, L2, L3, L4, L5, L6, L10, L12, L94, L124, pk_mul, nI_add] <;> first | rfl | (congr 1; omega)) (by omega) (by decide) ?_
  refine V.aload_n (pc := 31) dX12_addPair_31 rfl ?_
  refine V.getR (pc := 32) dX12_addPair_32 fX12_13_11 rfl hM.o hM.f3 ?_
  refine V.iload (pc := 35) dX12_addPair_35 rfl ?_
  refine V.iconst (v := 4) (pc := 37) dX12_addPair_37 (by decide) ?_
  refine V.iadd (pc := 38) dX12_addPair_38 ?_
  refine V.iconst (v := 2) (pc := 39) dX12_addPair_39 (by decide) ?_
  refine V.aload_n (pc := 40) dX12_addPair_40 rfl ?_
  refine V.getR (pc := 41) dX12_addPair_41 fX12_13_11 rfl hM.o hM.f3 ?_
  refine V.iload (pc := 44) dX12_addPair_44 rfl ?_
  refine V.iconst (v := 3) (pc := 46) dX12_addPair_46 (by decide) ?_
  refine V.iadd (pc := 47) dX12_addPair_47 ?_
  refine V.iald' (k := 10 + 12 * h + 3) (pc := 48) dX12_addPair_48 hM.t3 (by simp only [L0, L1, L2, L3, L4, L5, L6, L10, L12, L94, L124, pk_mul, nI_add] <;> first | rfl | (congr 1; omega)) (by omega) (by decide) ?_
  rw [up2_ne (by omega)]
  refine V.topi h3 ?_
  refine V.imul (pc := 49) dX12_addPair_49 ?_
  refine V.iadd (pc := 50) dX12_addPair_50 ?_
  refine V.iconst (v := 1) (pc := 51) dX12_addPair_51 (by decide) ?_
  refine V.iadd (pc := 52) dX12_addPair_52 ?_
  refine V.iload_n (pc := 53) dX12_addPair_53 rfl ?_
  refine V.iast' (k := 10 + 12 * h + 5 + 2 * k) (pc := 54) dX12_addPair_54 hM.t3 (by simp only [L0, L1, L2, L3, L4, L5, L6, L10, L12, L94, L124, pk_mul, nI_add] <;> first | rfl | (congr 1; omega)) (by omega) (by decide) ?_
  refine V.aload_n (pc := 55) dX12_addPair_55 rfl ?_
  refine V.getR (pc := 56) dX12_addPair_56 fX12_13_11 rfl hM.o hM.f3 ?_
  refine V.iload (pc := 59) dX12_addPair_59 rfl ?_
  refine V.iconst (v := 3) (pc := 61) dX12_addPair_61 (by decide) ?_
  refine V.iadd (pc := 62) dX12_addPair_62 ?_
  refine V.dup2 (pc := 63) dX12_addPair_63 rfl rfl ?_
  refine V.iald' (k := 10 + 12 * h + 3) (pc := 64) dX12_addPair_64 hM.t3 (by simp only [L0, L1, L2, L3, L4, L5, L6, L10, L12, L94, L124, pk_mul, nI_add] <;> first | rfl | (congr 1; omega)) (by omega) (by decide) ?_
  refine V.iconst (v := 1) (pc := 65) dX12_addPair_65 (by decide) ?_
  refine V.iadd (pc := 66) dX12_addPair_66 ?_
  refine V.iast' (k := 10 + 12 * h + 3) (pc := 67) dX12_addPair_67 hM.t3 (by simp only [L0, L1, L2, L3, L4, L5, L6, L10, L12, L94, L124, pk_mul, nI_add] <;> first | rfl | (congr 1; omega)) (by omega) (by decide) ?_
  exact V.vret (pc := 68) dX12_addPair_68 rfl ⟨rfl, rfl, rfl, rfl, rfl, fun b hb => by rw [up2_off hb, up2_off hb, up2_off hb], by rw [up2_same, up2_ne (by omega), up2_ne (by omega), h3, nI_1], by rw [up2_ne (by omega), up2_ne (by omega), up2_same], by rw [up2_ne (by omega), up2_same], fun j q1 q2 q3 => by rw [up2_ne (by omega), up2_ne (by omega), up2_ne (by omega)]⟩
theorem p_strip {g : gG} {d : Nat} {T : mT} {n : Nat} {I : mI} {J : mJ} {F : mF} {m : Nat} {A : Ab} (x : Int32) (hM : MS T F m) (hA : AbOK A) (hR : RepM I J m A)  : Ct g mX12_strip (d + 3) [.ref m, .int x] 0 0 T n I J F (QM m T n I J F (some (.int (iI (s_strip A x.toInt).1))) (s_strip A x.toInt).2) := by
  refine Ct.ofV (k := 0) (by decide) (Nat.le_of_ble_eq_true rfl) ?_
  show V g mX12_strip (d + 3) _ 0 0 0 [some (.ref m), some (.int x)] [] T n I J F
  refine V.aload_n (pc := 0) dX12_strip_0 rfl ?_
  refine V.iconst (v := 0) (pc := 1) dX12_strip_1 (by decide) ?_
  refine V.putI (pc := 2) dX12_strip_2 fX12_88_11 (fun r h => by cases h; exact Or.inl rfl) rfl hM.o ?_
  refine V.thr hR (fun I1 hR1 hf => ?_)
  clear hR
  have hR := hR1
  clear hR1
  refine V.aload_n (pc := 5) dX12_strip_5 rfl ?_
  refine V.iload_n (pc := 6) dX12_strip_6 rfl ?_
  refine V.pV (as := [_]) (pc := 7) dX12_strip_7 lX12_111 bX12_isHand nX12_isHand (ci := 11) rfl eX12_isHand hM.o (c_isHand (d := d + 1) _ hM (by have := hA.1.1; omega) hR.h0) (by omega) rfl (Nat.le_of_ble_eq_true rfl) ?_
  refine V.if_eq 30 (pc := 10) dX12_strip_10 (by decide) (fun h10 => ?_) (fun h10 => ?_)
  · have q := bi_eq.mp h10
    have ey := hdAt_no q
    refine V.aload_n (pc := 30) dX12_strip_30 rfl ?_
    refine V.bipush (v := (-2)) (pc := 31) dX12_strip_31 (by decide) ?_
    refine V.invV0 (as := [_]) (pc := 33) dX12_strip_33 lX12_102 bX12_tell nX12_tell (ci := 11) rfl eX12_tell hM.o (c_tell (d := d + 2) _ hM (by first | decide | (rw [nI_toInt (by omega)]; omega))) (by omega) rfl (Nat.le_of_ble_eq_true rfl) ?_
    rintro _ _ _ _ _ _ ⟨rfl, rfl, rfl, rfl, rfl, rfl⟩
    exact V.iret (pc := 36) dX12_strip_36 rfl (QM.no hR hf (by decide) (by simp only [s_strip, ey]; rfl))
  · have q := bi_ne.mp h10
    obtain ⟨y, hy, ey⟩ := hdAt_yes q
    have hx := nIx q.1 rfl
    have h6 := hA.1.1
    have hY := hA.1.2.1 y (List.mem_of_getElem? hy)
    have hW := hR.2.2.1.2.1 _ y hy
    refine V.aload_n (pc := 13) dX12_strip_13 rfl ?_
    refine V.bipush (v := 10) (pc := 14) dX12_strip_14 (by decide) ?_
    refine V.bipush (v := 12) (pc := 16) dX12_strip_16 (by decide) ?_
    refine V.iload_n (pc := 18) dX12_strip_18 rfl ?_
    refine V.imul (pc := 19) dX12_strip_19 ?_
    refine V.iadd (pc := 20) dX12_strip_20 ?_
    refine V.iconst (v := 3) (pc := 21) dX12_strip_21 (by decide) ?_
    refine V.iadd (pc := 22) dX12_strip_22 ?_
    refine V.iconst (v := 0) (pc := 23) dX12_strip_23 (by decide) ?_
    refine V.invV0 (as := [_, _]) (pc := 24) dX12_strip_24 lX12_119 bX12_change nX12_change (ci := 11) rfl eX12_change hM.o (c_change (d := d + 1) (k := 10 + 12 * x.toInt.toNat + 3) _ _ hM (ix3 hx) (by omega)) (by omega) rfl (Nat.le_of_ble_eq_true rfl) ?_
    rintro _ _ _ _ _ _ ⟨rfl, rfl, rfl, rfl, rfl, rfl⟩
    refine V.goto 36 (pc := 27) dX12_strip_27 (by decide) ?_
    exact V.iret (pc := 36) dX12_strip_36 rfl ⟨by simp only [s_strip, ey, okYes]; rw [hW.2.2.2.1, iI_nat], rfl, rfl, rfl, ((hf.up ⟨by omega, by omega⟩).up ⟨by omega, by omega⟩), Frm.rf, by
        simp only [s_strip, ey, okYes]
        refine RepM.was (hR.setRow (fun b hb => up2_off hb) ?_)
        refine RowRep.hand hA.1 hR.2.2.1 (by omega) ⟨?_, ?_, ?_, ?_, fun p qq hp => ?_⟩ (fun j hj => up2_ne (by omega))
        · rw [up2_ne (by omega)]; exact hW.1
        · rw [up2_ne (by omega)]; exact hW.2.1
        · rw [up2_ne (by omega)]; exact hW.2.2.1
        · exact up2_same
        · have h0 : ([] : List (Nat × Nat))[p]? = some qq := hp
          simp at h0⟩
theorem p_pair {g : gG} {d : Nat} {T : mT} {n : Nat} {I : mI} {J : mJ} {F : mF} {m : Nat} {A : Ab} (x a b : Int32) (hM : MS T F m) (hA : AbOK A) (hR : RepM I J m A)  : Ct g mX12_pair (d + 3) [.ref m, .int x, .int a, .int b] 0 0 T n I J F (QM m T n I J F (some (.int (iI (s_pair A x.toInt a.toInt b.toInt).1))) (s_pair A x.toInt a.toInt b.toInt).2) := by
  refine Ct.ofV (k := 1) (by decide) (Nat.le_of_ble_eq_true rfl) ?_
  show V g mX12_pair (d + 3) _ 0 0 0 [some (.ref m), some (.int x), some (.int a), some (.int b), none] [] T n I J F
  refine V.aload_n (pc := 0) dX12_pair_0 rfl ?_
  refine V.iconst (v := 0) (pc := 1) dX12_pair_1 (by decide) ?_
  refine V.putI (pc := 2) dX12_pair_2 fX12_88_11 (fun r h => by cases h; exact Or.inl rfl) rfl hM.o ?_
  refine V.thr hR (fun I1 hR1 hf => ?_)
  clear hR
  have hR := hR1
  clear hR1
  refine V.iload_n (pc := 5) dX12_pair_5 rfl ?_
  refine V.pS (as := [_]) (pc := 6) dX12_pair_6 lX12_126 bX12_areTeeth sX12_areTeeth (c_areTeeth (d := d + 1) _) (by omega) rfl (Nat.le_of_ble_eq_true rfl) ?_
  refine V.if_eq 19 (pc := 9) dX12_pair_9 (by decide) (fun h9 => ?_) (fun h9 => ?_)
  · have qa : ¬ ((6 ≤ a.toInt ∧ a.toInt ≤ 120) ∧ (6 ≤ b.toInt ∧ b.toInt ≤ 120)) := fun z => bi_eq.mp h9 z.1
    refine V.aload_n (pc := 19) dX12_pair_19 rfl ?_
    refine V.iconst (v := (-1)) (pc := 20) dX12_pair_20 (by decide) ?_
    refine V.invV0 (as := [_]) (pc := 21) dX12_pair_21 lX12_102 bX12_tell nX12_tell (ci := 11) rfl eX12_tell hM.o (c_tell (d := d + 2) _ hM (by first | decide | (rw [nI_toInt (by omega)]; omega))) (by omega) rfl (Nat.le_of_ble_eq_true rfl) ?_
    rintro _ _ _ _ _ _ ⟨rfl, rfl, rfl, rfl, rfl, rfl⟩
    exact V.iret (pc := 24) dX12_pair_24 rfl (QM.no hR hf (by decide) (by rw [s_pair, if_neg qa]; rfl))
  · have qa1 := bi_ne.mp h9
    refine V.iload_n (pc := 12) dX12_pair_12 rfl ?_
    refine V.pS (as := [_]) (pc := 13) dX12_pair_13 lX12_126 bX12_areTeeth sX12_areTeeth (c_areTeeth (d := d + 1) _) (by omega) rfl (Nat.le_of_ble_eq_true rfl) ?_
    refine V.if_ne 25 (pc := 16) dX12_pair_16 (by decide) (fun h16 => ?_) (fun h16 => ?_)
    · have qa : (6 ≤ a.toInt ∧ a.toInt ≤ 120) ∧ (6 ≤ b.toInt ∧ b.toInt ≤ 120) := ⟨qa1, bi_ne.mp h16⟩
      refine V.aload_n (pc := 25) dX12_pair_25 rfl ?_
      refine V.iload_n (pc := 26) dX12_pair_26 rfl ?_
      refine V.pV (as := [_]) (pc := 27) dX12_pair_27 lX12_111 bX12_isHand nX12_isHand (ci := 11) rfl eX12_isHand hM.o (c_isHand (d := d + 1) _ hM (by have := hA.1.1; omega) hR.h0) (by omega) rfl (Nat.le_of_ble_eq_true rfl) ?_
      refine V.if_ne 40 (pc := 30) dX12_pair_30 (by decide) (fun h30 => ?_) (fun h30 => ?_)
      · have q := bi_ne.mp h30
        obtain ⟨y, hy, ey⟩ := hdAt_yes q
        have hx := nIx q.1 rfl
        have h6 := hA.1.1
        have hY := hA.1.2.1 y (List.mem_of_getElem? hy)
        have hW := hR.2.2.1.2.1 _ y hy
        have h4 := hY.2.2.2.2.1
        refine V.aload_n (pc := 40) dX12_pair_40 rfl ?_
        refine V.iload_n (pc := 41) dX12_pair_41 rfl ?_
        refine V.iconst (v := 3) (pc := 42) dX12_pair_42 (by decide) ?_
        refine V.pV (as := [_, _]) (pc := 43) dX12_pair_43 lX12_115 bX12_ofHand nX12_ofHand (ci := 11) rfl eX12_ofHand hM.o (c_ofHand (d := d + 2) (h := x.toInt.toNat) (w := 3) _ _ hM hx rfl (by omega)) (by omega) rfl (Nat.le_of_ble_eq_true rfl) ?_
        refine V.topi hW.2.2.2.1 ?_
        refine V.is (pc := 46) dX12_pair_46 (by decide) (st1_4 rfl) ?_
        refine V.iload (pc := 48) dX12_pair_48 rfl ?_
        refine V.iconst (v := 4) (pc := 50) dX12_pair_50 (by decide) ?_
        refine V.icmp_ne 61 (pc := 51) dX12_pair_51 (by decide) (fun h51 => ?_) (fun h51 => ?_)
        · have q4 : ¬ y.2.2.2.length = 4 := by
            rw [L4, nI_eq (by omega) (by omega)] at h51
            exact h51
          refine V.aload_n (pc := 61) dX12_pair_61 rfl ?_
          refine V.iload_n (pc := 62) dX12_pair_62 rfl ?_
          refine V.iload_n (pc := 63) dX12_pair_63 rfl ?_
          refine V.iload_n (pc := 64) dX12_pair_64 rfl ?_
          refine V.invV0 (as := [_, _, _]) (pc := 65) dX12_pair_65 lX12_129 bX12_addPair nX12_addPair (ci := 11) rfl eX12_addPair hM.o (c_addPair (d := d + 2) (h := x.toInt.toNat) (k := y.2.2.2.length) _ _ _ hM hx (by omega) (by omega) hW.2.2.2.1) (by omega) rfl (Nat.le_of_ble_eq_true rfl) ?_
          rintro _ _ _ I2 _ _ ⟨rfl, rfl, rfl, rfl, rfl, g1, g2, g3, g4, g5⟩
          refine V.aload_n (pc := 68) dX12_pair_68 rfl ?_
          refine V.iload (pc := 69) dX12_pair_69 rfl ?_
          refine V.iconst (v := 1) (pc := 71) dX12_pair_71 (by decide) ?_
          refine V.iadd (pc := 72) dX12_pair_72 ?_
          refine V.topi (nI_1 _) ?_
          refine V.invV0 (as := [_]) (pc := 73) dX12_pair_73 lX12_102 bX12_tell nX12_tell (ci := 11) rfl eX12_tell hM.o (c_tell (d := d + 2) _ hM (by first | decide | (rw [nI_toInt (by omega)]; omega))) (by omega) rfl (Nat.le_of_ble_eq_true rfl) ?_
          rintro _ _ _ _ _ _ ⟨rfl, rfl, rfl, rfl, rfl, rfl⟩
          exact V.iret (pc := 76) dX12_pair_76 rfl ⟨by rw [s_pair, if_pos qa]; simp only [ey]; rw [if_neg q4]; simp only [okYes]; rw [← iI_nat]; rfl, rfl, rfl, rfl, Frm.tell (hf.trans (fun b hb => g1 b (by omega))), Frm.rf, by
        rw [s_pair, if_pos qa]; simp only [ey]; rw [if_neg q4]; simp only [okYes]
        refine RepM.okay (hR.setRow g1 ?_) _ (nI_pos' (by omega))
        refine RowRep.hand hA.1 hR.2.2.1 (by omega) ⟨?_, ?_, ?_, ?_, fun p qq hp => ?_⟩ (fun j hj => g5 j (by omega) (by omega) (by omega))
        · rw [g5 _ (by omega) (by omega) (by omega)]; exact hW.1
        · rw [g5 _ (by omega) (by omega) (by omega)]; exact hW.2.1
        · rw [g5 _ (by omega) (by omega) (by omega)]; exact hW.2.2.1
        · rw [g2, List.length_append]; rfl
        · have hp2 : (y.2.2.2 ++ [(a.toInt.toNat, b.toInt.toNat)])[p]? = some qq := hp
          by_cases e : p = y.2.2.2.length
          · subst e
            rw [List.getElem?_append_right (Nat.le_refl _)] at hp2
            simp at hp2
            subst hp2
            rw [g3, g4]
            exact ⟨nIx (by omega) rfl, nIx (by omega) rfl⟩
          · have hl2 : p < (y.2.2.2 ++ [(a.toInt.toNat, b.toInt.toNat)]).length := (List.getElem?_eq_some_iff.mp hp2).1
            rw [List.length_append, List.length_singleton] at hl2
            rw [List.getElem?_append_left (by omega)] at hp2
            rw [g5 _ (by omega) (by omega) (by omega), g5 _ (by omega) (by omega) (by omega)]
            exact hW.2.2.2.2 p qq hp2⟩
        · have q4 : y.2.2.2.length = 4 := by
            rw [L4, nI_eq (by omega) (by omega)] at h51
            exact h51
          refine V.aload_n (pc := 54) dX12_pair_54 rfl ?_
          refine V.bipush (v := (-5)) (pc := 55) dX12_pair_55 (by decide) ?_
          refine V.invV0 (as := [_]) (pc := 57) dX12_pair_57 lX12_102 bX12_tell nX12_tell (ci := 11) rfl eX12_tell hM.o (c_tell (d := d + 2) _ hM (by first | decide | (rw [nI_toInt (by omega)]; omega))) (by omega) rfl (Nat.le_of_ble_eq_true rfl) ?_
          rintro _ _ _ _ _ _ ⟨rfl, rfl, rfl, rfl, rfl, rfl⟩
          exact V.iret (pc := 60) dX12_pair_60 rfl (QM.no hR hf (by decide) (by rw [s_pair, if_pos qa]; simp only [ey]; rw [if_pos q4]; rfl))
      · have q := bi_eq.mp h30
        have ey := hdAt_no q
        refine V.aload_n (pc := 33) dX12_pair_33 rfl ?_
        refine V.bipush (v := (-2)) (pc := 34) dX12_pair_34 (by decide) ?_
        refine V.invV0 (as := [_]) (pc := 36) dX12_pair_36 lX12_102 bX12_tell nX12_tell (ci := 11) rfl eX12_tell hM.o (c_tell (d := d + 2) _ hM (by first | decide | (rw [nI_toInt (by omega)]; omega))) (by omega) rfl (Nat.le_of_ble_eq_true rfl) ?_
        rintro _ _ _ _ _ _ ⟨rfl, rfl, rfl, rfl, rfl, rfl⟩
        exact V.iret (pc := 39) dX12_pair_39 rfl (QM.no hR hf (by decide) (by rw [s_pair, if_pos qa]; simp only [ey]; rfl))
    · have qa : ¬ ((6 ≤ a.toInt ∧ a.toInt ≤ 120) ∧ (6 ≤ b.toInt ∧ b.toInt ≤ 120)) := fun z => bi_eq.mp h16 z.2
      refine V.aload_n (pc := 19) dX12_pair_19 rfl ?_
      refine V.iconst (v := (-1)) (pc := 20) dX12_pair_20 (by decide) ?_
      refine V.invV0 (as := [_]) (pc := 21) dX12_pair_21 lX12_102 bX12_tell nX12_tell (ci := 11) rfl eX12_tell hM.o (c_tell (d := d + 2) _ hM (by first | decide | (rw [nI_toInt (by omega)]; omega))) (by omega) rfl (Nat.le_of_ble_eq_true rfl) ?_
      rintro _ _ _ _ _ _ ⟨rfl, rfl, rfl, rfl, rfl, rfl⟩
      exact V.iret (pc := 24) dX12_pair_24 rfl (QM.no hR hf (by decide) (by rw [s_pair, if_neg qa]; rfl))
