theorem put_no {A : Ab} {h w v : Int} (q : ¬ (0 ≤ v ∧ (w = 0 ∨ (w = 1 ∧ v ≤ 9999)))) : s_put A h w v = okNo A (-1) := by rw [s_put, if_neg q]
theorem p_put {g : gG} {d : Nat} {T : mT} {n : Nat} {I : mI} {J : mJ} {F : mF} {m : Nat} {A : Ab} (x w v : Int32) (hM : MS T F m) (hA : AbOK A) (hR : RepM I J m A)  : Ct g mX12_put (d + 3) [.ref m, .int x, .int w, .int v] 0 0 T n I J F (QM m T n I J F (some (.int (iI (s_put A x.toInt w.toInt v.toInt).1))) (s_put A x.toInt w.toInt v.toInt).2) := by
  refine Ct.ofV (k := 1) (by decide) (Nat.le_of_ble_eq_true rfl) ?_
  show V g mX12_put (d + 3) _ 0 0 0 [some (.ref m), some (.int x), some (.int w), some (.int v), none] [] T n I J F
  refine V.aload_n (pc := 0) dX12_put_0 rfl ?_
  refine V.iconst (v := 0) (pc := 1) dX12_put_1 (by decide) ?_
  refine V.putI (pc := 2) dX12_put_2 fX12_88_11 (fun r h => by cases h; exact Or.inl rfl) rfl hM.o ?_
  refine V.thr hR (fun I1 hR1 hf => ?_)
  clear hR
  have hR := hR1
  clear hR1
  refine V.iload_n (pc := 5) dX12_put_5 rfl ?_
  refine V.if_ne 21 (pc := 6) dX12_put_6 (by decide) (fun h6 => ?_) (fun h6 => ?_)
  · have w0 : ¬ w.toInt = 0 := fun z => h6 ((eq32 w 0).mpr z)
    refine V.iload_n (pc := 21) dX12_put_21 rfl ?_
    refine V.iconst (v := 1) (pc := 22) dX12_put_22 (by decide) ?_
    refine V.icmp_ne 42 (pc := 23) dX12_put_23 (by decide) (fun h23 => ?_) (fun h23 => ?_)
    · have qv : ¬ (0 ≤ v.toInt ∧ (w.toInt = 0 ∨ (w.toInt = 1 ∧ v.toInt ≤ 9999))) := by
        have w1 : ¬ w.toInt = 1 := fun z => h23 ((eq32 w 1).mpr z)
        omega
      refine V.iconst (v := 0) (pc := 42) dX12_put_42 (by decide) ?_
      refine V.is (pc := 43) dX12_put_43 (by decide) (st1_4 rfl) ?_
      refine V.iload (pc := 45) dX12_put_45 rfl ?_
      refine V.if_ne 56 (pc := 47) dX12_put_47 (by decide) (fun h47 => absurd rfl h47) (fun h47 => ?_)
      refine V.aload_n (pc := 50) dX12_put_50 rfl ?_
      refine V.iconst (v := (-1)) (pc := 51) dX12_put_51 (by decide) ?_
      refine V.invV0 (as := [_]) (pc := 52) dX12_put_52 lX12_102 bX12_tell nX12_tell (ci := 11) rfl eX12_tell hM.o (c_tell (d := d + 2) _ hM (by first | decide | (rw [nI_toInt (by omega)]; omega))) (by omega) rfl (Nat.le_of_ble_eq_true rfl) ?_
      rintro _ _ _ _ _ _ ⟨rfl, rfl, rfl, rfl, rfl, rfl⟩
      exact V.iret (pc := 55) dX12_put_55 rfl (QM.no hR hf (by decide) (by rw [put_no qv]; rfl))
    · have w1 : w.toInt = 1 := by rw [h23]; rfl
      refine V.iload_n (pc := 26) dX12_put_26 rfl ?_
      refine V.i2l (pc := 27) dX12_put_27 ?_
      refine V.lconst (v := 0) (pc := 28) dX12_put_28 (by decide) ?_
      refine V.ldc2 (pc := 29) dX12_put_29 qX12_109 ?_
      refine V.pS (as := [_, _, _]) (pc := 32) dX12_put_32 lX12_98 bX12_in sX12_in (c_in (d := d + 2) _ _ _) (by omega) rfl (Nat.le_of_ble_eq_true rfl) ?_
      refine V.if_eq 42 (pc := 35) dX12_put_35 (by decide) (fun h35 => ?_) (fun h35 => ?_)
      · have qv : ¬ (0 ≤ v.toInt ∧ (w.toInt = 0 ∨ (w.toInt = 1 ∧ v.toInt ≤ 9999))) := by
          have z : ¬ (0 ≤ v.toInt ∧ v.toInt ≤ 9999) := fun z => bi_eq.mp h35 ((in64 v 0 9999 0 9999 rfl rfl).mpr z)
          omega
        refine V.iconst (v := 0) (pc := 42) dX12_put_42 (by decide) ?_
        refine V.is (pc := 43) dX12_put_43 (by decide) (st1_4 rfl) ?_
        refine V.iload (pc := 45) dX12_put_45 rfl ?_
        refine V.if_ne 56 (pc := 47) dX12_put_47 (by decide) (fun h47 => absurd rfl h47) (fun h47 => ?_)
        refine V.aload_n (pc := 50) dX12_put_50 rfl ?_
        refine V.iconst (v := (-1)) (pc := 51) dX12_put_51 (by decide) ?_
        refine V.invV0 (as := [_]) (pc := 52) dX12_put_52 lX12_102 bX12_tell nX12_tell (ci := 11) rfl eX12_tell hM.o (c_tell (d := d + 2) _ hM (by first | decide | (rw [nI_toInt (by omega)]; omega))) (by omega) rfl (Nat.le_of_ble_eq_true rfl) ?_
        rintro _ _ _ _ _ _ ⟨rfl, rfl, rfl, rfl, rfl, rfl⟩
        exact V.iret (pc := 55) dX12_put_55 rfl (QM.no hR hf (by decide) (by rw [put_no qv]; rfl))
      · have qv : 0 ≤ v.toInt ∧ (w.toInt = 0 ∨ (w.toInt = 1 ∧ v.toInt ≤ 9999)) := by
          have z := (in64 v 0 9999 0 9999 rfl rfl).mp (bi_ne.mp h35)
          omega
        refine V.iconst (v := 1) (pc := 38) dX12_put_38 (by decide) ?_
        refine V.goto 43 (pc := 39) dX12_put_39 (by decide) ?_
        refine V.is (pc := 43) dX12_put_43 (by decide) (st1_4 rfl) ?_
        refine V.iload (pc := 45) dX12_put_45 rfl ?_
        refine V.if_ne 56 (pc := 47) dX12_put_47 (by decide) (fun h47 => ?_) (fun h47 => absurd h47 (by decide))
        refine V.aload_n (pc := 56) dX12_put_56 rfl ?_
        refine V.iload_n (pc := 57) dX12_put_57 rfl ?_
        refine V.pV (as := [_]) (pc := 58) dX12_put_58 lX12_111 bX12_isHand nX12_isHand (ci := 11) rfl eX12_isHand hM.o (c_isHand (d := d + 1) _ hM (by have := hA.1.1; omega) hR.h0) (by omega) rfl (Nat.le_of_ble_eq_true rfl) ?_
        refine V.if_ne 71 (pc := 61) dX12_put_61 (by decide) (fun h61 => ?_) (fun h61 => ?_)
        · have q := bi_ne.mp h61
          obtain ⟨y, hy, ey⟩ := hdAt_yes q
          have hx := nIx q.1 rfl
          have h6 := hA.1.1
          have hY := hA.1.2.1 y (List.mem_of_getElem? hy)
          have hW := hR.2.2.1.2.1 _ y hy
          refine V.iload_n (pc := 71) dX12_put_71 rfl ?_
          refine V.if_ne 93 (pc := 72) dX12_put_72 (by decide) (fun h72 => ?_) (fun h72 => absurd (by rw [h72]; rfl) w0)
          refine V.aload_n (pc := 93) dX12_put_93 rfl ?_
          refine V.bipush (v := 10) (pc := 94) dX12_put_94 (by decide) ?_
          refine V.bipush (v := 12) (pc := 96) dX12_put_96 (by decide) ?_
          refine V.iload_n (pc := 98) dX12_put_98 rfl ?_
          refine V.imul (pc := 99) dX12_put_99 ?_
          refine V.iadd (pc := 100) dX12_put_100 ?_
          refine V.iconst (v := 1) (pc := 101) dX12_put_101 (by decide) ?_
          refine V.iadd (pc := 102) dX12_put_102 ?_
          refine V.iload_n (pc := 103) dX12_put_103 rfl ?_
          refine V.iadd (pc := 104) dX12_put_104 ?_
          refine V.iload_n (pc := 105) dX12_put_105 rfl ?_
          refine V.invV0 (as := [_, _]) (pc := 106) dX12_put_106 lX12_119 bX12_change nX12_change (ci := 11) rfl eX12_change hM.o (c_change (d := d + 1) (k := 10 + 12 * x.toInt.toNat + 1 + w.toInt.toNat) _ _ hM (ix1 hx (nIx (by omega) rfl)) (by omega)) (by omega) rfl (Nat.le_of_ble_eq_true rfl) ?_
          rintro _ _ _ _ _ _ ⟨rfl, rfl, rfl, rfl, rfl, rfl⟩
          exact V.iret (pc := 109) dX12_put_109 rfl ⟨by rw [s_put, if_pos qv]; simp only [ey]; rw [if_neg w0, show w.toInt.toNat = 1 by omega]; simp only [okYes]; rw [hW.2.2.1, iI_nat], rfl, rfl, rfl, ((hf.up ⟨by omega, by omega⟩).up ⟨by omega, by omega⟩), Frm.rf, by
        rw [s_put, if_pos qv]; simp only [ey]; rw [if_neg w0, show w.toInt.toNat = 1 by omega]; simp only [okYes]
        refine RepM.was (hR.setRow (fun b hb => up2_off hb) ?_)
        refine RowRep.hand hA.1 hR.2.2.1 (by omega) ⟨?_, ?_, ?_, ?_, fun p qq hp => ?_⟩ (fun j hj => up2_ne (by omega))
        · rw [up2_ne (by omega)]; exact hW.1
        · rw [up2_ne (by omega)]; exact hW.2.1
        · rw [show 10 + 12 * x.toInt.toNat + 2 = 10 + 12 * x.toInt.toNat + 1 + 1 from rfl, up2_same]; exact nIx (by omega) rfl
        · rw [up2_ne (by omega)]; exact hW.2.2.2.1
        · rw [up2_ne (by omega), up2_ne (by omega)]; exact hW.2.2.2.2 p qq hp⟩
        · have q := bi_eq.mp h61
          have ey := hdAt_no q
          refine V.aload_n (pc := 64) dX12_put_64 rfl ?_
          refine V.bipush (v := (-2)) (pc := 65) dX12_put_65 (by decide) ?_
          refine V.invV0 (as := [_]) (pc := 67) dX12_put_67 lX12_102 bX12_tell nX12_tell (ci := 11) rfl eX12_tell hM.o (c_tell (d := d + 2) _ hM (by first | decide | (rw [nI_toInt (by omega)]; omega))) (by omega) rfl (Nat.le_of_ble_eq_true rfl) ?_
          rintro _ _ _ _ _ _ ⟨rfl, rfl, rfl, rfl, rfl, rfl⟩
          exact V.iret (pc := 70) dX12_put_70 rfl (QM.no hR hf (by decide) (by rw [s_put, if_pos qv]; simp only [ey]; rfl))
  · have w0 : w.toInt = 0 := by rw [h6]; rfl
    refine V.iload_n (pc := 9) dX12_put_9 rfl ?_
    refine V.if_lt 17 (pc := 10) dX12_put_10 (by decide) (fun h10 => ?_) (fun h10 => ?_)
    · have qv : ¬ (0 ≤ v.toInt ∧ (w.toInt = 0 ∨ (w.toInt = 1 ∧ v.toInt ≤ 9999))) := by
        rw [lt32] at h10
        have e0 : (0 : Int32).toInt = 0 := rfl
        omega
      refine V.iconst (v := 0) (pc := 17) dX12_put_17 (by decide) ?_
      refine V.goto 43 (pc := 18) dX12_put_18 (by decide) ?_
      refine V.is (pc := 43) dX12_put_43 (by decide) (st1_4 rfl) ?_
      refine V.iload (pc := 45) dX12_put_45 rfl ?_
      refine V.if_ne 56 (pc := 47) dX12_put_47 (by decide) (fun h47 => absurd rfl h47) (fun h47 => ?_)
      refine V.aload_n (pc := 50) dX12_put_50 rfl ?_
      refine V.iconst (v := (-1)) (pc := 51) dX12_put_51 (by decide) ?_
      refine V.invV0 (as := [_]) (pc := 52) dX12_put_52 lX12_102 bX12_tell nX12_tell (ci := 11) rfl eX12_tell hM.o (c_tell (d := d + 2) _ hM (by first | decide | (rw [nI_toInt (by omega)]; omega))) (by omega) rfl (Nat.le_of_ble_eq_true rfl) ?_
      rintro _ _ _ _ _ _ ⟨rfl, rfl, rfl, rfl, rfl, rfl⟩
      exact V.iret (pc := 55) dX12_put_55 rfl (QM.no hR hf (by decide) (by rw [put_no qv]; rfl))
    · have qv : 0 ≤ v.toInt ∧ (w.toInt = 0 ∨ (w.toInt = 1 ∧ v.toInt ≤ 9999)) := by
        rw [lt32] at h10
        have e0 : (0 : Int32).toInt = 0 := rfl
        omega
      refine V.iconst (v := 1) (pc := 13) dX12_put_13 (by decide) ?_
      refine V.goto 43 (pc := 14) dX12_put_14 (by decide) ?_
      refine V.is (pc := 43) dX12_put_43 (by decide) (st1_4 rfl) ?_
      refine V.iload (pc := 45) dX12_put_45 rfl ?_
      refine V.if_ne 56 (pc := 47) dX12_put_47 (by decide) (fun h47 => ?_) (fun h47 => absurd h47 (by decide))
      refine V.aload_n (pc := 56) dX12_put_56 rfl ?_
      refine V.iload_n (pc := 57) dX12_put_57 rfl ?_
      refine V.pV (as := [_]) (pc := 58) dX12_put_58 lX12_111 bX12_isHand nX12_isHand (ci := 11) rfl eX12_isHand hM.o (c_isHand (d := d + 1) _ hM (by have := hA.1.1; omega) hR.h0) (by omega) rfl (Nat.le_of_ble_eq_true rfl) ?_
      refine V.if_ne 71 (pc := 61) dX12_put_61 (by decide) (fun h61 => ?_) (fun h61 => ?_)
      · have q := bi_ne.mp h61
        obtain ⟨y, hy, ey⟩ := hdAt_yes q
        have hx := nIx q.1 rfl
        have h6 := hA.1.1
        have hY := hA.1.2.1 y (List.mem_of_getElem? hy)
        have hW := hR.2.2.1.2.1 _ y hy
        refine V.iload_n (pc := 71) dX12_put_71 rfl ?_
        refine V.if_ne 93 (pc := 72) dX12_put_72 (by decide) (fun h72 => absurd ((eq32 w 0).mpr w0) h72) (fun h72 => ?_)
        refine V.iload_n (pc := 75) dX12_put_75 rfl ?_
        refine V.aload_n (pc := 76) dX12_put_76 rfl ?_
        refine V.iload_n (pc := 77) dX12_put_77 rfl ?_
        refine V.iconst (v := 0) (pc := 78) dX12_put_78 (by decide) ?_
        refine V.pV (as := [_, _]) (pc := 79) dX12_put_79 lX12_115 bX12_ofHand nX12_ofHand (ci := 11) rfl eX12_ofHand hM.o (c_ofHand (d := d + 2) (h := x.toInt.toNat) (w := 0) _ _ hM hx rfl (by omega)) (by omega) rfl (Nat.le_of_ble_eq_true rfl) ?_
        refine V.topi hW.1 ?_
        refine V.icmp_lt 93 (pc := 82) dX12_put_82 (by decide) (fun h82 => ?_) (fun h82 => ?_)
        · have v1 : v.toInt < y.1 := by
            rw [lt32, nI_toInt (by have := hY.2.1; omega)] at h82
            exact h82
          refine V.aload_n (pc := 93) dX12_put_93 rfl ?_
          refine V.bipush (v := 10) (pc := 94) dX12_put_94 (by decide) ?_
          refine V.bipush (v := 12) (pc := 96) dX12_put_96 (by decide) ?_
          refine V.iload_n (pc := 98) dX12_put_98 rfl ?_
          refine V.imul (pc := 99) dX12_put_99 ?_
          refine V.iadd (pc := 100) dX12_put_100 ?_
          refine V.iconst (v := 1) (pc := 101) dX12_put_101 (by decide) ?_
          refine V.iadd (pc := 102) dX12_put_102 ?_
          refine V.iload_n (pc := 103) dX12_put_103 rfl ?_
          refine V.iadd (pc := 104) dX12_put_104 ?_
          refine V.iload_n (pc := 105) dX12_put_105 rfl ?_
          refine V.invV0 (as := [_, _]) (pc := 106) dX12_put_106 lX12_119 bX12_change nX12_change (ci := 11) rfl eX12_change hM.o (c_change (d := d + 1) (k := 10 + 12 * x.toInt.toNat + 1 + w.toInt.toNat) _ _ hM (ix1 hx (nIx (by omega) rfl)) (by omega)) (by omega) rfl (Nat.le_of_ble_eq_true rfl) ?_
          rintro _ _ _ _ _ _ ⟨rfl, rfl, rfl, rfl, rfl, rfl⟩
          exact V.iret (pc := 109) dX12_put_109 rfl ⟨by rw [s_put, if_pos qv]; simp only [ey]; rw [if_pos w0, if_pos v1, show w.toInt.toNat = 0 by omega]; simp only [okYes]; rw [Nat.add_zero, hW.2.1, iI_nat], rfl, rfl, rfl, ((hf.up ⟨by omega, by omega⟩).up ⟨by omega, by omega⟩), Frm.rf, by
        rw [s_put, if_pos qv]; simp only [ey]; rw [if_pos w0, if_pos v1, show w.toInt.toNat = 0 by omega]; simp only [okYes]
        refine RepM.was (hR.setRow (fun b hb => up2_off hb) ?_)
        refine RowRep.hand hA.1 hR.2.2.1 (by omega) ⟨?_, ?_, ?_, ?_, fun p qq hp => ?_⟩ (fun j hj => up2_ne (by omega))
        · rw [up2_ne (by omega)]; exact hW.1
        · rw [show 10 + 12 * x.toInt.toNat + 1 = 10 + 12 * x.toInt.toNat + 1 + 0 from rfl, up2_same]; exact nIx (by omega) rfl
        · rw [up2_ne (by omega)]; exact hW.2.2.1
        · rw [up2_ne (by omega)]; exact hW.2.2.2.1
        · rw [up2_ne (by omega), up2_ne (by omega)]; exact hW.2.2.2.2 p qq hp⟩
        · have v1 : ¬ v.toInt < y.1 := by
            rw [lt32, nI_toInt (by have := hY.2.1; omega)] at h82
            exact h82
          refine V.aload_n (pc := 85) dX12_put_85 rfl ?_
          refine V.iconst (v := (-1)) (pc := 86) dX12_put_86 (by decide) ?_
          refine V.invV0 (as := [_]) (pc := 87) dX12_put_87 lX12_102 bX12_tell nX12_tell (ci := 11) rfl eX12_tell hM.o (c_tell (d := d + 2) _ hM (by first | decide | (rw [nI_toInt (by omega)]; omega))) (by omega) rfl (Nat.le_of_ble_eq_true rfl) ?_
          rintro _ _ _ _ _ _ ⟨rfl, rfl, rfl, rfl, rfl, rfl⟩
          refine V.goto 109 (pc := 90) dX12_put_90 (by decide) ?_
          exact V.iret (pc := 109) dX12_put_109 rfl (QM.no hR hf (by decide) (by rw [s_put, if_pos qv]; simp only [ey]; rw [if_pos w0, if_neg v1]; rfl))
      · have q := bi_eq.mp h61
        have ey := hdAt_no q
        refine V.aload_n (pc := 64) dX12_put_64 rfl ?_
        refine V.bipush (v := (-2)) (pc := 65) dX12_put_65 (by decide) ?_
        refine V.invV0 (as := [_]) (pc := 67) dX12_put_67 lX12_102 bX12_tell nX12_tell (ci := 11) rfl eX12_tell hM.o (c_tell (d := d + 2) _ hM (by first | decide | (rw [nI_toInt (by omega)]; omega))) (by omega) rfl (Nat.le_of_ble_eq_true rfl) ?_
        rintro _ _ _ _ _ _ ⟨rfl, rfl, rfl, rfl, rfl, rfl⟩
        exact V.iret (pc := 70) dX12_put_70 rfl (QM.no hR hf (by decide) (by rw [s_put, if_pos qv]; simp only [ey]; rfl))
theorem p_push {g : gG} {d : Nat} {T : mT} {n : Nat} {I : mI} {J : mJ} {F : mF} {m : Nat} {A : Ab} (k x v : Int32) (hM : MS T F m) (hA : AbOK A) (hR : RepM I J m A)  : Ct g mX12_push_ (d + 3) [.ref m, .int k, .int x, .int v] 0 0 T n I J F (QM m T n I J F (some (.int (iI (s_push A k.toInt x.toInt v.toInt).1))) (s_push A k.toInt x.toInt v.toInt).2) := by
  refine Ct.ofV (k := 0) (by decide) (Nat.le_of_ble_eq_true rfl) ?_
  show V g mX12_push_ (d + 3) _ 0 0 0 [some (.ref m), some (.int k), some (.int x), some (.int v)] [] T n I J F
  refine V.aload_n (pc := 0) dX12_push__0 rfl ?_
  refine V.iconst (v := 0) (pc := 1) dX12_push__1 (by decide) ?_
  refine V.putI (pc := 2) dX12_push__2 fX12_88_11 (fun r h => by cases h; exact Or.inl rfl) rfl hM.o ?_
  refine V.thr hR (fun I1 hR1 hf => ?_)
  clear hR
  have hR := hR1
  clear hR1
  refine V.iload_n (pc := 5) dX12_push__5 rfl ?_
  refine V.i2l (pc := 6) dX12_push__6 ?_
  refine V.lconst (v := 0) (pc := 7) dX12_push__7 (by decide) ?_
  refine V.ldc2 (pc := 8) dX12_push__8 qX12_429 ?_
  refine V.pS (as := [_, _, _]) (pc := 11) dX12_push__11 lX12_98 bX12_in sX12_in (c_in (d := d + 2) _ _ _) (by omega) rfl (Nat.le_of_ble_eq_true rfl) ?_
  refine V.if_ne 23 (pc := 14) dX12_push__14 (by decide) (fun h14 => ?_) (fun h14 => ?_)
  · have qv : 0 ≤ v.toInt ∧ v.toInt ≤ 9 := (in64 v 0 9 0 9 rfl rfl).mp (bi_ne.mp h14)
    have h44 := hA.1.2.2.2.2.2.2.2.2.2.1
    have h66 := hA.1.1
    refine V.iload_n (pc := 23) dX12_push__23 rfl ?_
    refine V.i2l (pc := 24) dX12_push__24 ?_
    refine V.lconst (v := 0) (pc := 25) dX12_push__25 (by decide) ?_
    refine V.aload_n (pc := 26) dX12_push__26 rfl ?_
    refine V.getR (pc := 27) dX12_push__27 fX12_13_11 rfl hM.o hM.f3 ?_
    refine V.iconst (v := 5) (pc := 30) dX12_push__30 (by decide) ?_
    refine V.iald' (k := 5) (pc := 31) dX12_push__31 hM.t3 rfl (by decide) (by decide) ?_
    refine V.topi hR.h5 ?_
    refine V.i2l (pc := 32) dX12_push__32 ?_
    refine V.lconst (v := 1) (pc := 33) dX12_push__33 (by decide) ?_
    refine V.lsub (pc := 34) dX12_push__34 ?_
    refine V.pS (as := [_, _, _]) (pc := 35) dX12_push__35 lX12_98 bX12_in sX12_in (c_in (d := d + 2) _ _ _) (by omega) rfl (Nat.le_of_ble_eq_true rfl) ?_
    refine V.if_eq 66 (pc := 38) dX12_push__38 (by decide) (fun h38 => ?_) (fun h38 => ?_)
    · have q : ¬ ((0 ≤ k.toInt ∧ k.toInt < (kns (cor A)).length) ∧ (0 ≤ x.toInt ∧ x.toInt < (hds (cor A)).length)) := fun z => bi_eq.mp h38 ((in0 k _ (by omega)).mpr z.1)
      refine V.aload_n (pc := 66) dX12_push__66 rfl ?_
      refine V.bipush (v := (-2)) (pc := 67) dX12_push__67 (by decide) ?_
      refine V.invV0 (as := [_]) (pc := 69) dX12_push__69 lX12_102 bX12_tell nX12_tell (ci := 11) rfl eX12_tell hM.o (c_tell (d := d + 2) _ hM (by first | decide | (rw [nI_toInt (by omega)]; omega))) (by omega) rfl (Nat.le_of_ble_eq_true rfl) ?_
      rintro _ _ _ _ _ _ ⟨rfl, rfl, rfl, rfl, rfl, rfl⟩
      exact V.iret (pc := 72) dX12_push__72 rfl (QM.no hR hf (by decide) (by rw [s_push, if_pos qv, if_neg q]; rfl))
    · have qk := (in0 k _ (by omega)).mp (bi_ne.mp h38)
      refine V.aload_n (pc := 41) dX12_push__41 rfl ?_
      refine V.iload_n (pc := 42) dX12_push__42 rfl ?_
      refine V.pV (as := [_]) (pc := 43) dX12_push__43 lX12_111 bX12_isHand nX12_isHand (ci := 11) rfl eX12_isHand hM.o (c_isHand (d := d + 1) _ hM (by have := hA.1.1; omega) hR.h0) (by omega) rfl (Nat.le_of_ble_eq_true rfl) ?_
      refine V.if_eq 66 (pc := 46) dX12_push__46 (by decide) (fun h46 => ?_) (fun h46 => ?_)
      · have q : ¬ ((0 ≤ k.toInt ∧ k.toInt < (kns (cor A)).length) ∧ (0 ≤ x.toInt ∧ x.toInt < (hds (cor A)).length)) := fun z => bi_eq.mp h46 z.2
        refine V.aload_n (pc := 66) dX12_push__66 rfl ?_
        refine V.bipush (v := (-2)) (pc := 67) dX12_push__67 (by decide) ?_
        refine V.invV0 (as := [_]) (pc := 69) dX12_push__69 lX12_102 bX12_tell nX12_tell (ci := 11) rfl eX12_tell hM.o (c_tell (d := d + 2) _ hM (by first | decide | (rw [nI_toInt (by omega)]; omega))) (by omega) rfl (Nat.le_of_ble_eq_true rfl) ?_
        rintro _ _ _ _ _ _ ⟨rfl, rfl, rfl, rfl, rfl, rfl⟩
        exact V.iret (pc := 72) dX12_push__72 rfl (QM.no hR hf (by decide) (by rw [s_push, if_pos qv, if_neg q]; rfl))
      · have q : (0 ≤ k.toInt ∧ k.toInt < (kns (cor A)).length) ∧ (0 ≤ x.toInt ∧ x.toInt < (hds (cor A)).length) := ⟨qk, bi_ne.mp h46⟩
        have hl : k.toInt.toNat < (kns (cor A)).length := by omega
        have hk := List.getElem?_eq_getElem hl
        have hg : (kns (cor A)).getD k.toInt.toNat (fun _ => 0) = (kns (cor A))[k.toInt.toNat] := by rw [List.getD_eq_getElem?_getD, hk]; rfl
        refine V.aload_n (pc := 49) dX12_push__49 rfl ?_
        refine V.bipush (v := 124) (pc := 50) dX12_push__50 (by decide) ?_
        refine V.bipush (v := 6) (pc := 52) dX12_push__52 (by decide) ?_
        refine V.iload_n (pc := 54) dX12_push__54 rfl ?_
        refine V.imul (pc := 55) dX12_push__55 ?_
        refine V.iadd (pc := 56) dX12_push__56 ?_
        refine V.iload_n (pc := 57) dX12_push__57 rfl ?_
        refine V.iadd (pc := 58) dX12_push__58 ?_
        refine V.iload_n (pc := 59) dX12_push__59 rfl ?_
        refine V.invV0 (as := [_, _]) (pc := 60) dX12_push__60 lX12_119 bX12_change nX12_change (ci := 11) rfl eX12_change hM.o (c_change (d := d + 1) (k := 124 + 6 * k.toInt.toNat + x.toInt.toNat) _ _ hM (ixk (nIx (by omega) rfl) (nIx (by omega) rfl)) (by omega)) (by omega) rfl (Nat.le_of_ble_eq_true rfl) ?_
        rintro _ _ _ _ _ _ ⟨rfl, rfl, rfl, rfl, rfl, rfl⟩
        refine V.goto 72 (pc := 63) dX12_push__63 (by decide) ?_
        exact V.iret (pc := 72) dX12_push__72 rfl ⟨by rw [s_push, if_pos qv, if_pos q, hR.2.2.1.2.2.2.2.1 _ _ hk _ (by omega), hg]; simp only [okYes]; rw [iI_nat], rfl, rfl, rfl, ((hf.up ⟨by omega, by omega⟩).up ⟨by omega, by omega⟩), Frm.rf, by
        rw [s_push, if_pos qv, if_pos q, hg]
        simp only [okYes]
        refine RepM.was (hR.setRow (fun b hb => up2_off hb) ?_)
        exact RowRep.knobSet hA.1 hR.2.2.1 hk (by omega) (by rw [up2_same]; exact nIx (by omega) rfl) (fun j hj => up2_ne (by omega))⟩
  · have qv : ¬ (0 ≤ v.toInt ∧ v.toInt ≤ 9) := fun z => bi_eq.mp h14 ((in64 v 0 9 0 9 rfl rfl).mpr z)
    refine V.aload_n (pc := 17) dX12_push__17 rfl ?_
    refine V.iconst (v := (-1)) (pc := 18) dX12_push__18 (by decide) ?_
    refine V.invV0 (as := [_]) (pc := 19) dX12_push__19 lX12_102 bX12_tell nX12_tell (ci := 11) rfl eX12_tell hM.o (c_tell (d := d + 2) _ hM (by first | decide | (rw [nI_toInt (by omega)]; omega))) (by omega) rfl (Nat.le_of_ble_eq_true rfl) ?_
    rintro _ _ _ _ _ _ ⟨rfl, rfl, rfl, rfl, rfl, rfl⟩
    exact V.iret (pc := 22) dX12_push__22 rfl (QM.no hR hf (by decide) (by rw [s_push, if_neg qv]; rfl))
theorem p_sight {g : gG} {d : Nat} {T : mT} {n : Nat} {I : mI} {J : mJ} {F : mF} {m : Nat} {A : Ab} (x dy v : Int32) (hM : MS T F m) (hA : AbOK A) (hR : RepM I J m A)  : Ct g mX12_sight (d + 3) [.ref m, .int x, .int dy, .int v] 0 0 T n I J F (QM m T n I J F (some (.int (iI (s_sight A x.toInt dy.toInt v.toInt).1))) (s_sight A x.toInt dy.toInt v.toInt).2) := by
  refine Ct.ofV (k := 1) (by decide) (Nat.le_of_ble_eq_true rfl) ?_
  show V g mX12_sight (d + 3) _ 0 0 0 [some (.ref m), some (.int x), some (.int dy), some (.int v), none] [] T n I J F
  refine V.aload_n (pc := 0) dX12_sight_0 rfl ?_
  refine V.iconst (v := 0) (pc := 1) dX12_sight_1 (by decide) ?_
  refine V.putI (pc := 2) dX12_sight_2 fX12_88_11 (fun r h => by cases h; exact Or.inl rfl) rfl hM.o ?_
  refine V.thr hR (fun I1 hR1 hf => ?_)
  clear hR
  have hR := hR1
  clear hR1
  refine V.iload_n (pc := 5) dX12_sight_5 rfl ?_
  refine V.pS (as := [_]) (pc := 6) dX12_sight_6 lX12_318 bX12_isDay sX12_isDay (c_isDay (d := d + 1) _) (by omega) rfl (Nat.le_of_ble_eq_true rfl) ?_
  refine V.if_eq 16 (pc := 9) dX12_sight_9 (by decide) (fun h9 => ?_) (fun h9 => ?_)
  · have qa : ¬ ((0 ≤ dy.toInt ∧ dy.toInt ≤ 1000000) ∧ 0 ≤ v.toInt) := fun z => bi_eq.mp h9 z.1
    refine V.aload_n (pc := 16) dX12_sight_16 rfl ?_
    refine V.iconst (v := (-1)) (pc := 17) dX12_sight_17 (by decide) ?_
    refine V.invV0 (as := [_]) (pc := 18) dX12_sight_18 lX12_102 bX12_tell nX12_tell (ci := 11) rfl eX12_tell hM.o (c_tell (d := d + 2) _ hM (by first | decide | (rw [nI_toInt (by omega)]; omega))) (by omega) rfl (Nat.le_of_ble_eq_true rfl) ?_
    rintro _ _ _ _ _ _ ⟨rfl, rfl, rfl, rfl, rfl, rfl⟩
    exact V.iret (pc := 21) dX12_sight_21 rfl (QM.no hR hf (by decide) (by rw [s_sight, if_neg qa]; rfl))
  · have qd := bi_ne.mp h9
    refine V.iload_n (pc := 12) dX12_sight_12 rfl ?_
    refine V.if_ge 22 (pc := 13) dX12_sight_13 (by decide) (fun h13 => ?_) (fun h13 => ?_)
    · have qa : (0 ≤ dy.toInt ∧ dy.toInt ≤ 1000000) ∧ 0 ≤ v.toInt := ⟨qd, by rw [le32] at h13; exact h13⟩
      refine V.aload_n (pc := 22) dX12_sight_22 rfl ?_
      refine V.iload_n (pc := 23) dX12_sight_23 rfl ?_
      refine V.pV (as := [_]) (pc := 24) dX12_sight_24 lX12_111 bX12_isHand nX12_isHand (ci := 11) rfl eX12_isHand hM.o (c_isHand (d := d + 1) _ hM (by have := hA.1.1; omega) hR.h0) (by omega) rfl (Nat.le_of_ble_eq_true rfl) ?_
      refine V.if_ne 37 (pc := 27) dX12_sight_27 (by decide) (fun h27 => ?_) (fun h27 => ?_)
      · have q := bi_ne.mp h27
        obtain ⟨y, hy, ey⟩ := hdAt_yes q
        have hx := nIx q.1 rfl
        have h6 := hA.1.1
        have hY := hA.1.2.1 y (List.mem_of_getElem? hy)
        have hW := hR.2.2.1.2.1 _ y hy
        have h10 := hA.1.2.2.2.2.2.2.2.1
        refine V.iload_n (pc := 37) dX12_sight_37 rfl ?_
        refine V.aload_n (pc := 38) dX12_sight_38 rfl ?_
        refine V.iload_n (pc := 39) dX12_sight_39 rfl ?_
        refine V.iconst (v := 0) (pc := 40) dX12_sight_40 (by decide) ?_
        refine V.pV (as := [_, _]) (pc := 41) dX12_sight_41 lX12_115 bX12_ofHand nX12_ofHand (ci := 11) rfl eX12_ofHand hM.o (c_ofHand (d := d + 2) (h := x.toInt.toNat) (w := 0) _ _ hM hx rfl (by omega)) (by omega) rfl (Nat.le_of_ble_eq_true rfl) ?_
        refine V.topi hW.1 ?_
        refine V.icmp_lt 53 (pc := 44) dX12_sight_44 (by decide) (fun h44 => ?_) (fun h44 => ?_)
        · have v1 : v.toInt < y.1 := by
            rw [lt32, nI_toInt (by have := hY.2.1; omega)] at h44
            exact h44
          refine V.aload_n (pc := 53) dX12_sight_53 rfl ?_
          refine V.getR (pc := 54) dX12_sight_54 fX12_13_11 rfl hM.o hM.f3 ?_
          refine V.iconst (v := 4) (pc := 57) dX12_sight_57 (by decide) ?_
          refine V.iald' (k := 4) (pc := 58) dX12_sight_58 hM.t3 rfl (by decide) (by decide) ?_
          refine V.topi hR.h4 ?_
          refine V.is (pc := 59) dX12_sight_59 (by decide) (st1_4 rfl) ?_
          refine V.iload (pc := 61) dX12_sight_61 rfl ?_
          refine V.bipush (v := 10) (pc := 63) dX12_sight_63 (by decide) ?_
          refine V.icmp_ne 75 (pc := 65) dX12_sight_65 (by decide) (fun h65 => ?_) (fun h65 => ?_)
          · have q4 : ¬ (sgs (cor A)).length = 10 := by
              rw [L10, nI_eq (by omega) (by omega)] at h65
              exact h65
            refine V.aload_n (pc := 75) dX12_sight_75 rfl ?_
            refine V.getR (pc := 76) dX12_sight_76 fX12_13_11 rfl hM.o hM.f3 ?_
            refine V.bipush (v := 94) (pc := 79) dX12_sight_79 (by decide) ?_
            refine V.iconst (v := 3) (pc := 81) dX12_sight_81 (by decide) ?_
            refine V.iload (pc := 82) dX12_sight_82 rfl ?_
            refine V.imul (pc := 84) dX12_sight_84 ?_
            refine V.iadd (pc := 85) dX12_sight_85 ?_
            refine V.iload_n (pc := 86) dX12_sight_86 rfl ?_
            refine V.iast' (k := 94 + 3 * (sgs (cor A)).length) (pc := 87) dX12_sight_87 hM.t3 (by simp only [L0, L1, L2, L3, L4, L5, L6, L10, L12, L94, L124, pk_mul, nI_add] <;> first | rfl | (congr 1; omega)) (by omega) (by decide) ?_
            refine V.aload_n (pc := 88) dX12_sight_88 rfl ?_
            refine V.getR (pc := 89) dX12_sight_89 fX12_13_11 rfl hM.o hM.f3 ?_
            refine V.bipush (v := 94) (pc := 92) dX12_sight_92 (by decide) ?_
            refine V.iconst (v := 3) (pc := 94) dX12_sight_94 (by decide) ?_
            refine V.iload (pc := 95) dX12_sight_95 rfl ?_
            refine V.imul (pc := 97) dX12_sight_97 ?_
            refine V.iadd (pc := 98) dX12_sight_98 ?_
            refine V.iconst (v := 1) (pc := 99) dX12_sight_99 (by decide) ?_
            refine V.iadd (pc := 100) dX12_sight_100 ?_
            refine V.iload_n (pc := 101) dX12_sight_101 rfl ?_
            refine V.iast' (k := 94 + 3 * (sgs (cor A)).length + 1) (pc := 102) dX12_sight_102 hM.t3 (by simp only [L0, L1, L2, L3, L4, L5, L6, L10, L12, L94, L124, pk_mul, nI_add] <;> first | rfl | (congr 1; omega)) (by omega) (by decide) ?_
            refine V.aload_n (pc := 103) dX12_sight_103 rfl ?_
            refine V.getR (pc := 104) dX12_sight_104 fX12_13_11 rfl hM.o hM.f3 ?_
            refine V.bipush (v := 94) (pc := 107) dX12_sight_107 (by decide) ?_
            refine V.iconst (v := 3) (pc := 109) dX12_sight_109 (by decide) ?_
            refine V.iload (pc := 110) dX12_sight_110 rfl ?_
            refine V.imul (pc := 112) dX12_sight_112 ?_
            refine V.iadd (pc := 113) dX12_sight_113 ?_
            refine V.iconst (v := 2) (pc := 114) dX12_sight_114 (by decide) ?_
            refine V.iadd (pc := 115) dX12_sight_115 ?_
            refine V.iload_n (pc := 116) dX12_sight_116 rfl ?_
            refine V.iast' (k := 94 + 3 * (sgs (cor A)).length + 2) (pc := 117) dX12_sight_117 hM.t3 (by simp only [L0, L1, L2, L3, L4, L5, L6, L10, L12, L94, L124, pk_mul, nI_add] <;> first | rfl | (congr 1; omega)) (by omega) (by decide) ?_
            refine V.aload_n (pc := 118) dX12_sight_118 rfl ?_
            refine V.getR (pc := 119) dX12_sight_119 fX12_13_11 rfl hM.o hM.f3 ?_
            refine V.iconst (v := 4) (pc := 122) dX12_sight_122 (by decide) ?_
            refine V.dup2 (pc := 123) dX12_sight_123 rfl rfl ?_
            refine V.iald' (k := 4) (pc := 124) dX12_sight_124 hM.t3 rfl (by decide) (by decide) ?_
            refine V.iconst (v := 1) (pc := 125) dX12_sight_125 (by decide) ?_
            refine V.iadd (pc := 126) dX12_sight_126 ?_
            refine V.iast' (k := 4) (pc := 127) dX12_sight_127 hM.t3 rfl (by decide) (by decide) ?_
            refine V.aload_n (pc := 128) dX12_sight_128 rfl ?_
            refine V.iload (pc := 129) dX12_sight_129 rfl ?_
            refine V.iconst (v := 1) (pc := 131) dX12_sight_131 (by decide) ?_
            refine V.iadd (pc := 132) dX12_sight_132 ?_
            refine V.topi (nI_1 _) ?_
            refine V.invV0 (as := [_]) (pc := 133) dX12_sight_133 lX12_102 bX12_tell nX12_tell (ci := 11) rfl eX12_tell hM.o (c_tell (d := d + 2) _ hM (by first | decide | (rw [nI_toInt (by omega)]; omega))) (by omega) rfl (Nat.le_of_ble_eq_true rfl) ?_
            rintro _ _ _ _ _ _ ⟨rfl, rfl, rfl, rfl, rfl, rfl⟩
            exact V.iret (pc := 136) dX12_sight_136 rfl ⟨by rw [s_sight, if_pos qa]; simp only [ey]; rw [if_pos v1, if_neg q4]; simp only [okYes]; rw [← iI_nat]; rfl, rfl, rfl, rfl, Frm.tell ((((hf.up ⟨by omega, by omega⟩).up ⟨by omega, by omega⟩).up ⟨by omega, by omega⟩).up ⟨by omega, by omega⟩), Frm.rf, by
        rw [s_sight, if_pos qa]; simp only [ey]; rw [if_pos v1, if_neg q4]; simp only [okYes]
        refine RepM.okay (hR.setRow (fun b hb => by rw [up2_off hb, up2_off hb, up2_off hb, up2_off hb]) ?_) _ (nI_pos' (by omega))
        refine RowRep.sight hA.1 hR.2.2.1 (by omega) ?_ ⟨?_, ?_, ?_⟩ (fun j g1 g2 => by rw [up2_ne (by omega), up2_ne (by omega), up2_ne (by omega), up2_ne (by omega)])
        · rw [up2_same, up2_ne (by omega), up2_ne (by omega), up2_ne (by omega), hR.h4, nI_1]
        · rw [up2_ne (by omega), up2_ne (by omega), up2_ne (by omega), up2_same]; exact nIx (by omega) rfl
        · rw [up2_ne (by omega), up2_ne (by omega), up2_same]; exact nIx (by omega) rfl
        · rw [up2_ne (by omega), up2_same]; exact nIx (by omega) rfl⟩
          · have q4 : (sgs (cor A)).length = 10 := by
              rw [L10, nI_eq (by omega) (by omega)] at h65
              exact h65
            refine V.aload_n (pc := 68) dX12_sight_68 rfl ?_
            refine V.bipush (v := (-5)) (pc := 69) dX12_sight_69 (by decide) ?_
            refine V.invV0 (as := [_]) (pc := 71) dX12_sight_71 lX12_102 bX12_tell nX12_tell (ci := 11) rfl eX12_tell hM.o (c_tell (d := d + 2) _ hM (by first | decide | (rw [nI_toInt (by omega)]; omega))) (by omega) rfl (Nat.le_of_ble_eq_true rfl) ?_
            rintro _ _ _ _ _ _ ⟨rfl, rfl, rfl, rfl, rfl, rfl⟩
            exact V.iret (pc := 74) dX12_sight_74 rfl (QM.no hR hf (by decide) (by rw [s_sight, if_pos qa]; simp only [ey]; rw [if_pos v1, if_pos q4]; rfl))
        · have v1 : ¬ v.toInt < y.1 := by
            rw [lt32, nI_toInt (by have := hY.2.1; omega)] at h44
            exact h44
          refine V.aload_n (pc := 47) dX12_sight_47 rfl ?_
          refine V.iconst (v := (-1)) (pc := 48) dX12_sight_48 (by decide) ?_
          refine V.invV0 (as := [_]) (pc := 49) dX12_sight_49 lX12_102 bX12_tell nX12_tell (ci := 11) rfl eX12_tell hM.o (c_tell (d := d + 2) _ hM (by first | decide | (rw [nI_toInt (by omega)]; omega))) (by omega) rfl (Nat.le_of_ble_eq_true rfl) ?_
          rintro _ _ _ _ _ _ ⟨rfl, rfl, rfl, rfl, rfl, rfl⟩
          exact V.iret (pc := 52) dX12_sight_52 rfl (QM.no hR hf (by decide) (by rw [s_sight, if_pos qa]; simp only [ey]; rw [if_neg v1]; rfl))
      · have q := bi_eq.mp h27
        have ey := hdAt_no q
        refine V.aload_n (pc := 30) dX12_sight_30 rfl ?_
        refine V.bipush (v := (-2)) (pc := 31) dX12_sight_31 (by decide) ?_
        refine V.invV0 (as := [_]) (pc := 33) dX12_sight_33 lX12_102 bX12_tell nX12_tell (ci := 11) rfl eX12_tell hM.o (c_tell (d := d + 2) _ hM (by first | decide | (rw [nI_toInt (by omega)]; omega))) (by omega) rfl (Nat.le_of_ble_eq_true rfl) ?_
        rintro _ _ _ _ _ _ ⟨rfl, rfl, rfl, rfl, rfl, rfl⟩
        exact V.iret (pc := 36) dX12_sight_36 rfl (QM.no hR hf (by decide) (by rw [s_sight, if_pos qa]; simp only [ey]; rfl))
    · have qa : ¬ ((0 ≤ dy.toInt ∧ dy.toInt ≤ 1000000) ∧ 0 ≤ v.toInt) := fun z => h13 ((le32 _ _).mpr z.2)
      refine V.aload_n (pc := 16) dX12_sight_16 rfl ?_
      refine V.iconst (v := (-1)) (pc := 17) dX12_sight_17 (by decide) ?_
      refine V.invV0 (as := [_]) (pc := 18) dX12_sight_18 lX12_102 bX12_tell nX12_tell (ci := 11) rfl eX12_tell hM.o (c_tell (d := d + 2) _ hM (by first | decide | (rw [nI_toInt (by omega)]; omega))) (by omega) rfl (Nat.le_of_ble_eq_true rfl) ?_
      rintro _ _ _ _ _ _ ⟨rfl, rfl, rfl, rfl, rfl, rfl⟩
      exact V.iret (pc := 21) dX12_sight_21 rfl (QM.no hR hf (by decide) (by rw [s_sight, if_neg qa]; rfl))
