theorem toL {x : Int32} {k : Nat} (h : x = nI k) (hk : k < 2 ^ 31) : x.toInt64 = lN k := by rw [h]; exact nI_l hk
theorem p_rate {g : gG} {d : Nat} {T : mT} {n : Nat} {I : mI} {J : mJ} {F : mF} {m : Nat} {A : Ab} (x w : Int32) (hM : MS T F m) (hA : AbOK A) (hR : RepM I J m A)  : Ct g mX12_rate (d + 4) [.ref m, .int x, .int w] 0 0 T n I J F (QM m T n I J F (some (.long (lI (s_rate A x.toInt w.toInt)))) A) := by
  refine Ct.ofV (k := 0) (by decide) (Nat.le_of_ble_eq_true rfl) ?_
  show V g mX12_rate (d + 4) _ 0 0 0 [some (.ref m), some (.int x), some (.int w)] [] T n I J F
  refine V.aload_n (pc := 0) dX12_rate_0 rfl ?_
  refine V.iconst (v := 0) (pc := 1) dX12_rate_1 (by decide) ?_
  refine V.putI (pc := 2) dX12_rate_2 fX12_88_11 (fun r h => by cases h; exact Or.inl rfl) rfl hM.o ?_
  refine V.thr hR (fun I1 hR1 hf => ?_)
  clear hR
  have hR := hR1
  clear hR1
  refine V.aload_n (pc := 5) dX12_rate_5 rfl ?_
  refine V.iload_n (pc := 6) dX12_rate_6 rfl ?_
  refine V.pV (as := [_]) (pc := 7) dX12_rate_7 lX12_111 bX12_isHand nX12_isHand (ci := 11) rfl eX12_isHand hM.o (c_isHand (d := d + 2) _ hM (by have := hA.1.1; omega) hR.h0) (by omega) rfl (Nat.le_of_ble_eq_true rfl) ?_
  refine V.if_eq 40 (pc := 10) dX12_rate_10 (by decide) (fun h10 => ?_) (fun h10 => ?_)
  · have q := bi_eq.mp h10
    have ey := hdAt_no q
    refine V.ldc2 (pc := 40) dX12_rate_40 qX12_178 ?_
    exact V.lret (pc := 43) dX12_rate_43 rfl ⟨by rw [s_rate]; simp only [ey]; rfl, rfl, rfl, rfl, hf, Frm.rf, hR⟩
  · have q := bi_ne.mp h10
    obtain ⟨y, h1y, e1y⟩ := hdAt_yes q
    have h1x := nIx q.1 rfl
    have h1H := hR.hd hA h1y
    have h1b := rate_bd h1H.2.2 y.2.2.2.length
    rw [List.take_length] at h1b
    refine V.iload_n (pc := 13) dX12_rate_13 rfl ?_
    refine V.i2l (pc := 14) dX12_rate_14 ?_
    refine V.lconst (v := 0) (pc := 15) dX12_rate_15 (by decide) ?_
    refine V.lconst (v := 1) (pc := 16) dX12_rate_16 (by decide) ?_
    refine V.pS (as := [_, _, _]) (pc := 17) dX12_rate_17 lX12_98 bX12_in sX12_in (c_in (d := d + 3) _ _ _) (by omega) rfl (Nat.le_of_ble_eq_true rfl) ?_
    refine V.if_eq 40 (pc := 20) dX12_rate_20 (by decide) (fun h20 => ?_) (fun h20 => ?_)
    · have qw : ¬ (0 ≤ w.toInt ∧ w.toInt ≤ 1) := fun z => bi_eq.mp h20 ((in64 w 0 1 0 1 rfl rfl).mpr z)
      refine V.ldc2 (pc := 40) dX12_rate_40 qX12_178 ?_
      exact V.lret (pc := 43) dX12_rate_43 rfl ⟨by rw [s_rate]; simp only [e1y]; rw [if_neg (by omega), if_neg (by omega)]; rfl, rfl, rfl, rfl, hf, Frm.rf, hR⟩
    · have qw : 0 ≤ w.toInt ∧ w.toInt ≤ 1 := (in64 w 0 1 0 1 rfl rfl).mp (bi_ne.mp h20)
      refine V.aload_n (pc := 23) dX12_rate_23 rfl ?_
      refine V.iload_n (pc := 24) dX12_rate_24 rfl ?_
      refine V.pV (as := [_]) (pc := 25) dX12_rate_25 lX12_334 bX12_upOf nX12_upOf (ci := 11) rfl eX12_upOf hM.o (c_upOf (d := d + 1) (h := x.toInt.toNat) (y := y) _ hM h1x h1H) (by omega) rfl (Nat.le_of_ble_eq_true rfl) ?_
      refine V.aload_n (pc := 28) dX12_rate_28 rfl ?_
      refine V.iload_n (pc := 29) dX12_rate_29 rfl ?_
      refine V.pV (as := [_]) (pc := 30) dX12_rate_30 lX12_338 bX12_lowOf nX12_lowOf (ci := 11) rfl eX12_lowOf hM.o (c_lowOf (d := d + 1) (h := x.toInt.toNat) (y := y) _ hM h1x h1H) (by omega) rfl (Nat.le_of_ble_eq_true rfl) ?_
      refine V.iload_n (pc := 33) dX12_rate_33 rfl ?_
      refine V.pS (as := [_, _, _]) (pc := 34) dX12_rate_34 lX12_341 bX12_part sX12_part (c_part (d := d + 2) (a := upN y.2.2.2) (b := loN y.2.2.2) _ _ _ rfl rfl (by omega) (by omega) (by omega)) (by omega) rfl (Nat.le_of_ble_eq_true rfl) ?_
      refine V.goto 43 (pc := 37) dX12_rate_37 (by decide) ?_
      exact V.lret (pc := 43) dX12_rate_43 rfl ⟨by
                    rw [s_rate]
                    simp only [e1y]
                    by_cases w0 : w = 0
                    · rw [if_pos w0, if_pos (by rw [w0]; rfl), lI_nat]; rfl
                    · have w1 : ¬ w.toInt = 0 := fun z => w0 ((eq32 w 0).mpr z)
                      rw [if_neg w0, if_neg w1, if_pos (by omega), lI_nat]; rfl, rfl, rfl, rfl, hf, Frm.rf, hR⟩
theorem p_off {g : gG} {d : Nat} {T : mT} {n : Nat} {I : mI} {J : mJ} {F : mF} {m : Nat} {A : Ab} (x p q w : Int32) (hM : MS T F m) (hA : AbOK A) (hR : RepM I J m A)  : Ct g mX12_off (d + 4) [.ref m, .int x, .int p, .int q, .int w] 0 0 T n I J F (QM m T n I J F (some (.long (lI (s_off A x.toInt p.toInt q.toInt w.toInt)))) A) := by
  refine Ct.ofV (k := 6) (by decide) (Nat.le_of_ble_eq_true rfl) ?_
  show V g mX12_off (d + 4) _ 0 0 0 [some (.ref m), some (.int x), some (.int p), some (.int q), some (.int w), none, none, none, none, none, none] [] T n I J F
  refine V.aload_n (pc := 0) dX12_off_0 rfl ?_
  refine V.iconst (v := 0) (pc := 1) dX12_off_1 (by decide) ?_
  refine V.putI (pc := 2) dX12_off_2 fX12_88_11 (fun r h => by cases h; exact Or.inl rfl) rfl hM.o ?_
  refine V.thr hR (fun I1 hR1 hf => ?_)
  clear hR
  have hR := hR1
  clear hR1
  refine V.aload_n (pc := 5) dX12_off_5 rfl ?_
  refine V.iload_n (pc := 6) dX12_off_6 rfl ?_
  refine V.pV (as := [_]) (pc := 7) dX12_off_7 lX12_111 bX12_isHand nX12_isHand (ci := 11) rfl eX12_isHand hM.o (c_isHand (d := d + 2) _ hM (by have := hA.1.1; omega) hR.h0) (by omega) rfl (Nat.le_of_ble_eq_true rfl) ?_
  refine V.if_eq 34 (pc := 10) dX12_off_10 (by decide) (fun h10 => ?_) (fun h10 => ?_)
  · have q0 := bi_eq.mp h10
    have ey := hdAt_no q0
    refine V.ldc2 (pc := 34) dX12_off_34 qX12_178 ?_
    exact V.lret (pc := 37) dX12_off_37 rfl ⟨by rw [s_off]; simp only [ey]; rfl, rfl, rfl, rfl, hf, Frm.rf, hR⟩
  · have q0 := bi_ne.mp h10
    obtain ⟨y, h1y, e1y⟩ := hdAt_yes q0
    have h1x := nIx q0.1 rfl
    have h1H := hR.hd hA h1y
    have h1b := rate_bd h1H.2.2 y.2.2.2.length
    rw [List.take_length] at h1b
    refine V.iload_n (pc := 13) dX12_off_13 rfl ?_
    refine V.iload_n (pc := 14) dX12_off_14 rfl ?_
    refine V.pS (as := [_, _]) (pc := 15) dX12_off_15 lX12_363 bX12_isRate sX12_isRate (c_isRate (d := d + 2) _ _) (by omega) rfl (Nat.le_of_ble_eq_true rfl) ?_
    refine V.if_eq 34 (pc := 18) dX12_off_18 (by decide) (fun h18 => ?_) (fun h18 => ?_)
    · have qr := bi_eq.mp h18
      refine V.ldc2 (pc := 34) dX12_off_34 qX12_178 ?_
      exact V.lret (pc := 37) dX12_off_37 rfl ⟨by rw [s_off]; simp only [e1y]; rw [if_neg (fun z => qr z.1)]; rfl, rfl, rfl, rfl, hf, Frm.rf, hR⟩
    · have qr := bi_ne.mp h18
      refine V.iload (pc := 21) dX12_off_21 rfl ?_
      refine V.i2l (pc := 23) dX12_off_23 ?_
      refine V.lconst (v := 0) (pc := 24) dX12_off_24 (by decide) ?_
      refine V.ldc2 (pc := 25) dX12_off_25 qX12_353 ?_
      refine V.pS (as := [_, _, _]) (pc := 28) dX12_off_28 lX12_98 bX12_in sX12_in (c_in (d := d + 3) _ _ _) (by omega) rfl (Nat.le_of_ble_eq_true rfl) ?_
      refine V.if_ne 38 (pc := 31) dX12_off_31 (by decide) (fun h31 => ?_) (fun h31 => ?_)
      · have qw : 0 ≤ w.toInt ∧ w.toInt ≤ 2 := (in64 w 0 2 0 2 rfl rfl).mp (bi_ne.mp h31)
        have hp1 := nIx (x := p) (by omega) rfl
        have hq1 := nIx (x := q) (by omega) rfl
        have b1 : upN y.2.2.2 * q.toInt.toNat ≤ 207360000 * 100000 := Nat.mul_le_mul (by omega) (by omega)
        have b2 : loN y.2.2.2 * p.toInt.toNat ≤ 207360000 * 100000 := Nat.mul_le_mul (by omega) (by omega)
        have b3 : loN y.2.2.2 * q.toInt.toNat ≤ 207360000 * 100000 := Nat.mul_le_mul (by omega) (by omega)
        have b4 : 1 * 1 ≤ loN y.2.2.2 * q.toInt.toNat := Nat.mul_le_mul (by omega) (by omega)
        have b5 : (absN (upN y.2.2.2 * q.toInt.toNat) (loN y.2.2.2 * p.toInt.toNat)) ≤ 207360000 * 100000 := by unfold absN; split <;> omega
        refine V.aload_n (pc := 38) dX12_off_38 rfl ?_
        refine V.iload_n (pc := 39) dX12_off_39 rfl ?_
        refine V.pV (as := [_]) (pc := 40) dX12_off_40 lX12_334 bX12_upOf nX12_upOf (ci := 11) rfl eX12_upOf hM.o (c_upOf (d := d + 1) (h := x.toInt.toNat) (y := y) _ hM h1x h1H) (by omega) rfl (Nat.le_of_ble_eq_true rfl) ?_
        refine V.iload_n (pc := 43) dX12_off_43 rfl ?_
        refine V.i2l (pc := 44) dX12_off_44 ?_
        rw [toL hq1 (by omega)]
        refine V.lmul (pc := 45) dX12_off_45 ?_
        rw [lN_mul]
        refine V.aload_n (pc := 46) dX12_off_46 rfl ?_
        refine V.iload_n (pc := 47) dX12_off_47 rfl ?_
        refine V.pV (as := [_]) (pc := 48) dX12_off_48 lX12_338 bX12_lowOf nX12_lowOf (ci := 11) rfl eX12_lowOf hM.o (c_lowOf (d := d + 1) (h := x.toInt.toNat) (y := y) _ hM h1x h1H) (by omega) rfl (Nat.le_of_ble_eq_true rfl) ?_
        refine V.iload_n (pc := 51) dX12_off_51 rfl ?_
        refine V.i2l (pc := 52) dX12_off_52 ?_
        rw [toL hp1 (by omega)]
        refine V.lmul (pc := 53) dX12_off_53 ?_
        rw [lN_mul]
        refine V.lsub (pc := 54) dX12_off_54 ?_
        refine V.pS (as := [_]) (pc := 55) dX12_off_55 lX12_366 bX12_size sX12_size (c_size (d := d + 3) _) (by omega) rfl (Nat.le_of_ble_eq_true rfl) ?_
        rw [lN_abs1 (by omega) (by omega), show (if upN y.2.2.2 * q.toInt.toNat < loN y.2.2.2 * p.toInt.toNat then loN y.2.2.2 * p.toInt.toNat - upN y.2.2.2 * q.toInt.toNat else upN y.2.2.2 * q.toInt.toNat - loN y.2.2.2 * p.toInt.toNat) = (absN (upN y.2.2.2 * q.toInt.toNat) (loN y.2.2.2 * p.toInt.toNat)) from rfl]
        refine V.ls (pc := 58) dX12_off_58 (by decide) (st2_5 rfl) ?_
        refine V.aload_n (pc := 60) dX12_off_60 rfl ?_
        refine V.iload_n (pc := 61) dX12_off_61 rfl ?_
        refine V.pV (as := [_]) (pc := 62) dX12_off_62 lX12_338 bX12_lowOf nX12_lowOf (ci := 11) rfl eX12_lowOf hM.o (c_lowOf (d := d + 1) (h := x.toInt.toNat) (y := y) _ hM h1x h1H) (by omega) rfl (Nat.le_of_ble_eq_true rfl) ?_
        refine V.iload_n (pc := 65) dX12_off_65 rfl ?_
        refine V.i2l (pc := 66) dX12_off_66 ?_
        rw [toL hq1 (by omega)]
        refine V.lmul (pc := 67) dX12_off_67 ?_
        rw [lN_mul]
        refine V.ls (pc := 68) dX12_off_68 (by decide) (st2_7 rfl) ?_
        refine V.iload (pc := 70) dX12_off_70 rfl ?_
        refine V.iconst (v := 2) (pc := 72) dX12_off_72 (by decide) ?_
        refine V.icmp_ge 86 (pc := 73) dX12_off_73 (by decide) (fun h73 => ?_) (fun h73 => ?_)
        · have w2 : ¬ w.toInt < 2 := by
            rw [le32] at h73
            have e2 : (2 : Int32).toInt = 2 := rfl
            omega
          refine V.lload (pc := 86) dX12_off_86 rfl ?_
          refine V.lconst (v := 0) (pc := 88) dX12_off_88 (by decide) ?_
          refine V.lcmp_ne 99 (pc := 89) dX12_off_89 dX12_off_90 (by decide) (fun h89 => ?_) (fun h89 => ?_)
          · have z0 : ¬ (absN (upN y.2.2.2 * q.toInt.toNat) (loN y.2.2.2 * p.toInt.toNat)) = 0 := fun z => h89 (by rw [z]; rfl)
            have b6 : ((loN y.2.2.2 * q.toInt.toNat) + (absN (upN y.2.2.2 * q.toInt.toNat) (loN y.2.2.2 * p.toInt.toNat)) - 1) / (absN (upN y.2.2.2 * q.toInt.toNat) (loN y.2.2.2 * p.toInt.toNat)) ≤ (loN y.2.2.2 * q.toInt.toNat) + (absN (upN y.2.2.2 * q.toInt.toNat) (loN y.2.2.2 * p.toInt.toNat)) - 1 := Nat.div_le_self _ _
            refine V.lload (pc := 99) dX12_off_99 rfl ?_
            refine V.lload (pc := 101) dX12_off_101 rfl ?_
            refine V.ladd (pc := 103) dX12_off_103 ?_
            rw [lN_add]
            refine V.lconst (v := 1) (pc := 104) dX12_off_104 (by decide) ?_
            refine V.lsub (pc := 105) dX12_off_105 ?_
            rw [show (1 : Int64) = lN 1 from rfl, lN_sub (by omega)]
            refine V.lload (pc := 106) dX12_off_106 rfl ?_
            refine V.ldiv (pc := 108) dX12_off_108 (by rw [show (0 : Int64) = lN 0 from rfl, lN_eqL (by omega) (by decide)]; exact z0) ?_
            rw [lN_div (by omega) (by omega)]
            refine V.ls (pc := 109) dX12_off_109 (by decide) (st2_9 rfl) ?_
            refine V.lload (pc := 111) dX12_off_111 rfl ?_
            refine V.ldc2 (pc := 113) dX12_off_113 qX12_105 ?_
            refine V.lcmp_gt 125 (pc := 116) dX12_off_116 dX12_off_117 (by decide) (fun h116 => ?_) (fun h116 => ?_)
            · have z1 : ¬ ((loN y.2.2.2 * q.toInt.toNat) + (absN (upN y.2.2.2 * q.toInt.toNat) (loN y.2.2.2 * p.toInt.toNat)) - 1) / (absN (upN y.2.2.2 * q.toInt.toNat) (loN y.2.2.2 * p.toInt.toNat)) ≤ 1000000 := by
                rw [show (1000000 : Int64) = lN 1000000 from rfl, lN_ltL (by omega) (by omega)] at h116
                omega
              refine V.ldc2 (pc := 125) dX12_off_125 qX12_178 ?_
              exact V.lret (pc := 128) dX12_off_128 rfl ⟨by rw [s_off]; simp only [e1y]; rw [if_pos (show ((1 ≤ p.toInt ∧ p.toInt ≤ 100000) ∧ (1 ≤ q.toInt ∧ q.toInt ≤ 100000)) ∧ (0 ≤ w.toInt ∧ w.toInt ≤ 2) from ⟨qr, qw⟩), offN]; rw [if_neg (by omega), if_neg (by omega), if_neg z0, if_neg z1]; rfl, rfl, rfl, rfl, hf, Frm.rf, hR⟩
            · have z1 : ((loN y.2.2.2 * q.toInt.toNat) + (absN (upN y.2.2.2 * q.toInt.toNat) (loN y.2.2.2 * p.toInt.toNat)) - 1) / (absN (upN y.2.2.2 * q.toInt.toNat) (loN y.2.2.2 * p.toInt.toNat)) ≤ 1000000 := by
                rw [show (1000000 : Int64) = lN 1000000 from rfl, lN_ltL (by omega) (by omega)] at h116
                omega
              refine V.lload (pc := 120) dX12_off_120 rfl ?_
              refine V.goto 128 (pc := 122) dX12_off_122 (by decide) ?_
              exact V.lret (pc := 128) dX12_off_128 rfl ⟨by rw [s_off]; simp only [e1y]; rw [if_pos (show ((1 ≤ p.toInt ∧ p.toInt ≤ 100000) ∧ (1 ≤ q.toInt ∧ q.toInt ≤ 100000)) ∧ (0 ≤ w.toInt ∧ w.toInt ≤ 2) from ⟨qr, qw⟩), offN]; rw [if_neg (by omega), if_neg (by omega), if_neg z0, if_pos z1, lI_nat], rfl, rfl, rfl, hf, Frm.rf, hR⟩
          · have z0 : (absN (upN y.2.2.2 * q.toInt.toNat) (loN y.2.2.2 * p.toInt.toNat)) = 0 := by
              rw [show (0 : Int64) = lN 0 from rfl, lN_eqL (by omega) (by decide)] at h89
              exact h89
            refine V.ldc2 (pc := 93) dX12_off_93 qX12_370 ?_
            refine V.goto 109 (pc := 96) dX12_off_96 (by decide) ?_
            refine V.ls (pc := 109) dX12_off_109 (by decide) (st2_9 rfl) ?_
            refine V.lload (pc := 111) dX12_off_111 rfl ?_
            refine V.ldc2 (pc := 113) dX12_off_113 qX12_105 ?_
            refine V.lcmp_gt 125 (pc := 116) dX12_off_116 dX12_off_117 (by decide) (fun h116 => ?_) (fun h116 => absurd (by decide) h116)
            refine V.ldc2 (pc := 125) dX12_off_125 qX12_178 ?_
            exact V.lret (pc := 128) dX12_off_128 rfl ⟨by rw [s_off]; simp only [e1y]; rw [if_pos (show ((1 ≤ p.toInt ∧ p.toInt ≤ 100000) ∧ (1 ≤ q.toInt ∧ q.toInt ≤ 100000)) ∧ (0 ≤ w.toInt ∧ w.toInt ≤ 2) from ⟨qr, qw⟩), offN]; rw [if_neg (by omega), if_neg (by omega), if_pos z0]; rfl, rfl, rfl, rfl, hf, Frm.rf, hR⟩
        · have w2 : w.toInt < 2 := by
            rw [le32] at h73
            have e2 : (2 : Int32).toInt = 2 := rfl
            omega
          refine V.lload (pc := 76) dX12_off_76 rfl ?_
          refine V.lload (pc := 78) dX12_off_78 rfl ?_
          refine V.iload (pc := 80) dX12_off_80 rfl ?_
          refine V.pS (as := [_, _, _]) (pc := 82) dX12_off_82 lX12_341 bX12_part sX12_part (c_part (d := d + 2) (a := (absN (upN y.2.2.2 * q.toInt.toNat) (loN y.2.2.2 * p.toInt.toNat))) (b := (loN y.2.2.2 * q.toInt.toNat)) _ _ _ rfl rfl (by omega) (by omega) (by omega)) (by omega) rfl (Nat.le_of_ble_eq_true rfl) ?_
          exact V.lret (pc := 85) dX12_off_85 rfl ⟨by
                    rw [s_off]; simp only [e1y]; rw [if_pos (show ((1 ≤ p.toInt ∧ p.toInt ≤ 100000) ∧ (1 ≤ q.toInt ∧ q.toInt ≤ 100000)) ∧ (0 ≤ w.toInt ∧ w.toInt ≤ 2) from ⟨qr, qw⟩), offN]
                    by_cases w0 : w = 0
                    · rw [if_pos w0, if_pos (by rw [w0]; rfl), lI_nat]
                    · have w1 : ¬ w.toInt = 0 := fun z => w0 ((eq32 w 0).mpr z)
                      rw [if_neg w0, if_neg w1, if_pos (by omega), lI_nat], rfl, rfl, rfl, hf, Frm.rf, hR⟩
      · have qw : ¬ (0 ≤ w.toInt ∧ w.toInt ≤ 2) := fun z => bi_eq.mp h31 ((in64 w 0 2 0 2 rfl rfl).mpr z)
        refine V.ldc2 (pc := 34) dX12_off_34 qX12_178 ?_
        exact V.lret (pc := 37) dX12_off_37 rfl ⟨by rw [s_off]; simp only [e1y]; rw [if_neg (fun z => qw z.2)]; rfl, rfl, rfl, rfl, hf, Frm.rf, hR⟩
