theorem x_turnsOn {g : gG} {d : Nat} {T : mT} {n : Nat} {I : mI} {J : mJ} {F : mF} {a dd : Nat} {y : Hd} (v : Int32) (hN : HN T F a) (hY : HdOK y) (hW : HdX I J a y) (hv : v = nI dd) (hd : dd ≤ 1000000) : Ct g mX1_turnsOn (d + 1) [.ref a, .int v] 0 0 T n I J F (pureQ T n I J F (some (.int (nI (goN dd y.2.2.1 * upN y.2.2.2 / loN y.2.2.2 % 1000000))))) := by
  refine Ct.ofV (k := 0) (by decide) (Nat.le_of_ble_eq_true rfl) ?_
  show V g mX1_turnsOn (d + 1) _ 0 0 0 [some (.ref a), some (.int v)] [] T n I J F
  have u5 : J a 5 = lN (rateU y) := hW.2.2.2.2.2.1
  have u6 : J a 6 = lN (rateL y) := hW.2.2.2.2.2.2
  have b5 := rateU_le hY
  have b6 := rateL_bd hY
  have y1 := hY.1
  have y2 := hY.2.1
  have y3 := hY.2.2.1
  have y4 := hY.2.2.2.1
  have hg := goN_le dd y.2.2.1
  have b1 : goN dd y.2.2.1 * rateU y ≤ 1000000 * 207360000 := Nat.mul_le_mul (by omega) b5
  have b2 : goN dd y.2.2.1 * rateU y / rateL y ≤ goN dd y.2.2.1 * rateU y := Nat.div_le_self _ _
  refine V.iload_n (pc := 0) dX1_turnsOn_0 rfl ?_
  refine V.aload_n (pc := 1) dX1_turnsOn_1 rfl ?_
  refine V.getI (pc := 2) dX1_turnsOn_2 fX1_18_1 rfl hN.o ?_
  refine V.pS (as := [_, _]) (pc := 5) dX1_turnsOn_5 lX1_48 bX11_daysGone sX11_daysGone (x_daysGone (d := d + 0) (dd := dd) (gap := y.2.2.1) _ _ hv hW.2.2.1 hd y4) (by omega) rfl (Nat.le_of_ble_eq_true rfl) ?_
  refine V.aload_n (pc := 8) dX1_turnsOn_8 rfl ?_
  refine V.getJ (pc := 9) dX1_turnsOn_9 fX1_28_1 rfl hN.o ?_
  rw [u5]
  refine V.lmul (pc := 12) dX1_turnsOn_12 ?_
  rw [lN_mul]
  refine V.aload_n (pc := 13) dX1_turnsOn_13 rfl ?_
  refine V.getJ (pc := 14) dX1_turnsOn_14 fX1_32_1 rfl hN.o ?_
  rw [u6]
  refine V.pS (as := [_, _]) (pc := 17) dX1_turnsOn_17 lX1_52 bX11_cut sX11_cut (x_cut (d := d + 0) (a := goN dd y.2.2.1 * rateU y) (b := rateL y) _ _ rfl rfl (by omega) (by omega)) (by omega) rfl (Nat.le_of_ble_eq_true rfl) ?_
  refine V.ldc2 (pc := 20) dX1_turnsOn_20 qX1_56 ?_
  refine V.pS (as := [_, _]) (pc := 23) dX1_turnsOn_23 lX1_58 bX11_remainder sX11_remainder (x_remainder (d := d + 0) (a := goN dd y.2.2.1 * rateU y / rateL y) (b := 1000000) _ _ rfl rfl (by omega) (by omega) (by omega)) (by omega) rfl (Nat.le_of_ble_eq_true rfl) ?_
  rw [red_tn hY]
  refine V.l2i (pc := 26) dX1_turnsOn_26 ?_
  rw [lN_i]
  exact V.iret (pc := 27) dX1_turnsOn_27 rfl ⟨rfl, rfl, rfl, rfl, rfl, rfl⟩
theorem x_markAfter {g : gG} {d : Nat} {T : mT} {n : Nat} {I : mI} {J : mJ} {F : mF} {a go : Nat} {y : Hd} (v : Int64) (hN : HN T F a) (hY : HdOK y) (hW : HdX I J a y) (hv : v = lN go) (hd : go ≤ 1000000) : Ct g mX1_markAfter (d + 1) [.ref a, .long v] 0 0 T n I J F (pureQ T n I J F (some (.int (nI (mkN go (upN y.2.2.2) (loN y.2.2.2) y.1 y.2.1))))) := by
  refine Ct.ofV (k := 0) (by decide) (Nat.le_of_ble_eq_true rfl) ?_
  show V g mX1_markAfter (d + 1) _ 0 0 0 [some (.ref a), some (.long v), none] [] T n I J F
  subst hv
  have u5 : J a 5 = lN (rateU y) := hW.2.2.2.2.2.1
  have u6 : J a 6 = lN (rateL y) := hW.2.2.2.2.2.2
  have b5 := rateU_le hY
  have b6 := rateL_bd hY
  have y1 := hY.1
  have y2 := hY.2.1
  have y3 := hY.2.2.1
  have y4 := hY.2.2.2.1
  have b1 : go * rateU y ≤ 1000000 * 207360000 := Nat.mul_le_mul hd b5
  have b2 : go * rateU y * y.1 ≤ 1000000 * 207360000 * 400 := Nat.mul_le_mul b1 y2
  have b3 : go * rateU y * y.1 / rateL y ≤ go * rateU y * y.1 := Nat.div_le_self _ _
  refine V.lload_n (pc := 0) dX1_markAfter_0 rfl ?_
  refine V.aload_n (pc := 1) dX1_markAfter_1 rfl ?_
  refine V.getJ (pc := 2) dX1_markAfter_2 fX1_28_1 rfl hN.o ?_
  rw [u5]
  refine V.lmul (pc := 5) dX1_markAfter_5 ?_
  rw [lN_mul]
  refine V.aload_n (pc := 6) dX1_markAfter_6 rfl ?_
  refine V.getI (pc := 7) dX1_markAfter_7 fX1_9_1 rfl hN.o ?_
  rw [hW.1]
  refine V.i2l (pc := 10) dX1_markAfter_10 ?_
  rw [nI_l (by omega)]
  refine V.lmul (pc := 11) dX1_markAfter_11 ?_
  rw [lN_mul]
  refine V.aload_n (pc := 12) dX1_markAfter_12 rfl ?_
  refine V.getJ (pc := 13) dX1_markAfter_13 fX1_32_1 rfl hN.o ?_
  rw [u6]
  refine V.pS (as := [_, _]) (pc := 16) dX1_markAfter_16 lX1_52 bX11_cut sX11_cut (x_cut (d := d + 0) (a := go * rateU y * y.1) (b := rateL y) _ _ rfl rfl (by omega) (by omega)) (by omega) rfl (Nat.le_of_ble_eq_true rfl) ?_
  refine V.aload_n (pc := 19) dX1_markAfter_19 rfl ?_
  refine V.getI (pc := 20) dX1_markAfter_20 fX1_15_1 rfl hN.o ?_
  rw [hW.2.1]
  refine V.i2l (pc := 23) dX1_markAfter_23 ?_
  rw [nI_l (by omega)]
  refine V.ladd (pc := 24) dX1_markAfter_24 ?_
  rw [lN_add]
  refine V.aload_n (pc := 25) dX1_markAfter_25 rfl ?_
  refine V.getI (pc := 26) dX1_markAfter_26 fX1_9_1 rfl hN.o ?_
  rw [hW.1]
  refine V.i2l (pc := 29) dX1_markAfter_29 ?_
  rw [nI_l (by omega)]
  refine V.pS (as := [_, _]) (pc := 30) dX1_markAfter_30 lX1_58 bX11_remainder sX11_remainder (x_remainder (d := d + 0) (a := go * rateU y * y.1 / rateL y + y.2.1) (b := y.1) _ _ rfl rfl (by omega) (by omega) (by omega)) (by omega) rfl (Nat.le_of_ble_eq_true rfl) ?_
  rw [red_mk hY]
  refine V.l2i (pc := 33) dX1_markAfter_33 ?_
  rw [lN_i]
  exact V.iret (pc := 34) dX1_markAfter_34 rfl ⟨rfl, rfl, rfl, rfl, rfl, rfl⟩
theorem x_markOn {g : gG} {d : Nat} {T : mT} {n : Nat} {I : mI} {J : mJ} {F : mF} {a dd : Nat} {y : Hd} (v : Int32) (hN : HN T F a) (hY : HdOK y) (hW : HdX I J a y) (hv : v = nI dd) (hd : dd ≤ 1000000) : Ct g mX1_markOn (d + 2) [.ref a, .int v] 0 0 T n I J F (pureQ T n I J F (some (.int (nI (markD y dd))))) := by
  refine Ct.ofV (k := 0) (by decide) (Nat.le_of_ble_eq_true rfl) ?_
  show V g mX1_markOn (d + 2) _ 0 0 0 [some (.ref a), some (.int v)] [] T n I J F
  refine V.aload_n (pc := 0) dX1_markOn_0 rfl ?_
  refine V.iload_n (pc := 1) dX1_markOn_1 rfl ?_
  refine V.aload_n (pc := 2) dX1_markOn_2 rfl ?_
  refine V.getI (pc := 3) dX1_markOn_3 fX1_18_1 rfl hN.o ?_
  refine V.pS (as := [_, _]) (pc := 6) dX1_markOn_6 lX1_48 bX11_daysGone sX11_daysGone (x_daysGone (d := d + 1) (dd := dd) (gap := y.2.2.1) _ _ hv hW.2.2.1 hd hY.2.2.2.1) (by omega) rfl (Nat.le_of_ble_eq_true rfl) ?_
  refine V.pV (as := [_]) (pc := 9) dX1_markOn_9 lX1_61 bX1_markAfter nX1_markAfter (ci := 1) rfl eX1_markAfter hN.o (x_markAfter (d := d + 0) (go := goN dd y.2.2.1) (y := y) _ hN hY hW rfl (Nat.le_trans (goN_le _ _) hd)) (by omega) rfl (Nat.le_of_ble_eq_true rfl) ?_
  exact V.iret (pc := 12) dX1_markOn_12 rfl ⟨rfl, rfl, rfl, rfl, rfl, rfl⟩
theorem x_sightHand {g : gG} {d : Nat} {T : mT} {n : Nat} {I : mI} {J : mJ} {F : mF} {u k : Nat} (v : Int32) (hS : SS T F u) (hv : v = nI k) (hk : k < 10) : Ct g mX8_sightHandAt (d + 0) [.ref u, .int v] 0 0 T n I J F (pureQ T n I J F (some (.int (I (u + 4) k)))) := by
  refine Ct.ofV (k := 0) (by decide) (Nat.le_of_ble_eq_true rfl) ?_
  show V g mX8_sightHandAt (d + 0) _ 0 0 0 [some (.ref u), some (.int v)] [] T n I J F
  subst hv
  refine V.iload_n (pc := 0) dX8_sightHandAt_0 rfl ?_
  refine V.if_lt 22 (pc := 1) dX8_sightHandAt_1 (by decide) (fun h1 => absurd h1 (nI_pos (by omega))) (fun h1 => ?_)
  refine V.iload_n (pc := 4) dX8_sightHandAt_4 rfl ?_
  refine V.aload_n (pc := 5) dX8_sightHandAt_5 rfl ?_
  refine V.getR (pc := 6) dX8_sightHandAt_6 fX8_47_7 rfl hS.o hS.f9 ?_
  refine V.alen (pc := 9) dX8_sightHandAt_9 hS.t9 ty_i (by rfl) ?_
  refine V.icmp_ge 22 (pc := 10) dX8_sightHandAt_10 (by decide) (fun h10 => absurd h10 (nI_ge (by omega) (by omega))) (fun h10 => ?_)
  refine V.aload_n (pc := 13) dX8_sightHandAt_13 rfl ?_
  refine V.getR (pc := 14) dX8_sightHandAt_14 fX8_47_7 rfl hS.o hS.f9 ?_
  refine V.iload_n (pc := 17) dX8_sightHandAt_17 rfl ?_
  refine V.iald' (k := k) (pc := 18) dX8_sightHandAt_18 hS.t9 rfl (by omega) (by decide) ?_
  refine V.goto 23 (pc := 19) dX8_sightHandAt_19 (by decide) ?_
  exact V.iret (pc := 23) dX8_sightHandAt_23 rfl ⟨rfl, rfl, rfl, rfl, rfl, rfl⟩
theorem x_sightDay {g : gG} {d : Nat} {T : mT} {n : Nat} {I : mI} {J : mJ} {F : mF} {u k : Nat} (v : Int32) (hS : SS T F u) (hv : v = nI k) (hk : k < 10) : Ct g mX8_sightDayAt (d + 0) [.ref u, .int v] 0 0 T n I J F (pureQ T n I J F (some (.int (I (u + 5) k)))) := by
  refine Ct.ofV (k := 0) (by decide) (Nat.le_of_ble_eq_true rfl) ?_
  show V g mX8_sightDayAt (d + 0) _ 0 0 0 [some (.ref u), some (.int v)] [] T n I J F
  subst hv
  refine V.iload_n (pc := 0) dX8_sightDayAt_0 rfl ?_
  refine V.if_lt 22 (pc := 1) dX8_sightDayAt_1 (by decide) (fun h1 => absurd h1 (nI_pos (by omega))) (fun h1 => ?_)
  refine V.iload_n (pc := 4) dX8_sightDayAt_4 rfl ?_
  refine V.aload_n (pc := 5) dX8_sightDayAt_5 rfl ?_
  refine V.getR (pc := 6) dX8_sightDayAt_6 fX8_50_7 rfl hS.o hS.f10 ?_
  refine V.alen (pc := 9) dX8_sightDayAt_9 hS.t10 ty_i (by rfl) ?_
  refine V.icmp_ge 22 (pc := 10) dX8_sightDayAt_10 (by decide) (fun h10 => absurd h10 (nI_ge (by omega) (by omega))) (fun h10 => ?_)
  refine V.aload_n (pc := 13) dX8_sightDayAt_13 rfl ?_
  refine V.getR (pc := 14) dX8_sightDayAt_14 fX8_50_7 rfl hS.o hS.f10 ?_
  refine V.iload_n (pc := 17) dX8_sightDayAt_17 rfl ?_
  refine V.iald' (k := k) (pc := 18) dX8_sightDayAt_18 hS.t10 rfl (by omega) (by decide) ?_
  refine V.goto 23 (pc := 19) dX8_sightDayAt_19 (by decide) ?_
  exact V.iret (pc := 23) dX8_sightDayAt_23 rfl ⟨rfl, rfl, rfl, rfl, rfl, rfl⟩
theorem x_sightMark {g : gG} {d : Nat} {T : mT} {n : Nat} {I : mI} {J : mJ} {F : mF} {u k : Nat} (v : Int32) (hS : SS T F u) (hv : v = nI k) (hk : k < 10) : Ct g mX8_sightMarkAt (d + 0) [.ref u, .int v] 0 0 T n I J F (pureQ T n I J F (some (.int (I (u + 6) k)))) := by
  refine Ct.ofV (k := 0) (by decide) (Nat.le_of_ble_eq_true rfl) ?_
  show V g mX8_sightMarkAt (d + 0) _ 0 0 0 [some (.ref u), some (.int v)] [] T n I J F
  subst hv
  refine V.iload_n (pc := 0) dX8_sightMarkAt_0 rfl ?_
  refine V.if_lt 22 (pc := 1) dX8_sightMarkAt_1 (by decide) (fun h1 => absurd h1 (nI_pos (by omega))) (fun h1 => ?_)
  refine V.iload_n (pc := 4) dX8_sightMarkAt_4 rfl ?_
  refine V.aload_n (pc := 5) dX8_sightMarkAt_5 rfl ?_
  refine V.getR (pc := 6) dX8_sightMarkAt_6 fX8_53_7 rfl hS.o hS.f11 ?_
  refine V.alen (pc := 9) dX8_sightMarkAt_9 hS.t11 ty_i (by rfl) ?_
  refine V.icmp_ge 22 (pc := 10) dX8_sightMarkAt_10 (by decide) (fun h10 => absurd h10 (nI_ge (by omega) (by omega))) (fun h10 => ?_)
  refine V.aload_n (pc := 13) dX8_sightMarkAt_13 rfl ?_
  refine V.getR (pc := 14) dX8_sightMarkAt_14 fX8_53_7 rfl hS.o hS.f11 ?_
  refine V.iload_n (pc := 17) dX8_sightMarkAt_17 rfl ?_
  refine V.iald' (k := k) (pc := 18) dX8_sightMarkAt_18 hS.t11 rfl (by omega) (by decide) ?_
  refine V.goto 23 (pc := 19) dX8_sightMarkAt_19 (by decide) ?_
  exact V.iret (pc := 23) dX8_sightMarkAt_23 rfl ⟨rfl, rfl, rfl, rfl, rfl, rfl⟩
theorem y_rate {g : gG} {d : Nat} {T : mT} {n : Nat} {I : mI} {J : mJ} {F : mF} {x : Nat} {A : Ab} (v w : Int32) (hX : XS T F x) (hA : AbOK A) (hR : RepX T I J F x A)  : Ct g mX11_rate (d + 4) [.ref x, .int v, .int w] 0 0 T n I J F (QX x T n I J F (some (.long (lI (s_rate A v.toInt w.toInt)))) A) := by
  refine Ct.ofV (k := 1) (by decide) (Nat.le_of_ble_eq_true rfl) ?_
  show V g mX11_rate (d + 4) _ 0 0 0 [some (.ref x), some (.int v), some (.int w), none] [] T n I J F
  have hTo := hX.s.o
  refine V.aload_n (pc := 0) dX11_rate_0 rfl ?_
  refine V.getR (pc := 1) dX11_rate_1 fX11_10_10 rfl hX.o hX.f0 ?_
  refine V.iload_n (pc := 4) dX11_rate_4 rfl ?_
  by_cases q : 0 ≤ v.toInt ∧ v.toInt < (hds (cor A)).length
  · obtain ⟨y, hy, ey⟩ := hdAt_yes q
    have h6 := hA.1.1
    have hY := hA.1.2.1 y (List.mem_of_getElem? hy)
    have hW := hR.2.2.1.2.1 _ y hy
    have hN := hX.s.n (h := v.toInt.toNat) (by omega)
    have hTa := hN.o
    have hTb := hN.t4
    have hFb := hN.f4
    refine V.pV (as := [_]) (pc := 5) dX11_rate_5 lX11_95 bX8_handAt nX8_handAt (ci := 7) rfl eX8_handAt (by assumption) (x_handAtY (d := d + 3) (k := (hds (cor A)).length) _ hX.s hR.h2 hA.1.1 q) (by omega) rfl (Nat.le_of_ble_eq_true rfl) ?_
    refine V.asn (pc := 8) dX11_rate_8 (by decide) (st1_3 rfl) ?_
    refine V.aload_n (pc := 9) dX11_rate_9 rfl ?_
    refine V.ifnull (pc := 10) dX11_rate_10 ?_
    refine V.iload_n (pc := 13) dX11_rate_13 rfl ?_
    refine V.if_lt 22 (pc := 14) dX11_rate_14 (by decide) (fun h14 => ?_) (fun h14 => ?_)
    · have w1 : w.toInt < 0 := (lt32 _ _).mp h14
      refine V.ldc2 (pc := 22) dX11_rate_22 qX11_164 ?_
      exact V.lret (pc := 25) dX11_rate_25 rfl (QX.q hX hR (by rw [s_rate]; simp only [ey]; rw [if_neg (by omega), if_neg (by omega)]; rfl))
    · have w1 : 0 ≤ w.toInt := by
        rw [lt32] at h14
        have e0 : (0 : Int32).toInt = 0 := rfl
        omega
      refine V.iload_n (pc := 17) dX11_rate_17 rfl ?_
      refine V.iconst (v := 1) (pc := 18) dX11_rate_18 (by decide) ?_
      refine V.icmp_le 26 (pc := 19) dX11_rate_19 (by decide) (fun h19 => ?_) (fun h19 => ?_)
      · have e1 : (1 : Int32).toInt = 1 := rfl
        rw [le32] at h19
        refine V.iload_n (pc := 26) dX11_rate_26 rfl ?_
        refine V.if_ne 37 (pc := 27) dX11_rate_27 (by decide) (fun h27 => ?_) (fun h27 => ?_)
        · have w0 : ¬ w.toInt = 0 := fun z => h27 ((eq32 w 0).mpr z)
          refine V.aload_n (pc := 37) dX11_rate_37 rfl ?_
          refine V.getJ (pc := 38) dX11_rate_38 fX11_170_1 rfl (by assumption) ?_
          rw [show J (x + 1 + 8 + 2 * v.toInt.toNat) 6 = lN (rateL y) from hW.2.2.2.2.2.2]
          exact V.lret (pc := 41) dX11_rate_41 rfl (QX.q hX hR (by rw [s_rate]; simp only [ey]; rw [if_neg w0, if_pos (by omega), lI_nat]))
        · have w0 : w.toInt = 0 := by rw [h27]; rfl
          refine V.aload_n (pc := 30) dX11_rate_30 rfl ?_
          refine V.getJ (pc := 31) dX11_rate_31 fX11_166_1 rfl (by assumption) ?_
          rw [show J (x + 1 + 8 + 2 * v.toInt.toNat) 5 = lN (rateU y) from hW.2.2.2.2.2.1]
          refine V.goto 41 (pc := 34) dX11_rate_34 (by decide) ?_
          exact V.lret (pc := 41) dX11_rate_41 rfl (QX.q hX hR (by rw [s_rate]; simp only [ey]; rw [if_pos w0, lI_nat]))
      · have e1 : (1 : Int32).toInt = 1 := rfl
        rw [le32] at h19
        refine V.ldc2 (pc := 22) dX11_rate_22 qX11_164 ?_
        exact V.lret (pc := 25) dX11_rate_25 rfl (QX.q hX hR (by rw [s_rate]; simp only [ey]; rw [if_neg (by omega), if_neg (by omega)]; rfl))
  · have ey := hdAt_no q
    refine V.pV (as := [_]) (pc := 5) dX11_rate_5 lX11_95 bX8_handAt nX8_handAt (ci := 7) rfl eX8_handAt (by assumption) (x_handAtN (d := d + 3) (k := (hds (cor A)).length) _ hX.s hR.h2 hA.1.1 q) (by omega) rfl (Nat.le_of_ble_eq_true rfl) ?_
    refine V.nsn (pc := 8) dX11_rate_8 (by decide) (st1_3 rfl) ?_
    refine V.nload_n (pc := 9) dX11_rate_9 rfl ?_
    refine V.ifnullN 22 (pc := 10) dX11_rate_10 (by decide) ?_
    refine V.ldc2 (pc := 22) dX11_rate_22 qX11_164 ?_
    exact V.lret (pc := 25) dX11_rate_25 rfl (QX.q hX hR (by rw [s_rate]; simp only [ey]; rfl))
theorem y_off {g : gG} {d : Nat} {T : mT} {n : Nat} {I : mI} {J : mJ} {F : mF} {x : Nat} {A : Ab} (v p q w : Int32) (hX : XS T F x) (hA : AbOK A) (hR : RepX T I J F x A)  : Ct g mX11_off (d + 4) [.ref x, .int v, .int p, .int q, .int w] 0 0 T n I J F (QX x T n I J F (some (.long (lI (s_off A v.toInt p.toInt q.toInt w.toInt)))) A) := by
  refine Ct.ofV (k := 7) (by decide) (Nat.le_of_ble_eq_true rfl) ?_
  show V g mX11_off (d + 4) _ 0 0 0 [some (.ref x), some (.int v), some (.int p), some (.int q), some (.int w), none, none, none, none, none, none, none] [] T n I J F
  have hTo := hX.s.o
  refine V.aload_n (pc := 0) dX11_off_0 rfl ?_
  refine V.getR (pc := 1) dX11_off_1 fX11_10_10 rfl hX.o hX.f0 ?_
  refine V.iload_n (pc := 4) dX11_off_4 rfl ?_
  by_cases qh : 0 ≤ v.toInt ∧ v.toInt < (hds (cor A)).length
  · obtain ⟨y, hy, ey⟩ := hdAt_yes qh
    have h6 := hA.1.1
    have hY := hA.1.2.1 y (List.mem_of_getElem? hy)
    have hW := hR.2.2.1.2.1 _ y hy
    have hN := hX.s.n (h := v.toInt.toNat) (by omega)
    have hTa := hN.o
    have hTb := hN.t4
    have hFb := hN.f4
    refine V.pV (as := [_]) (pc := 5) dX11_off_5 lX11_95 bX8_handAt nX8_handAt (ci := 7) rfl eX8_handAt (by assumption) (x_handAtY (d := d + 3) (k := (hds (cor A)).length) _ hX.s hR.h2 hA.1.1 qh) (by omega) rfl (Nat.le_of_ble_eq_true rfl) ?_
    refine V.as (pc := 8) dX11_off_8 (by decide) (st1_5 rfl) ?_
    refine V.aload (pc := 10) dX11_off_10 rfl ?_
    refine V.ifnull (pc := 12) dX11_off_12 ?_
    refine V.iload_n (pc := 15) dX11_off_15 rfl ?_
    refine V.iload_n (pc := 16) dX11_off_16 rfl ?_
    refine V.pS (as := [_, _]) (pc := 17) dX11_off_17 lX11_195 bX11_isRate sX11_isRate (x_isRate (d := d + 3) _ _) (by omega) rfl (Nat.le_of_ble_eq_true rfl) ?_
    refine V.if_eq 34 (pc := 20) dX11_off_20 (by decide) (fun h20 => ?_) (fun h20 => ?_)
    · have qr := bi_eq.mp h20
      refine V.ldc2 (pc := 34) dX11_off_34 qX11_164 ?_
      exact V.lret (pc := 37) dX11_off_37 rfl (QX.q hX hR (by rw [s_off]; simp only [ey]; rw [if_neg (fun z => qr z.1)]; rfl))
    · have qr := bi_ne.mp h20
      refine V.iload (pc := 23) dX11_off_23 rfl ?_
      refine V.if_lt 34 (pc := 25) dX11_off_25 (by decide) (fun h25 => ?_) (fun h25 => ?_)
      · have w1 : w.toInt < 0 := (lt32 _ _).mp h25
        refine V.ldc2 (pc := 34) dX11_off_34 qX11_164 ?_
        exact V.lret (pc := 37) dX11_off_37 rfl (QX.q hX hR (by rw [s_off]; simp only [ey]; rw [if_neg (fun z => absurd z.2.1 (by omega))]; rfl))
      · have w1 : 0 ≤ w.toInt := by
          rw [lt32] at h25
          have e0 : (0 : Int32).toInt = 0 := rfl
          omega
        refine V.iload (pc := 28) dX11_off_28 rfl ?_
        refine V.iconst (v := 2) (pc := 30) dX11_off_30 (by decide) ?_
        refine V.icmp_le 38 (pc := 31) dX11_off_31 (by decide) (fun h31 => ?_) (fun h31 => ?_)
        · have e2 : (2 : Int32).toInt = 2 := rfl
          rw [le32] at h31
          have hp1 := nIx (x := p) (by omega) rfl
          have hq1 := nIx (x := q) (by omega) rfl
          have u5 : J (x + 1 + 8 + 2 * v.toInt.toNat) 5 = lN (rateU y) := hW.2.2.2.2.2.1
          have u6 : J (x + 1 + 8 + 2 * v.toInt.toNat) 6 = lN (rateL y) := hW.2.2.2.2.2.2
          have b5 := rateU_le hY
          have b6 := rateL_bd hY
          have b1 : rateU y * q.toInt.toNat ≤ 207360000 * 100000 := Nat.mul_le_mul (by omega) (by omega)
          have b2 : rateL y * p.toInt.toNat ≤ 207360000 * 100000 := Nat.mul_le_mul (by omega) (by omega)
          have b3 : rateL y * q.toInt.toNat ≤ 207360000 * 100000 := Nat.mul_le_mul (by omega) (by omega)
          have b4 : 1 * 1 ≤ rateL y * q.toInt.toNat := Nat.mul_le_mul (by omega) (by omega)
          have b7 : (absN (rateU y * q.toInt.toNat) (rateL y * p.toInt.toNat)) ≤ 207360000 * 100000 := by unfold absN; split <;> omega
          refine V.aload (pc := 38) dX11_off_38 rfl ?_
          refine V.getJ (pc := 40) dX11_off_40 fX11_166_1 rfl (by assumption) ?_
          rw [u5]
          refine V.iload_n (pc := 43) dX11_off_43 rfl ?_
          refine V.i2l (pc := 44) dX11_off_44 ?_
          rw [toL hq1 (by omega)]
          refine V.lmul (pc := 45) dX11_off_45 ?_
          rw [lN_mul]
          refine V.aload (pc := 46) dX11_off_46 rfl ?_
          refine V.getJ (pc := 48) dX11_off_48 fX11_170_1 rfl (by assumption) ?_
          rw [u6]
          refine V.iload_n (pc := 51) dX11_off_51 rfl ?_
          refine V.i2l (pc := 52) dX11_off_52 ?_
          rw [toL hp1 (by omega)]
          refine V.lmul (pc := 53) dX11_off_53 ?_
          rw [lN_mul]
          refine V.lsub (pc := 54) dX11_off_54 ?_
          refine V.mabs (pc := 55) dX11_off_55 lX11_198 (by omega) (Nat.le_of_ble_eq_true rfl) ?_
          rw [lN_abs2 (by omega) (by omega), show (if rateU y * q.toInt.toNat < rateL y * p.toInt.toNat then rateL y * p.toInt.toNat - rateU y * q.toInt.toNat else rateU y * q.toInt.toNat - rateL y * p.toInt.toNat) = (absN (rateU y * q.toInt.toNat) (rateL y * p.toInt.toNat)) from rfl]
          refine V.ls (pc := 58) dX11_off_58 (by decide) (st2_6 rfl) ?_
          refine V.aload (pc := 60) dX11_off_60 rfl ?_
          refine V.getJ (pc := 62) dX11_off_62 fX11_170_1 rfl (by assumption) ?_
          rw [u6]
          refine V.iload_n (pc := 65) dX11_off_65 rfl ?_
          refine V.i2l (pc := 66) dX11_off_66 ?_
          rw [toL hq1 (by omega)]
          refine V.lmul (pc := 67) dX11_off_67 ?_
          rw [lN_mul]
          refine V.ls (pc := 68) dX11_off_68 (by decide) (st2_8 rfl) ?_
          refine V.iload (pc := 70) dX11_off_70 rfl ?_
          refine V.iconst (v := 2) (pc := 72) dX11_off_72 (by decide) ?_
          refine V.icmp_ge 86 (pc := 73) dX11_off_73 (by decide) (fun h73 => ?_) (fun h73 => ?_)
          · rw [le32] at h73
            refine V.lload (pc := 86) dX11_off_86 rfl ?_
            refine V.lconst (v := 0) (pc := 88) dX11_off_88 (by decide) ?_
            refine V.lcmp_ne 97 (pc := 89) dX11_off_89 dX11_off_90 (by decide) (fun h89 => ?_) (fun h89 => ?_)
            · have z0 : ¬ (absN (rateU y * q.toInt.toNat) (rateL y * p.toInt.toNat)) = 0 := fun z => h89 (by rw [z]; rfl)
              have b8 : ((rateL y * q.toInt.toNat) + (absN (rateU y * q.toInt.toNat) (rateL y * p.toInt.toNat)) - 1) / (absN (rateU y * q.toInt.toNat) (rateL y * p.toInt.toNat)) ≤ (rateL y * q.toInt.toNat) + (absN (rateU y * q.toInt.toNat) (rateL y * p.toInt.toNat)) - 1 := Nat.div_le_self _ _
              refine V.lload (pc := 97) dX11_off_97 rfl ?_
              refine V.lload (pc := 99) dX11_off_99 rfl ?_
              refine V.pS (as := [_, _]) (pc := 101) dX11_off_101 lX11_208 bX11_cutUp sX11_cutUp (x_cutUp (d := d + 2) (a := (rateL y * q.toInt.toNat)) (b := (absN (rateU y * q.toInt.toNat) (rateL y * p.toInt.toNat))) _ _ rfl rfl (by omega) (by omega) (by omega)) (by omega) rfl (Nat.le_of_ble_eq_true rfl) ?_
              rw [cup_eq (by omega)]
              refine V.ls (pc := 104) dX11_off_104 (by decide) (st2_10 rfl) ?_
              refine V.lload (pc := 106) dX11_off_106 rfl ?_
              refine V.ldc2 (pc := 108) dX11_off_108 qX11_212 ?_
              refine V.lcmp_le 121 (pc := 111) dX11_off_111 dX11_off_112 (by decide) (fun h111 => ?_) (fun h111 => ?_)
              · have z1 : ((rateL y * q.toInt.toNat) + (absN (rateU y * q.toInt.toNat) (rateL y * p.toInt.toNat)) - 1) / (absN (rateU y * q.toInt.toNat) (rateL y * p.toInt.toNat)) ≤ 1000000 := by
                  rw [show (1000000 : Int64) = lN 1000000 from rfl, lN_leL (by omega) (by omega)] at h111
                  omega
                refine V.lload (pc := 121) dX11_off_121 rfl ?_
                exact V.lret (pc := 123) dX11_off_123 rfl (QX.q hX hR (by rw [s_off]; simp only [ey]; rw [if_pos (show ((1 ≤ p.toInt ∧ p.toInt ≤ 100000) ∧ (1 ≤ q.toInt ∧ q.toInt ≤ 100000)) ∧ (0 ≤ w.toInt ∧ w.toInt ≤ 2) from ⟨qr, by omega⟩), ← offN_y hY, offN]; rw [if_neg (by omega), if_neg (by omega), if_neg z0, if_pos z1, lI_nat]))
              · have z1 : ¬ ((rateL y * q.toInt.toNat) + (absN (rateU y * q.toInt.toNat) (rateL y * p.toInt.toNat)) - 1) / (absN (rateU y * q.toInt.toNat) (rateL y * p.toInt.toNat)) ≤ 1000000 := by
                  rw [show (1000000 : Int64) = lN 1000000 from rfl, lN_leL (by omega) (by omega)] at h111
                  omega
                refine V.ldc2 (pc := 115) dX11_off_115 qX11_164 ?_
                refine V.goto 123 (pc := 118) dX11_off_118 (by decide) ?_
                exact V.lret (pc := 123) dX11_off_123 rfl (QX.q hX hR (by rw [s_off]; simp only [ey]; rw [if_pos (show ((1 ≤ p.toInt ∧ p.toInt ≤ 100000) ∧ (1 ≤ q.toInt ∧ q.toInt ≤ 100000)) ∧ (0 ≤ w.toInt ∧ w.toInt ≤ 2) from ⟨qr, by omega⟩), ← offN_y hY, offN]; rw [if_neg (by omega), if_neg (by omega), if_neg z0, if_neg z1]; rfl))
            · have z0 : (absN (rateU y * q.toInt.toNat) (rateL y * p.toInt.toNat)) = 0 := by
                rw [show (0 : Int64) = lN 0 from rfl, lN_eqL (by omega) (by decide)] at h89
                exact h89
              refine V.ldc2 (pc := 93) dX11_off_93 qX11_164 ?_
              exact V.lret (pc := 96) dX11_off_96 rfl (QX.q hX hR (by rw [s_off]; simp only [ey]; rw [if_pos (show ((1 ≤ p.toInt ∧ p.toInt ≤ 100000) ∧ (1 ≤ q.toInt ∧ q.toInt ≤ 100000)) ∧ (0 ≤ w.toInt ∧ w.toInt ≤ 2) from ⟨qr, by omega⟩), ← offN_y hY, offN]; rw [if_neg (by omega), if_neg (by omega), if_pos z0]; rfl))
          · rw [le32] at h73
            refine V.lload (pc := 76) dX11_off_76 rfl ?_
            refine V.lload (pc := 78) dX11_off_78 rfl ?_
            refine V.iload (pc := 80) dX11_off_80 rfl ?_
            refine V.pS (as := [_, _, _]) (pc := 82) dX11_off_82 lX11_204 bX11_inLowestTerms sX11_inLowestTerms (x_low (d := d + 2) (a := (absN (rateU y * q.toInt.toNat) (rateL y * p.toInt.toNat))) (b := (rateL y * q.toInt.toNat)) _ _ _ rfl rfl (by omega) (by omega) (by omega)) (by omega) rfl (Nat.le_of_ble_eq_true rfl) ?_
            exact V.lret (pc := 85) dX11_off_85 rfl (QX.q hX hR (by
                    rw [s_off]; simp only [ey]; rw [if_pos (show ((1 ≤ p.toInt ∧ p.toInt ≤ 100000) ∧ (1 ≤ q.toInt ∧ q.toInt ≤ 100000)) ∧ (0 ≤ w.toInt ∧ w.toInt ≤ 2) from ⟨qr, by omega⟩), ← offN_y hY, offN]
                    by_cases w0 : w = 0
                    · rw [if_pos w0, if_pos (by rw [w0]; rfl), lI_nat]
                    · have w1 : ¬ w.toInt = 0 := fun z => w0 ((eq32 w 0).mpr z)
                      rw [if_neg w0, if_neg w1, if_pos (by omega), lI_nat]))
        · have e2 : (2 : Int32).toInt = 2 := rfl
          rw [le32] at h31
          refine V.ldc2 (pc := 34) dX11_off_34 qX11_164 ?_
          exact V.lret (pc := 37) dX11_off_37 rfl (QX.q hX hR (by rw [s_off]; simp only [ey]; rw [if_neg (fun z => absurd z.2.2 (by omega))]; rfl))
  · have ey := hdAt_no qh
    refine V.pV (as := [_]) (pc := 5) dX11_off_5 lX11_95 bX8_handAt nX8_handAt (ci := 7) rfl eX8_handAt (by assumption) (x_handAtN (d := d + 3) (k := (hds (cor A)).length) _ hX.s hR.h2 hA.1.1 qh) (by omega) rfl (Nat.le_of_ble_eq_true rfl) ?_
    refine V.ns (pc := 8) dX11_off_8 (by decide) (st1_5 rfl) ?_
    refine V.nload (pc := 10) dX11_off_10 rfl ?_
    refine V.ifnullN 34 (pc := 12) dX11_off_12 (by decide) ?_
    refine V.ldc2 (pc := 34) dX11_off_34 qX11_164 ?_
    exact V.lret (pc := 37) dX11_off_37 rfl (QX.q hX hR (by rw [s_off]; simp only [ey]; rfl))
