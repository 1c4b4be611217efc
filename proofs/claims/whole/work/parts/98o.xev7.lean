theorem x_isWrong {g : gG} {d : Nat} {T : mT} {n : Nat} {I : mI} {J : mJ} {F : mF} {x h dd : Nat} {y : Hd} {A : Ab} (xv z : Int32) (hX : XS T F x) (hA : AbOK A) (hR : RepX T I J F x A) (hy : (hds (cor A))[h]? = some y) (hx : xv = nI h) (hz : z = nI dd) (hd : dd ≤ 1000000) : Ct g mX11_isWrong (d + 6) [.ref x, .int xv, .ref (x + 1 + 8 + 2 * h), .int z] 0 0 T n I J F (fun r' T' n' I' J' F' => r' = some (.int (bi (wrP (cor A) h y dd))) ∧ T' = T ∧ n' = n ∧ AkF x I J F I' J' F') := by
  refine Ct.ofV (k := 1) (by decide) (Nat.le_of_ble_eq_true rfl) ?_
  show V g mX11_isWrong (d + 6) _ 0 0 0 [some (.ref x), some (.int xv), some (.ref (x + 1 + 8 + 2 * h)), some (.int z), none] [] T n I J F
  subst hx hz
  have hTo := hX.s.o
  have hT9 := hX.o9
  have h6 := hA.1.1
  have hl := (List.getElem?_eq_some_iff.mp hy).1
  have hTb := (hX.s.n (h := h) (by omega)).o
  refine V.aload_n (pc := 0) dX11_isWrong_0 rfl ?_
  refine V.getR (pc := 1) dX11_isWrong_1 fX11_50_10 rfl hX.o hX.f9 ?_
  refine V.aload_n (pc := 4) dX11_isWrong_4 rfl ?_
  refine V.getR (pc := 5) dX11_isWrong_5 fX11_10_10 rfl hX.o hX.f0 ?_
  refine V.invV0 (as := []) (pc := 8) dX11_isWrong_8 lX11_187 bX8_lawInForce nX8_lawInForce (ci := 7) rfl eX8_lawInForce (by assumption) (x_lif (d := d + 5) hX.s hX hA hR) (by omega) rfl (Nat.le_of_ble_eq_true rfl) ?_
  rintro _ _ _ _ _ _ ⟨v2, rfl, hLV, rfl, rfl, rfl, rfl, rfl⟩
  refine V.iload_n (pc := 11) dX11_isWrong_11 rfl ?_
  refine V.aload_n (pc := 12) dX11_isWrong_12 rfl ?_
  refine V.iload_n (pc := 13) dX11_isWrong_13 rfl ?_
  refine V.invV0 (as := [_, _, _, _]) (pc := 14) dX11_isWrong_14 lX11_191 bX0_tells nX0_tells (ci := 0) rfl eX0_tells (by assumption) (x_ask (d := d + 1) (h := h) (dd := dd) _ _ hX hA hR hy hLV rfl rfl hd) (by omega) rfl (Nat.le_of_ble_eq_true rfl) ?_
  rintro _ _ _ I2 J2 F2 ⟨rfl, rfl, rfl, f2⟩
  refine V.is (pc := 17) dX11_isWrong_17 (by decide) (st1_4 rfl) ?_
  refine V.iload (pc := 19) dX11_isWrong_19 rfl ?_
  refine V.ldc (pc := 21) dX11_isWrong_21 qX11_186 ?_
  refine V.icmp_eq 40 (pc := 23) dX11_isWrong_23 (by decide) (fun h23 => ?_) (fun h23 => ?_)
  · refine V.iconst (v := 0) (pc := 40) dX11_isWrong_40 (by decide) ?_
    exact V.zret (pc := 41) dX11_isWrong_41 rfl (by first | exact Or.inl rfl | exact Or.inr rfl | exact bi_or | assumption) ⟨by rw [bi_f (fun q => q.1 h23)], rfl, rfl, f2⟩
  · refine V.iload (pc := 26) dX11_isWrong_26 rfl ?_
    refine V.aload_n (pc := 28) dX11_isWrong_28 rfl ?_
    refine V.iload_n (pc := 29) dX11_isWrong_29 rfl ?_
    refine V.pV (as := [_]) (pc := 30) dX11_isWrong_30 lX11_176 bX1_markOn nX1_markOn (ci := 1) rfl eX1_markOn (by assumption) (x_markOn (d := d + 3) (dd := dd) (y := y) _ ((f2.xs hX).s.n (h := h) (by omega)) (hA.1.2.1 y (List.mem_of_getElem? hy)) ((f2.rep hR hA).hd hy) rfl hd) (by omega) rfl (Nat.le_of_ble_eq_true rfl) ?_
    refine V.icmp_eq 40 (pc := 33) dX11_isWrong_33 (by decide) (fun h33 => ?_) (fun h33 => ?_)
    · refine V.iconst (v := 0) (pc := 40) dX11_isWrong_40 (by decide) ?_
      exact V.zret (pc := 41) dX11_isWrong_41 rfl (by first | exact Or.inl rfl | exact Or.inr rfl | exact bi_or | assumption) ⟨by rw [bi_f (fun q => q.2 h33)], rfl, rfl, f2⟩
    · refine V.iconst (v := 1) (pc := 36) dX11_isWrong_36 (by decide) ?_
      refine V.goto 41 (pc := 37) dX11_isWrong_37 (by decide) ?_
      exact V.zret (pc := 41) dX11_isWrong_41 rfl (by first | exact Or.inl rfl | exact Or.inr rfl | exact bi_or | assumption) ⟨by rw [bi_t ⟨h23, h33⟩], rfl, rfl, f2⟩
theorem y_should {g : gG} {d : Nat} {T : mT} {n : Nat} {I : mI} {J : mJ} {F : mF} {x : Nat} {A : Ab} (v z : Int32) (hX : XS T F x) (hA : AbOK A) (hR : RepX T I J F x A)  : Ct g mX11_should (d + 6) [.ref x, .int v, .int z] 0 0 T n I J F (QX x T n I J F (some (.int (iI (s_should A v.toInt z.toInt)))) A) := by
  refine Ct.ofV (k := 1) (by decide) (Nat.le_of_ble_eq_true rfl) ?_
  show V g mX11_should (d + 6) _ 0 0 0 [some (.ref x), some (.int v), some (.int z), none] [] T n I J F
  have hTo := hX.s.o
  have hT9 := hX.o9
  refine V.aload_n (pc := 0) dX11_should_0 rfl ?_
  refine V.getR (pc := 1) dX11_should_1 fX11_10_10 rfl hX.o hX.f0 ?_
  refine V.iload_n (pc := 4) dX11_should_4 rfl ?_
  by_cases q1 : 0 ≤ v.toInt ∧ v.toInt < (hds (cor A)).length
  · obtain ⟨y1, hy1, e1y⟩ := hdAt_yes q1
    have h6 := hA.1.1
    have hY1 := hA.1.2.1 y1 (List.mem_of_getElem? hy1)
    have hW1 := hR.hd hy1
    have hN1 := hX.s.n (h := v.toInt.toNat) (by omega)
    have hTa1 := hN1.o
    have hv1 := nIx q1.1 rfl
    refine V.pV (as := [_]) (pc := 5) dX11_should_5 lX11_95 bX8_handAt nX8_handAt (ci := 7) rfl eX8_handAt (by assumption) (x_handAtY (d := d + 5) (k := (hds (cor A)).length) _ hX.s hR.h2 hA.1.1 q1) (by omega) rfl (Nat.le_of_ble_eq_true rfl) ?_
    refine V.asn (pc := 8) dX11_should_8 (by decide) (st1_3 rfl) ?_
    refine V.aload_n (pc := 9) dX11_should_9 rfl ?_
    refine V.ifnull (pc := 10) dX11_should_10 ?_
    refine V.iload_n (pc := 13) dX11_should_13 rfl ?_
    refine V.pS (as := [_]) (pc := 14) dX11_should_14 lX11_173 bX11_isDay sX11_isDay (x_isDay (d := d + 5) _) (by omega) rfl (Nat.le_of_ble_eq_true rfl) ?_
    refine V.if_ne 23 (pc := 17) dX11_should_17 (by decide) (fun h17 => ?_) (fun h17 => ?_)
    · have qd := bi_ne.mp h17
      have hz1 := nIx (x := z) qd.1 rfl
      refine V.aload_n (pc := 23) dX11_should_23 rfl ?_
      refine V.getR (pc := 24) dX11_should_24 fX11_50_10 rfl hX.o hX.f9 ?_
      refine V.aload_n (pc := 27) dX11_should_27 rfl ?_
      refine V.getR (pc := 28) dX11_should_28 fX11_10_10 rfl hX.o hX.f0 ?_
      refine V.invV0 (as := []) (pc := 31) dX11_should_31 lX11_187 bX8_lawInForce nX8_lawInForce (ci := 7) rfl eX8_lawInForce (by assumption) (x_lif (d := d + 5) hX.s hX hA hR) (by omega) rfl (Nat.le_of_ble_eq_true rfl) ?_
      rintro _ _ _ _ _ _ ⟨v2, rfl, hLV, rfl, rfl, rfl, rfl, rfl⟩
      refine V.iload_n (pc := 34) dX11_should_34 rfl ?_
      refine V.aload_n (pc := 35) dX11_should_35 rfl ?_
      refine V.iload_n (pc := 36) dX11_should_36 rfl ?_
      refine V.invV0 (as := [_, _, _, _]) (pc := 37) dX11_should_37 lX11_191 bX0_tells nX0_tells (ci := 0) rfl eX0_tells (by assumption) (x_ask (d := d + 1) (h := v.toInt.toNat) (dd := z.toInt.toNat) _ _ hX hA hR hy1 hLV hv1 hz1 (by omega)) (by omega) rfl (Nat.le_of_ble_eq_true rfl) ?_
      rintro _ _ _ I2 J2 F2 ⟨rfl, rfl, rfl, f2⟩
      exact V.iret (pc := 40) dX11_should_40 rfl (f2.qx hX hA hR (by rw [s_should]; simp only [e1y]; rw [if_pos qd]; exact congrArg (fun v => some (Value.int v)) (iI_of _)))
    · have qd := bi_eq.mp h17
      refine V.ldc (pc := 20) dX11_should_20 qX11_186 ?_
      exact V.iret (pc := 22) dX11_should_22 rfl (QX.q hX hR (by rw [s_should]; simp only [e1y]; rw [if_neg qd]; rfl))
  · have e1y := hdAt_no q1
    refine V.pV (as := [_]) (pc := 5) dX11_should_5 lX11_95 bX8_handAt nX8_handAt (ci := 7) rfl eX8_handAt (by assumption) (x_handAtN (d := d + 5) (k := (hds (cor A)).length) _ hX.s hR.h2 hA.1.1 q1) (by omega) rfl (Nat.le_of_ble_eq_true rfl) ?_
    refine V.nsn (pc := 8) dX11_should_8 (by decide) (st1_3 rfl) ?_
    refine V.nload_n (pc := 9) dX11_should_9 rfl ?_
    refine V.ifnullN 20 (pc := 10) dX11_should_10 (by decide) ?_
    refine V.ldc (pc := 20) dX11_should_20 qX11_186 ?_
    exact V.iret (pc := 22) dX11_should_22 rfl (QX.q hX hR (by rw [s_should]; simp only [e1y]; rfl))
theorem y_shows {g : gG} {d : Nat} {T : mT} {n : Nat} {I : mI} {J : mJ} {F : mF} {x : Nat} {A : Ab} (v z w : Int32) (hX : XS T F x) (hA : AbOK A) (hR : RepX T I J F x A)  : Ct g mX11_shows (d + 7) [.ref x, .int v, .int z, .int w] 0 0 T n I J F (QX x T n I J F (some (.int (iI (s_shows A v.toInt z.toInt w.toInt)))) A) := by
  refine Ct.ofV (k := 1) (by decide) (Nat.le_of_ble_eq_true rfl) ?_
  show V g mX11_shows (d + 7) _ 0 0 0 [some (.ref x), some (.int v), some (.int z), some (.int w), none] [] T n I J F
  have hTo := hX.s.o
  have hT9 := hX.o9
  refine V.aload_n (pc := 0) dX11_shows_0 rfl ?_
  refine V.getR (pc := 1) dX11_shows_1 fX11_10_10 rfl hX.o hX.f0 ?_
  refine V.iload_n (pc := 4) dX11_shows_4 rfl ?_
  by_cases q1 : 0 ≤ v.toInt ∧ v.toInt < (hds (cor A)).length
  · obtain ⟨y1, hy1, e1y⟩ := hdAt_yes q1
    have h6 := hA.1.1
    have hY1 := hA.1.2.1 y1 (List.mem_of_getElem? hy1)
    have hW1 := hR.hd hy1
    have hN1 := hX.s.n (h := v.toInt.toNat) (by omega)
    have hTa1 := hN1.o
    have hv1 := nIx q1.1 rfl
    refine V.pV (as := [_]) (pc := 5) dX11_shows_5 lX11_95 bX8_handAt nX8_handAt (ci := 7) rfl eX8_handAt (by assumption) (x_handAtY (d := d + 6) (k := (hds (cor A)).length) _ hX.s hR.h2 hA.1.1 q1) (by omega) rfl (Nat.le_of_ble_eq_true rfl) ?_
    refine V.as (pc := 8) dX11_shows_8 (by decide) (st1_4 rfl) ?_
    refine V.aload (pc := 10) dX11_shows_10 rfl ?_
    refine V.ifnull (pc := 12) dX11_shows_12 ?_
    refine V.iload_n (pc := 15) dX11_shows_15 rfl ?_
    refine V.pS (as := [_]) (pc := 16) dX11_shows_16 lX11_173 bX11_isDay sX11_isDay (x_isDay (d := d + 6) _) (by omega) rfl (Nat.le_of_ble_eq_true rfl) ?_
    refine V.if_ne 24 (pc := 19) dX11_shows_19 (by decide) (fun h19 => ?_) (fun h19 => ?_)
    · have qd := bi_ne.mp h19
      have hz1 := nIx (x := z) qd.1 rfl
      refine V.iload_n (pc := 24) dX11_shows_24 rfl ?_
      refine V.gen (fun y25 ey25 => ?_)
      by_cases c25_0 : y25 = 0
      · rw [c25_0] at ey25 ⊢
        refine V.tIn 52 (pc := 25) dX11_shows_25 (by decide) (by decide) (off := 27) (by decide) (by decide) ?_
        refine V.aload (pc := 52) dX11_shows_52 rfl ?_
        refine V.iload_n (pc := 54) dX11_shows_54 rfl ?_
        refine V.pV (as := [_]) (pc := 55) dX11_shows_55 lX11_176 bX1_markOn nX1_markOn (ci := 1) rfl eX1_markOn (by assumption) (x_markOn (d := d + 4) (dd := z.toInt.toNat) (y := y1) _ hN1 hY1 hW1 hz1 (by omega)) (by omega) rfl (Nat.le_of_ble_eq_true rfl) ?_
        exact V.iret (pc := 58) dX11_shows_58 rfl (QX.q hX hR (by rw [s_shows]; simp only [e1y]; rw [if_pos qd, if_pos (show w.toInt = 0 by rw [← ey25]; rfl), iI_nat]))
      by_cases c25_1 : y25 = 1
      · rw [c25_1] at ey25 ⊢
        refine V.tIn 59 (pc := 25) dX11_shows_25 (by decide) (by decide) (off := 34) (by decide) (by decide) ?_
        refine V.aload (pc := 59) dX11_shows_59 rfl ?_
        refine V.iload_n (pc := 61) dX11_shows_61 rfl ?_
        refine V.pV (as := [_]) (pc := 62) dX11_shows_62 lX11_179 bX1_turnsOn nX1_turnsOn (ci := 1) rfl eX1_turnsOn (by assumption) (x_turnsOn (d := d + 5) (dd := z.toInt.toNat) (y := y1) _ hN1 hY1 hW1 hz1 (by omega)) (by omega) rfl (Nat.le_of_ble_eq_true rfl) ?_
        exact V.iret (pc := 65) dX11_shows_65 rfl (QX.q hX hR (by rw [s_shows]; simp only [e1y]; rw [if_pos qd, if_neg (show ¬ w.toInt = 0 by rw [← ey25]; decide), if_pos (show w.toInt = 1 by rw [← ey25]; rfl), iI_nat]; rfl))
      by_cases c25_2 : y25 = 2
      · rw [c25_2] at ey25 ⊢
        refine V.tIn 66 (pc := 25) dX11_shows_25 (by decide) (by decide) (off := 41) (by decide) (by decide) ?_
        refine V.aload_n (pc := 66) dX11_shows_66 rfl ?_
        refine V.iload_n (pc := 67) dX11_shows_67 rfl ?_
        refine V.aload (pc := 68) dX11_shows_68 rfl ?_
        refine V.iload_n (pc := 70) dX11_shows_70 rfl ?_
        refine V.invV0 (as := [_, _, _]) (pc := 71) dX11_shows_71 lX11_182 bX11_isWrong nX11_isWrong (ci := 10) rfl eX11_isWrong hX.o (x_isWrong (d := d + 0) (h := v.toInt.toNat) (dd := z.toInt.toNat) _ _ hX hA hR hy1 hv1 hz1 (by omega)) (by omega) rfl (Nat.le_of_ble_eq_true rfl) ?_
        rintro _ _ _ I2 J2 F2 ⟨rfl, rfl, rfl, f2⟩
        refine V.if_eq 81 (pc := 74) dX11_shows_74 (by decide) (fun h74 => ?_) (fun h74 => ?_)
        · have qq := bi_eq.mp h74
          refine V.iconst (v := 0) (pc := 81) dX11_shows_81 (by decide) ?_
          exact V.iret (pc := 82) dX11_shows_82 rfl (f2.qx hX hA hR (by rw [s_shows]; simp only [e1y]; rw [if_pos qd, if_neg (show ¬ w.toInt = 0 by rw [← ey25]; decide), if_neg (show ¬ w.toInt = 1 by rw [← ey25]; decide), if_pos (show w.toInt = 2 by rw [← ey25]; rfl), if_neg qq]; rfl))
        · have qq := bi_ne.mp h74
          refine V.iconst (v := 1) (pc := 77) dX11_shows_77 (by decide) ?_
          refine V.goto 82 (pc := 78) dX11_shows_78 (by decide) ?_
          exact V.iret (pc := 82) dX11_shows_82 rfl (f2.qx hX hA hR (by rw [s_shows]; simp only [e1y]; rw [if_pos qd, if_neg (show ¬ w.toInt = 0 by rw [← ey25]; decide), if_neg (show ¬ w.toInt = 1 by rw [← ey25]; decide), if_pos (show w.toInt = 2 by rw [← ey25]; rfl), if_pos qq]; rfl))
      have q0 : ¬ y25.toInt = 0 := fun e => c25_0 ((eq32 _ _).mpr (e.trans (by decide)))
      have q1 : ¬ y25.toInt = 1 := fun e => c25_1 ((eq32 _ _).mpr (e.trans (by decide)))
      have q2 : ¬ y25.toInt = 2 := fun e => c25_2 ((eq32 _ _).mpr (e.trans (by decide)))
      refine V.tOut 83 (pc := 25) dX11_shows_25 (by skip; omega) (by decide) ?_
      refine V.iconst (v := (-1)) (pc := 83) dX11_shows_83 (by decide) ?_
      exact V.iret (pc := 84) dX11_shows_84 rfl (QX.q hX hR (by rw [s_shows]; simp only [e1y]; rw [if_pos qd, if_neg (by rw [← ey25]; exact q0), if_neg (by rw [← ey25]; exact q1), if_neg (by rw [← ey25]; exact q2)]; rfl))
    · have qd := bi_eq.mp h19
      refine V.iconst (v := (-1)) (pc := 22) dX11_shows_22 (by decide) ?_
      exact V.iret (pc := 23) dX11_shows_23 rfl (QX.q hX hR (by rw [s_shows]; simp only [e1y]; rw [if_neg qd]; rfl))
  · have e1y := hdAt_no q1
    refine V.pV (as := [_]) (pc := 5) dX11_shows_5 lX11_95 bX8_handAt nX8_handAt (ci := 7) rfl eX8_handAt (by assumption) (x_handAtN (d := d + 6) (k := (hds (cor A)).length) _ hX.s hR.h2 hA.1.1 q1) (by omega) rfl (Nat.le_of_ble_eq_true rfl) ?_
    refine V.ns (pc := 8) dX11_shows_8 (by decide) (st1_4 rfl) ?_
    refine V.nload (pc := 10) dX11_shows_10 rfl ?_
    refine V.ifnullN 22 (pc := 12) dX11_shows_12 (by decide) ?_
    refine V.iconst (v := (-1)) (pc := 22) dX11_shows_22 (by decide) ?_
    exact V.iret (pc := 23) dX11_shows_23 rfl (QX.q hX hR (by rw [s_shows]; simp only [e1y]; rfl))
