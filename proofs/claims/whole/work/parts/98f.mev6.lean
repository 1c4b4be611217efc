-- should, isWrong, shows
def NOI : Int32 := -2000000000
def shI (c : Core) (h : Nat) (y : Hd) (dd : Nat) : Int32 := iI (shV c h y dd)
abbrev wrP (c : Core) (h : Nat) (y : Hd) (dd : Nat) : Prop := shI c h y dd ≠ NOI ∧ shI c h y dd ≠ nI (markD y dd)
def s_should (A : Ab) (h w : Int) : Int := match hdAt (cor A) h with
  | none => -2000000000
  | some y => if 0 ≤ w ∧ w ≤ 1000000 then (shI (cor A) h.toNat y w.toNat).toInt else -2000000000
def turN (y : Hd) (dd : Nat) : Nat := goN dd y.2.2.1 * upN y.2.2.2 / loN y.2.2.2 % 1000000
def s_shows (A : Ab) (h w k : Int) : Int := match hdAt (cor A) h with
  | none => -1
  | some y => if 0 ≤ w ∧ w ≤ 1000000 then (if k = 0 then (markD y w.toNat : Int) else if k = 1 then (turN y w.toNat : Int) else if k = 2 then (if wrP (cor A) h.toNat y w.toNat then 1 else 0) else -1) else -1
theorem c_isWrong {g : gG} {d : Nat} {T : mT} {n : Nat} {I : mI} {J : mJ} {F : mF} {m h dd : Nat} {y : Hd} {A : Ab} (x z : Int32) (hM : MS T F m) (hA : AbOK A) (hR : RepM I J m A) (hy : (hds (cor A))[h]? = some y) (hx : x = nI h) (hz : z = nI dd) (hd : dd ≤ 1000000) : Ct g mX12_isWrong (d + 6) [.ref m, .int x, .int z] 0 0 T n I J F (fun r' T' n' I' J' F' => r' = some (.int (bi (wrP (cor A) h y dd))) ∧ T' = T ∧ n' = n ∧ F' = F ∧ ShF m I J I' J') := by
  refine Ct.ofV (k := 1) (by decide) (Nat.le_of_ble_eq_true rfl) ?_
  show V g mX12_isWrong (d + 6) _ 0 0 0 [some (.ref m), some (.int x), some (.int z), none] [] T n I J F
  subst hx hz
  have hgo := goN_le dd y.2.2.1
  refine V.aload_n (pc := 0) dX12_isWrong_0 rfl ?_
  refine V.iload_n (pc := 1) dX12_isWrong_1 rfl ?_
  refine V.iload_n (pc := 2) dX12_isWrong_2 rfl ?_
  refine V.invV0 (as := [_, _]) (pc := 3) dX12_isWrong_3 lX12_321 bX12_shouldOf nX12_shouldOf (ci := 11) rfl eX12_shouldOf hM.o (c_shouldOf (d := d + 0) (h := h) (dd := dd) _ _ hM hA hR hy rfl rfl hd) (by omega) rfl (Nat.le_of_ble_eq_true rfl) ?_
  rintro _ _ _ I2 J2 _ ⟨rfl, rfl, rfl, rfl, f2⟩
  have hR2 := f2.rep hR
  refine V.isn (pc := 6) dX12_isWrong_6 (by decide) (st1_3 rfl) ?_
  refine V.iload_n (pc := 7) dX12_isWrong_7 rfl ?_
  refine V.ldcw (pc := 8) dX12_isWrong_8 qX12_306 ?_
  refine V.icmp_eq 33 (pc := 11) dX12_isWrong_11 (by decide) (fun h11 => ?_) (fun h11 => ?_)
  · refine V.iconst (v := 0) (pc := 33) dX12_isWrong_33 (by decide) ?_
    exact V.zret (pc := 34) dX12_isWrong_34 rfl (by first | exact Or.inl rfl | exact Or.inr rfl | exact bi_or | assumption) ⟨by rw [bi_f (fun q => q.1 h11)], rfl, rfl, rfl, f2⟩
  · refine V.iload_n (pc := 14) dX12_isWrong_14 rfl ?_
    refine V.aload_n (pc := 15) dX12_isWrong_15 rfl ?_
    refine V.iload_n (pc := 16) dX12_isWrong_16 rfl ?_
    refine V.aload_n (pc := 17) dX12_isWrong_17 rfl ?_
    refine V.iload_n (pc := 18) dX12_isWrong_18 rfl ?_
    refine V.iload_n (pc := 19) dX12_isWrong_19 rfl ?_
    refine V.pV (as := [_, _]) (pc := 20) dX12_isWrong_20 lX12_307 bX12_gone2 nX12_gone2 (ci := 11) rfl eX12_gone2 hM.o (c_gone2 (d := d + 4) (h := h) (dd := dd) (y := y) _ _ hM rfl (hR2.hd hA hy) rfl hd) (by omega) rfl (Nat.le_of_ble_eq_true rfl) ?_
    refine V.pV (as := [_, _]) (pc := 23) dX12_isWrong_23 lX12_349 bX12_markAt nX12_markAt (ci := 11) rfl eX12_markAt hM.o (c_markAt (d := d + 2) (h := h) (go := goN dd y.2.2.1) (y := y) _ _ hM rfl (hR2.hd hA hy) rfl (Nat.le_trans hgo hd)) (by omega) rfl (Nat.le_of_ble_eq_true rfl) ?_
    refine V.icmp_eq 33 (pc := 26) dX12_isWrong_26 (by decide) (fun h26 => ?_) (fun h26 => ?_)
    · refine V.iconst (v := 0) (pc := 33) dX12_isWrong_33 (by decide) ?_
      exact V.zret (pc := 34) dX12_isWrong_34 rfl (by first | exact Or.inl rfl | exact Or.inr rfl | exact bi_or | assumption) ⟨by rw [bi_f (fun q => q.2 h26)], rfl, rfl, rfl, f2⟩
    · refine V.iconst (v := 1) (pc := 29) dX12_isWrong_29 (by decide) ?_
      refine V.goto 34 (pc := 30) dX12_isWrong_30 (by decide) ?_
      exact V.zret (pc := 34) dX12_isWrong_34 rfl (by first | exact Or.inl rfl | exact Or.inr rfl | exact bi_or | assumption) ⟨by rw [bi_t ⟨h11, h26⟩], rfl, rfl, rfl, f2⟩
theorem p_should {g : gG} {d : Nat} {T : mT} {n : Nat} {I : mI} {J : mJ} {F : mF} {m : Nat} {A : Ab} (x z : Int32) (hM : MS T F m) (hA : AbOK A) (hR : RepM I J m A)  : Ct g mX12_should (d + 7) [.ref m, .int x, .int z] 0 0 T n I J F (QM m T n I J F (some (.int (iI (s_should A x.toInt z.toInt)))) A) := by
  refine Ct.ofV (k := 0) (by decide) (Nat.le_of_ble_eq_true rfl) ?_
  show V g mX12_should (d + 7) _ 0 0 0 [some (.ref m), some (.int x), some (.int z)] [] T n I J F
  have h6 := hA.1.1
  refine V.aload_n (pc := 0) dX12_should_0 rfl ?_
  refine V.iconst (v := 0) (pc := 1) dX12_should_1 (by decide) ?_
  refine V.putI (pc := 2) dX12_should_2 fX12_88_11 (fun r h => by cases h; exact Or.inl rfl) rfl hM.o ?_
  refine V.thr hR (fun I1 hR1 hf => ?_)
  clear hR
  have hR := hR1
  clear hR1
  refine V.aload_n (pc := 5) dX12_should_5 rfl ?_
  refine V.iload_n (pc := 6) dX12_should_6 rfl ?_
  refine V.pV (as := [_]) (pc := 7) dX12_should_7 lX12_111 bX12_isHand nX12_isHand (ci := 11) rfl eX12_isHand hM.o (c_isHand (d := d + 5) (k := (hds (cor A)).length) _ hM (by omega) hR.h0) (by omega) rfl (Nat.le_of_ble_eq_true rfl) ?_
  refine V.if_eq 29 (pc := 10) dX12_should_10 (by decide) (fun h10 => ?_) (fun h10 => ?_)
  · have q := bi_eq.mp h10
    have ey := hdAt_no q
    refine V.ldcw (pc := 29) dX12_should_29 qX12_306 ?_
    exact V.iret (pc := 32) dX12_should_32 rfl ⟨by rw [s_should]; simp only [ey]; rfl, rfl, rfl, rfl, hf, Frm.rf, hR⟩
  · have q := bi_ne.mp h10
    obtain ⟨y, h1y, e1y⟩ := hdAt_yes q
    have h1x := nIx q.1 rfl
    have h1H := hR.hd hA h1y
    have h1b := rate_bd h1H.2.2 y.2.2.2.length
    rw [List.take_length] at h1b
    refine V.iload_n (pc := 13) dX12_should_13 rfl ?_
    refine V.pS (as := [_]) (pc := 14) dX12_should_14 lX12_318 bX12_isDay sX12_isDay (c_isDay (d := d + 5) _) (by omega) rfl (Nat.le_of_ble_eq_true rfl) ?_
    refine V.if_eq 29 (pc := 17) dX12_should_17 (by decide) (fun h17 => ?_) (fun h17 => ?_)
    · have qd := bi_eq.mp h17
      refine V.ldcw (pc := 29) dX12_should_29 qX12_306 ?_
      exact V.iret (pc := 32) dX12_should_32 rfl ⟨by rw [s_should]; simp only [e1y]; rw [if_neg qd]; rfl, rfl, rfl, rfl, hf, Frm.rf, hR⟩
    · have qd := bi_ne.mp h17
      have hd1 := nIx (x := z) qd.1 rfl
      refine V.aload_n (pc := 20) dX12_should_20 rfl ?_
      refine V.iload_n (pc := 21) dX12_should_21 rfl ?_
      refine V.iload_n (pc := 22) dX12_should_22 rfl ?_
      refine V.invV0 (as := [_, _]) (pc := 23) dX12_should_23 lX12_321 bX12_shouldOf nX12_shouldOf (ci := 11) rfl eX12_shouldOf hM.o (c_shouldOf (d := d + 1) (h := x.toInt.toNat) (dd := z.toInt.toNat) _ _ hM hA hR h1y h1x hd1 (by omega)) (by omega) rfl (Nat.le_of_ble_eq_true rfl) ?_
      rintro _ _ _ I2 J2 _ ⟨rfl, rfl, rfl, rfl, f2⟩
      have hR2 := f2.rep hR
      refine V.goto 32 (pc := 26) dX12_should_26 (by decide) ?_
      exact V.iret (pc := 32) dX12_should_32 rfl ⟨by rw [s_should]; simp only [e1y]; rw [if_pos qd]; exact congrArg (fun v => some (Value.int v)) (iI_of _), rfl, rfl, rfl, hf.trans f2.frm.1, f2.frm.2, hR2⟩
theorem p_shows {g : gG} {d : Nat} {T : mT} {n : Nat} {I : mI} {J : mJ} {F : mF} {m : Nat} {A : Ab} (x z w : Int32) (hM : MS T F m) (hA : AbOK A) (hR : RepM I J m A)  : Ct g mX12_shows (d + 7) [.ref m, .int x, .int z, .int w] 0 0 T n I J F (QM m T n I J F (some (.int (iI (s_shows A x.toInt z.toInt w.toInt)))) A) := by
  refine Ct.ofV (k := 2) (by decide) (Nat.le_of_ble_eq_true rfl) ?_
  show V g mX12_shows (d + 7) _ 0 0 0 [some (.ref m), some (.int x), some (.int z), some (.int w), none, none] [] T n I J F
  have h6 := hA.1.1
  have e0 : (0 : Int32).toInt = 0 := rfl
  have e1 : (1 : Int32).toInt = 1 := rfl
  refine V.aload_n (pc := 0) dX12_shows_0 rfl ?_
  refine V.iconst (v := 0) (pc := 1) dX12_shows_1 (by decide) ?_
  refine V.putI (pc := 2) dX12_shows_2 fX12_88_11 (fun r h => by cases h; exact Or.inl rfl) rfl hM.o ?_
  refine V.thr hR (fun I1 hR1 hf => ?_)
  clear hR
  have hR := hR1
  clear hR1
  refine V.aload_n (pc := 5) dX12_shows_5 rfl ?_
  refine V.iload_n (pc := 6) dX12_shows_6 rfl ?_
  refine V.pV (as := [_]) (pc := 7) dX12_shows_7 lX12_111 bX12_isHand nX12_isHand (ci := 11) rfl eX12_isHand hM.o (c_isHand (d := d + 5) (k := (hds (cor A)).length) _ hM (by omega) hR.h0) (by omega) rfl (Nat.le_of_ble_eq_true rfl) ?_
  refine V.if_eq 32 (pc := 10) dX12_shows_10 (by decide) (fun h10 => ?_) (fun h10 => ?_)
  · have q := bi_eq.mp h10
    have ey := hdAt_no q
    refine V.iconst (v := (-1)) (pc := 32) dX12_shows_32 (by decide) ?_
    exact V.iret (pc := 33) dX12_shows_33 rfl ⟨by rw [s_shows]; simp only [ey]; rfl, rfl, rfl, rfl, hf, Frm.rf, hR⟩
  · have q := bi_ne.mp h10
    obtain ⟨y, h1y, e1y⟩ := hdAt_yes q
    have h1x := nIx q.1 rfl
    have h1H := hR.hd hA h1y
    have h1b := rate_bd h1H.2.2 y.2.2.2.length
    rw [List.take_length] at h1b
    refine V.iload_n (pc := 13) dX12_shows_13 rfl ?_
    refine V.pS (as := [_]) (pc := 14) dX12_shows_14 lX12_318 bX12_isDay sX12_isDay (c_isDay (d := d + 5) _) (by omega) rfl (Nat.le_of_ble_eq_true rfl) ?_
    refine V.if_eq 32 (pc := 17) dX12_shows_17 (by decide) (fun h17 => ?_) (fun h17 => ?_)
    · have qd := bi_eq.mp h17
      refine V.iconst (v := (-1)) (pc := 32) dX12_shows_32 (by decide) ?_
      exact V.iret (pc := 33) dX12_shows_33 rfl ⟨by rw [s_shows]; simp only [e1y]; rw [if_neg qd]; rfl, rfl, rfl, rfl, hf, Frm.rf, hR⟩
    · have qd := bi_ne.mp h17
      have hd1 := nIx (x := z) qd.1 rfl
      refine V.iload_n (pc := 20) dX12_shows_20 rfl ?_
      refine V.i2l (pc := 21) dX12_shows_21 ?_
      refine V.lconst (v := 0) (pc := 22) dX12_shows_22 (by decide) ?_
      refine V.ldc2 (pc := 23) dX12_shows_23 qX12_353 ?_
      refine V.pS (as := [_, _, _]) (pc := 26) dX12_shows_26 lX12_98 bX12_in sX12_in (c_in (d := d + 6) _ _ _) (by omega) rfl (Nat.le_of_ble_eq_true rfl) ?_
      rw [bi_c (in64 w 0 2 0 2 rfl rfl)]
      refine V.if_ne 34 (pc := 29) dX12_shows_29 (by decide) (fun h29 => ?_) (fun h29 => ?_)
      · have qw := bi_ne.mp h29
        have hgo := goN_le z.toInt.toNat y.2.2.1
        have b1 : goN z.toInt.toNat y.2.2.1 * upN y.2.2.2 ≤ 1000000 * 207360000 := Nat.mul_le_mul (Nat.le_trans hgo (by omega)) h1b.1.2
        have b2 : goN z.toInt.toNat y.2.2.1 * upN y.2.2.2 / loN y.2.2.2 ≤ goN z.toInt.toNat y.2.2.1 * upN y.2.2.2 := Nat.div_le_self _ _
        refine V.aload_n (pc := 34) dX12_shows_34 rfl ?_
        refine V.iload_n (pc := 35) dX12_shows_35 rfl ?_
        refine V.aload_n (pc := 36) dX12_shows_36 rfl ?_
        refine V.iload_n (pc := 37) dX12_shows_37 rfl ?_
        refine V.iload_n (pc := 38) dX12_shows_38 rfl ?_
        refine V.pV (as := [_, _]) (pc := 39) dX12_shows_39 lX12_307 bX12_gone2 nX12_gone2 (ci := 11) rfl eX12_gone2 hM.o (c_gone2 (d := d + 5) (h := x.toInt.toNat) (dd := z.toInt.toNat) (y := y) _ _ hM h1x h1H hd1 (by omega)) (by omega) rfl (Nat.le_of_ble_eq_true rfl) ?_
        refine V.pV (as := [_, _]) (pc := 42) dX12_shows_42 lX12_311 bX12_turnsOf nX12_turnsOf (ci := 11) rfl eX12_turnsOf hM.o (c_turnsOf (d := d + 3) (h := x.toInt.toNat) (go := goN z.toInt.toNat y.2.2.1) (y := y) _ _ hM h1x h1H rfl (Nat.le_trans hgo (by omega))) (by omega) rfl (Nat.le_of_ble_eq_true rfl) ?_
        refine V.ls (pc := 45) dX12_shows_45 (by decide) (st2_4 rfl) ?_
        refine V.iload_n (pc := 47) dX12_shows_47 rfl ?_
        refine V.if_ne 65 (pc := 48) dX12_shows_48 (by decide) (fun h48 => ?_) (fun h48 => ?_)
        · have w0 : ¬ w.toInt = 0 := fun q => h48 ((eq32 _ _).mpr q)
          refine V.iload_n (pc := 65) dX12_shows_65 rfl ?_
          refine V.iconst (v := 1) (pc := 66) dX12_shows_66 (by decide) ?_
          refine V.icmp_ne 80 (pc := 67) dX12_shows_67 (by decide) (fun h67 => ?_) (fun h67 => ?_)
          · have w1 : ¬ w.toInt = 1 := fun q => h67 ((eq32 _ _).mpr q)
            refine V.aload_n (pc := 80) dX12_shows_80 rfl ?_
            refine V.iload_n (pc := 81) dX12_shows_81 rfl ?_
            refine V.iload_n (pc := 82) dX12_shows_82 rfl ?_
            refine V.invV0 (as := [_, _]) (pc := 83) dX12_shows_83 lX12_355 bX12_isWrong nX12_isWrong (ci := 11) rfl eX12_isWrong hM.o (c_isWrong (d := d + 0) (h := x.toInt.toNat) (dd := z.toInt.toNat) _ _ hM hA hR h1y h1x hd1 (by omega)) (by omega) rfl (Nat.le_of_ble_eq_true rfl) ?_
            rintro _ _ _ I2 J2 _ ⟨rfl, rfl, rfl, rfl, f2⟩
            have hR2 := f2.rep hR
            refine V.if_eq 93 (pc := 86) dX12_shows_86 (by decide) (fun h86 => ?_) (fun h86 => ?_)
            · have qq := bi_eq.mp h86
              refine V.iconst (v := 0) (pc := 93) dX12_shows_93 (by decide) ?_
              exact V.iret (pc := 94) dX12_shows_94 rfl ⟨by rw [s_shows]; simp only [e1y]; rw [if_pos qd, if_neg w0, if_neg w1, if_pos (by omega), if_neg qq]; rfl, rfl, rfl, rfl, hf.trans f2.frm.1, f2.frm.2, hR2⟩
            · have qq := bi_ne.mp h86
              refine V.iconst (v := 1) (pc := 89) dX12_shows_89 (by decide) ?_
              refine V.goto 94 (pc := 90) dX12_shows_90 (by decide) ?_
              exact V.iret (pc := 94) dX12_shows_94 rfl ⟨by rw [s_shows]; simp only [e1y]; rw [if_pos qd, if_neg w0, if_neg w1, if_pos (by omega), if_pos qq]; rfl, rfl, rfl, rfl, hf.trans f2.frm.1, f2.frm.2, hR2⟩
          · have w1 : w.toInt = 1 := by rw [h67]; rfl
            refine V.lload (pc := 70) dX12_shows_70 rfl ?_
            refine V.ldc2 (pc := 72) dX12_shows_72 qX12_105 ?_
            refine V.lrem (pc := 75) dX12_shows_75 (by decide) ?_
            rw [show (1000000 : Int64) = lN 1000000 from rfl, lN_rem (by omega) (by decide)]
            refine V.l2i (pc := 76) dX12_shows_76 ?_
            rw [lN_int (by omega)]
            refine V.goto 94 (pc := 77) dX12_shows_77 (by decide) ?_
            exact V.iret (pc := 94) dX12_shows_94 rfl ⟨by rw [s_shows]; simp only [e1y]; rw [if_pos qd, if_neg w0, if_pos w1, iI_nat]; rfl, rfl, rfl, rfl, hf, Frm.rf, hR⟩
        · have w0 : w.toInt = 0 := by rw [h48]; rfl
          refine V.aload_n (pc := 51) dX12_shows_51 rfl ?_
          refine V.iload_n (pc := 52) dX12_shows_52 rfl ?_
          refine V.aload_n (pc := 53) dX12_shows_53 rfl ?_
          refine V.iload_n (pc := 54) dX12_shows_54 rfl ?_
          refine V.iload_n (pc := 55) dX12_shows_55 rfl ?_
          refine V.pV (as := [_, _]) (pc := 56) dX12_shows_56 lX12_307 bX12_gone2 nX12_gone2 (ci := 11) rfl eX12_gone2 hM.o (c_gone2 (d := d + 5) (h := x.toInt.toNat) (dd := z.toInt.toNat) (y := y) _ _ hM h1x h1H hd1 (by omega)) (by omega) rfl (Nat.le_of_ble_eq_true rfl) ?_
          refine V.pV (as := [_, _]) (pc := 59) dX12_shows_59 lX12_349 bX12_markAt nX12_markAt (ci := 11) rfl eX12_markAt hM.o (c_markAt (d := d + 3) (h := x.toInt.toNat) (go := goN z.toInt.toNat y.2.2.1) (y := y) _ _ hM h1x h1H rfl (Nat.le_trans hgo (by omega))) (by omega) rfl (Nat.le_of_ble_eq_true rfl) ?_
          refine V.goto 94 (pc := 62) dX12_shows_62 (by decide) ?_
          exact V.iret (pc := 94) dX12_shows_94 rfl ⟨by rw [s_shows]; simp only [e1y]; rw [if_pos qd, if_pos w0, iI_nat]; rfl, rfl, rfl, rfl, hf, Frm.rf, hR⟩
      · have qw := bi_eq.mp h29
        refine V.iconst (v := (-1)) (pc := 32) dX12_shows_32 (by decide) ?_
        exact V.iret (pc := 33) dX12_shows_33 rfl ⟨by rw [s_shows]; simp only [e1y]; rw [if_pos qd, if_neg (by omega), if_neg (by omega), if_neg (by omega)]; rfl, rfl, rfl, rfl, hf, Frm.rf, hR⟩
