-- wrong
def cW (g : Nat → Bool) (a : Nat) : Nat → Nat
  | 0 => 0
  | k + 1 => cW g a k + (if g (a + k) = true then 1 else 0)
def fW (g : Nat → Bool) (a : Nat) : Nat → Int
  | 0 => -1
  | k + 1 => if fW g a k = -1 then (if g (a + k) = true then ((a + k : Nat) : Int) else -1) else fW g a k
theorem fW_hit {g : Nat → Bool} {a k : Nat} (h : fW g a k = -1) (hg : g (a + k) = true) : ∀ N, k < N → fW g a N = ((a + k : Nat) : Int) := by
  intro N
  induction N with
  | zero => intro h2; omega
  | succ N ih =>
    intro h2
    by_cases q : k = N
    · subst q; rw [fW, if_pos h, if_pos hg]
    · rw [fW, ih (by omega), if_neg (by omega)]
theorem fW_no {g : Nat → Bool} {a k : Nat} (h : fW g a k = -1) (hg : ¬ g (a + k) = true) : fW g a (k + 1) = -1 := by rw [fW, if_pos h, if_neg hg]
def wrG (A : Ab) (h : Nat) (y : Hd) : Nat → Bool := fun dd => decide (wrP (cor A) h y dd)
def s_wrong (A : Ab) (h a b w : Int) : Int := match hdAt (cor A) h with
  | none => -1
  | some y => if ((0 ≤ a ∧ a ≤ 1000000) ∧ (0 ≤ b ∧ b ≤ 1000000)) ∧ ((0 ≤ b - a ∧ b - a ≤ 5000) ∧ (0 ≤ w ∧ w ≤ 1)) then (if w = 0 then fW (wrG A h.toNat y) a.toNat (b.toNat + 1 - a.toNat) else ((cW (wrG A h.toNat y) a.toNat (b.toNat + 1 - a.toNat) : Nat) : Int)) else -1
theorem cW_no {g : Nat → Bool} {a j : Nat} (h : a ≤ j) (hg : ¬ g j = true) : cW g a (j + 1 - a) = cW g a (j - a) := by rw [show j + 1 - a = (j - a) + 1 by omega, cW, show a + (j - a) = j by omega, if_neg hg]; rfl
theorem cW_yes {g : Nat → Bool} {a j : Nat} (h : a ≤ j) (hg : g j = true) : cW g a (j + 1 - a) = cW g a (j - a) + 1 := by rw [show j + 1 - a = (j - a) + 1 by omega, cW, show a + (j - a) = j by omega, if_pos hg]
theorem l_wr {g : gG} {d : Nat} {T : mT} {n : Nat} {I : mI} {J : mJ} {F : mF} {Q : mQ} {m h a b : Nat} {y : Hd} {A : Ab} {w : Int32} (hM : MS T F m) (hA : AbOK A) (hR : RepM I J m A) (hy : (hds (cor A))[h]? = some y) (ha : b ≤ 1000000) (kk : ∀ (I' : mI) (J' : mJ), ShF m I J I' J' → (w.toInt = 0 → fW (wrG A h y) a (b + 1 - a) = -1) → V g mX12_wrong (d + 7) Q 0 0 93 [some (.ref m), some (.int (nI h)), some (.int (nI a)), some (.int (nI b)), some (.int w), some (.int (nI (cW (wrG A h y) a (b + 1 - a)))), some (.int (nI (b + 1)))] [] T n I' J' F) (kr : ∀ (I' : mI) (J' : mJ) (j : Nat), ShF m I J I' J' → w.toInt = 0 → j ≤ b → fW (wrG A h y) a (b + 1 - a) = (j : Int) → Q (some (.int (nI j))) T n I' J' F) : ∀ (t j : Nat) (I' : mI) (J' : mJ), j + t = b + 1 → (a ≤ j ∧ ShF m I J I' J' ∧ (w.toInt = 0 → fW (wrG A h y) a (j - a) = -1)) → V g mX12_wrong (d + 7) Q 0 0 60 [some (.ref m), some (.int (nI h)), some (.int (nI a)), some (.int (nI b)), some (.int w), some (.int (nI (cW (wrG A h y) a (j - a)))), some (.int (nI j))] [] T n I' J' F := by
  intro t
  induction t with
  | zero =>
    intro j I' J' hj hi
    obtain rfl : j = b + 1 := by omega
    refine V.iload (pc := 60) dX12_wrong_60 rfl ?_
    refine V.iload_n (pc := 62) dX12_wrong_62 rfl ?_
    refine V.icmp_gt 93 (pc := 63) dX12_wrong_63 (by decide) (fun h63 => ?_) (fun h63 => absurd (by rw [lt32, nI_toInt (by omega), nI_toInt (by omega)]; omega) h63)
    exact kk I' J' hi.2.1 hi.2.2
  | succ t ih =>
    intro j I' J' hj hi
    have hR2 := hi.2.1.rep hR
    refine V.iload (pc := 60) dX12_wrong_60 rfl ?_
    refine V.iload_n (pc := 62) dX12_wrong_62 rfl ?_
    refine V.icmp_gt 93 (pc := 63) dX12_wrong_63 (by decide) (fun h63 => absurd h63 (by rw [lt32, nI_toInt (by omega), nI_toInt (by omega)]; omega)) (fun h63 => ?_)
    refine V.aload_n (pc := 66) dX12_wrong_66 rfl ?_
    refine V.iload_n (pc := 67) dX12_wrong_67 rfl ?_
    refine V.iload (pc := 68) dX12_wrong_68 rfl ?_
    refine V.invV0 (as := [_, _]) (pc := 70) dX12_wrong_70 lX12_355 bX12_isWrong nX12_isWrong (ci := 11) rfl eX12_isWrong hM.o (c_isWrong (d := d + 0) (h := h) (dd := j) _ _ hM hA hR2 hy rfl rfl (by omega)) (by omega) rfl (Nat.le_of_ble_eq_true rfl) ?_
    rintro _ _ _ I2 J2 _ ⟨rfl, rfl, rfl, rfl, f2⟩
    refine V.if_eq 87 (pc := 73) dX12_wrong_73 (by decide) (fun h73 => ?_) (fun h73 => ?_)
    · have hg : ¬ wrG A h y j = true := fun z => (bi_eq.mp h73) (of_decide_eq_true z)
      refine V.iinc1 (pc := 87) dX12_wrong_87 (by decide) rfl (st1_6 rfl) ?_
      refine V.goto 60 (pc := 90) dX12_wrong_90 (by decide) ?_
      rw [nI_1]
      have z0 := ih (j + 1) _ _ (by omega) ⟨by omega, hi.2.1.tr f2, fun w0 => ?_⟩
      · rw [cW_no hi.1 hg] at z0
        skip
        exact z0
      · have z1 := fW_no (hi.2.2 w0) (by rw [show a + (j - a) = j by omega]; exact hg)
        rw [show j + 1 - a = (j - a) + 1 by omega]
        exact z1
    · have hg : wrG A h y j = true := decide_eq_true (bi_ne.mp h73)
      refine V.iload (pc := 76) dX12_wrong_76 rfl ?_
      refine V.if_ne 84 (pc := 78) dX12_wrong_78 (by decide) (fun h78 => ?_) (fun h78 => ?_)
      · have qw : ¬ w.toInt = 0 := fun z => h78 ((eq32 _ _).mpr z)
        refine V.iinc1 (pc := 84) dX12_wrong_84 (by decide) rfl (st1_5 rfl) ?_
        refine V.iinc1 (pc := 87) dX12_wrong_87 (by decide) rfl (st1_6 rfl) ?_
        refine V.goto 60 (pc := 90) dX12_wrong_90 (by decide) ?_
        rw [nI_1]
        have z0 := ih (j + 1) _ _ (by omega) ⟨by omega, hi.2.1.tr f2, fun w0 => ?_⟩
        · rw [cW_yes hi.1 hg] at z0
          rw [nI_1]
          exact z0
        · exact absurd w0 qw
      · have qw : w.toInt = 0 := by rw [h78]; rfl
        refine V.iload (pc := 81) dX12_wrong_81 rfl ?_
        exact V.iret (pc := 83) dX12_wrong_83 rfl (kr _ _ j (hi.2.1.tr f2) qw (by omega) (by have z1 := fW_hit (hi.2.2 qw) (by rw [show a + (j - a) = j by omega]; exact hg) (b + 1 - a) (by omega); rw [show a + (j - a) = j by omega] at z1; exact z1))
theorem p_wrong {g : gG} {d : Nat} {T : mT} {n : Nat} {I : mI} {J : mJ} {F : mF} {m : Nat} {A : Ab} (x a b w : Int32) (hM : MS T F m) (hA : AbOK A) (hR : RepM I J m A)  : Ct g mX12_wrong (d + 7) [.ref m, .int x, .int a, .int b, .int w] 0 0 T n I J F (QM m T n I J F (some (.int (iI (s_wrong A x.toInt a.toInt b.toInt w.toInt)))) A) := by
  refine Ct.ofV (k := 2) (by decide) (Nat.le_of_ble_eq_true rfl) ?_
  show V g mX12_wrong (d + 7) _ 0 0 0 [some (.ref m), some (.int x), some (.int a), some (.int b), some (.int w), none, none] [] T n I J F
  have h6 := hA.1.1
  refine V.aload_n (pc := 0) dX12_wrong_0 rfl ?_
  refine V.iconst (v := 0) (pc := 1) dX12_wrong_1 (by decide) ?_
  refine V.putI (pc := 2) dX12_wrong_2 fX12_88_11 (fun r h => by cases h; exact Or.inl rfl) rfl hM.o ?_
  refine V.thr hR (fun I1 hR1 hf => ?_)
  clear hR
  have hR := hR1
  clear hR1
  refine V.aload_n (pc := 5) dX12_wrong_5 rfl ?_
  refine V.iload_n (pc := 6) dX12_wrong_6 rfl ?_
  refine V.pV (as := [_]) (pc := 7) dX12_wrong_7 lX12_111 bX12_isHand nX12_isHand (ci := 11) rfl eX12_isHand hM.o (c_isHand (d := d + 5) (k := (hds (cor A)).length) _ hM (by omega) hR.h0) (by omega) rfl (Nat.le_of_ble_eq_true rfl) ?_
  refine V.if_eq 52 (pc := 10) dX12_wrong_10 (by decide) (fun h10 => ?_) (fun h10 => ?_)
  · have q := bi_eq.mp h10
    have ey := hdAt_no q
    refine V.iconst (v := (-1)) (pc := 52) dX12_wrong_52 (by decide) ?_
    exact V.iret (pc := 53) dX12_wrong_53 rfl ⟨by rw [s_wrong]; simp only [ey]; rfl, rfl, rfl, rfl, hf, Frm.rf, hR⟩
  · have q := bi_ne.mp h10
    obtain ⟨y, h1y, e1y⟩ := hdAt_yes q
    have h1x := nIx q.1 rfl
    have h1H := hR.hd hA h1y
    have h1b := rate_bd h1H.2.2 y.2.2.2.length
    rw [List.take_length] at h1b
    refine V.iload_n (pc := 13) dX12_wrong_13 rfl ?_
    refine V.pS (as := [_]) (pc := 14) dX12_wrong_14 lX12_318 bX12_isDay sX12_isDay (c_isDay (d := d + 5) _) (by omega) rfl (Nat.le_of_ble_eq_true rfl) ?_
    refine V.if_eq 52 (pc := 17) dX12_wrong_17 (by decide) (fun h17 => ?_) (fun h17 => ?_)
    · have qa := bi_eq.mp h17
      refine V.iconst (v := (-1)) (pc := 52) dX12_wrong_52 (by decide) ?_
      exact V.iret (pc := 53) dX12_wrong_53 rfl ⟨by rw [s_wrong]; simp only [e1y]; rw [if_neg (show ¬ (((0 ≤ a.toInt ∧ a.toInt ≤ 1000000) ∧ (0 ≤ b.toInt ∧ b.toInt ≤ 1000000)) ∧ ((0 ≤ b.toInt - a.toInt ∧ b.toInt - a.toInt ≤ 5000) ∧ (0 ≤ w.toInt ∧ w.toInt ≤ 1))) by omega)]; rfl, rfl, rfl, rfl, hf, Frm.rf, hR⟩
    · have qa := bi_ne.mp h17
      refine V.iload_n (pc := 20) dX12_wrong_20 rfl ?_
      refine V.pS (as := [_]) (pc := 21) dX12_wrong_21 lX12_318 bX12_isDay sX12_isDay (c_isDay (d := d + 5) _) (by omega) rfl (Nat.le_of_ble_eq_true rfl) ?_
      refine V.if_eq 52 (pc := 24) dX12_wrong_24 (by decide) (fun h24 => ?_) (fun h24 => ?_)
      · have qb := bi_eq.mp h24
        refine V.iconst (v := (-1)) (pc := 52) dX12_wrong_52 (by decide) ?_
        exact V.iret (pc := 53) dX12_wrong_53 rfl ⟨by rw [s_wrong]; simp only [e1y]; rw [if_neg (show ¬ (((0 ≤ a.toInt ∧ a.toInt ≤ 1000000) ∧ (0 ≤ b.toInt ∧ b.toInt ≤ 1000000)) ∧ ((0 ≤ b.toInt - a.toInt ∧ b.toInt - a.toInt ≤ 5000) ∧ (0 ≤ w.toInt ∧ w.toInt ≤ 1))) by omega)]; rfl, rfl, rfl, rfl, hf, Frm.rf, hR⟩
      · have qb := bi_ne.mp h24
        have es : (b - a).toInt = b.toInt - a.toInt := by
          rw [show b - a = iI (b.toInt - a.toInt) from by rw [← iI_sub, ← iI_of, ← iI_of]]
          exact iI_toInt (by omega) (by omega)
        refine V.iload_n (pc := 27) dX12_wrong_27 rfl ?_
        refine V.iload_n (pc := 28) dX12_wrong_28 rfl ?_
        refine V.isub (pc := 29) dX12_wrong_29 ?_
        refine V.i2l (pc := 30) dX12_wrong_30 ?_
        refine V.lconst (v := 0) (pc := 31) dX12_wrong_31 (by decide) ?_
        refine V.ldc2 (pc := 32) dX12_wrong_32 qX12_359 ?_
        refine V.pS (as := [_, _, _]) (pc := 35) dX12_wrong_35 lX12_98 bX12_in sX12_in (c_in (d := d + 6) _ _ _) (by omega) rfl (Nat.le_of_ble_eq_true rfl) ?_
        rw [bi_c (in64 (b - a) 0 5000 0 5000 rfl rfl)]
        refine V.if_eq 52 (pc := 38) dX12_wrong_38 (by decide) (fun h38 => ?_) (fun h38 => ?_)
        · have qs := bi_eq.mp h38
          rw [es] at qs
          refine V.iconst (v := (-1)) (pc := 52) dX12_wrong_52 (by decide) ?_
          exact V.iret (pc := 53) dX12_wrong_53 rfl ⟨by rw [s_wrong]; simp only [e1y]; rw [if_neg (show ¬ (((0 ≤ a.toInt ∧ a.toInt ≤ 1000000) ∧ (0 ≤ b.toInt ∧ b.toInt ≤ 1000000)) ∧ ((0 ≤ b.toInt - a.toInt ∧ b.toInt - a.toInt ≤ 5000) ∧ (0 ≤ w.toInt ∧ w.toInt ≤ 1))) by omega)]; rfl, rfl, rfl, rfl, hf, Frm.rf, hR⟩
        · have qs := bi_ne.mp h38
          rw [es] at qs
          refine V.iload (pc := 41) dX12_wrong_41 rfl ?_
          refine V.i2l (pc := 43) dX12_wrong_43 ?_
          refine V.lconst (v := 0) (pc := 44) dX12_wrong_44 (by decide) ?_
          refine V.lconst (v := 1) (pc := 45) dX12_wrong_45 (by decide) ?_
          refine V.pS (as := [_, _, _]) (pc := 46) dX12_wrong_46 lX12_98 bX12_in sX12_in (c_in (d := d + 6) _ _ _) (by omega) rfl (Nat.le_of_ble_eq_true rfl) ?_
          rw [bi_c (in64 w 0 1 0 1 rfl rfl)]
          refine V.if_ne 54 (pc := 49) dX12_wrong_49 (by decide) (fun h49 => ?_) (fun h49 => ?_)
          · have qk := bi_ne.mp h49
            have ha1 := nIx (x := a) qa.1 rfl
            have hb1 := nIx (x := b) qb.1 rfl
            refine V.iconst (v := 0) (pc := 54) dX12_wrong_54 (by decide) ?_
            refine V.is (pc := 55) dX12_wrong_55 (by decide) (st1_5 rfl) ?_
            refine V.iload_n (pc := 57) dX12_wrong_57 rfl ?_
            refine V.is (pc := 58) dX12_wrong_58 (by decide) (st1_6 rfl) ?_
            conv => arg 8; rw [h1x, ha1, hb1, show (0 : Int32) = nI (cW (wrG A x.toInt.toNat y) a.toInt.toNat (a.toInt.toNat - a.toInt.toNat)) from by rw [Nat.sub_self]; rfl]
            refine l_wr (h := x.toInt.toNat) (a := a.toInt.toNat) (b := b.toInt.toNat) (y := y) (w := w) hM hA hR h1y (by omega) ?kk ?kr (b.toInt.toNat + 1 - a.toInt.toNat) a.toInt.toNat _ _ (by omega) ⟨Nat.le_refl _, ShF.rf, fun _ => by rw [Nat.sub_self]; rfl⟩
            case kr =>
              intro I2 J2 j f2 q0 hj e0
              exact ⟨by rw [s_wrong]; simp only [e1y]; rw [if_pos (show ((0 ≤ a.toInt ∧ a.toInt ≤ 1000000) ∧ (0 ≤ b.toInt ∧ b.toInt ≤ 1000000)) ∧ ((0 ≤ b.toInt - a.toInt ∧ b.toInt - a.toInt ≤ 5000) ∧ (0 ≤ w.toInt ∧ w.toInt ≤ 1)) by omega), if_pos q0, e0, iI_nat], rfl, rfl, rfl, hf.trans f2.frm.1, f2.frm.2, f2.rep hR⟩
            intro I2 J2 f2 hw2
            refine V.iload (pc := 93) dX12_wrong_93 rfl ?_
            refine V.if_ne 102 (pc := 95) dX12_wrong_95 (by decide) (fun h95 => ?_) (fun h95 => ?_)
            · have qw : ¬ w.toInt = 0 := fun z => h95 ((eq32 _ _).mpr z)
              refine V.iload (pc := 102) dX12_wrong_102 rfl ?_
              exact V.iret (pc := 104) dX12_wrong_104 rfl ⟨by rw [s_wrong]; simp only [e1y]; rw [if_pos (show ((0 ≤ a.toInt ∧ a.toInt ≤ 1000000) ∧ (0 ≤ b.toInt ∧ b.toInt ≤ 1000000)) ∧ ((0 ≤ b.toInt - a.toInt ∧ b.toInt - a.toInt ≤ 5000) ∧ (0 ≤ w.toInt ∧ w.toInt ≤ 1)) by omega), if_neg qw, iI_nat], rfl, rfl, rfl, hf.trans f2.frm.1, f2.frm.2, f2.rep hR⟩
            · have qw : w.toInt = 0 := by rw [h95]; rfl
              refine V.iconst (v := (-1)) (pc := 98) dX12_wrong_98 (by decide) ?_
              refine V.goto 104 (pc := 99) dX12_wrong_99 (by decide) ?_
              exact V.iret (pc := 104) dX12_wrong_104 rfl ⟨by rw [s_wrong]; simp only [e1y]; rw [if_pos (show ((0 ≤ a.toInt ∧ a.toInt ≤ 1000000) ∧ (0 ≤ b.toInt ∧ b.toInt ≤ 1000000)) ∧ ((0 ≤ b.toInt - a.toInt ∧ b.toInt - a.toInt ≤ 5000) ∧ (0 ≤ w.toInt ∧ w.toInt ≤ 1)) by omega), if_pos qw, hw2 qw]; rfl, rfl, rfl, rfl, hf.trans f2.frm.1, f2.frm.2, f2.rep hR⟩
          · have qk := bi_eq.mp h49
            refine V.iconst (v := (-1)) (pc := 52) dX12_wrong_52 (by decide) ?_
            exact V.iret (pc := 53) dX12_wrong_53 rfl ⟨by rw [s_wrong]; simp only [e1y]; rw [if_neg (show ¬ (((0 ≤ a.toInt ∧ a.toInt ≤ 1000000) ∧ (0 ≤ b.toInt ∧ b.toInt ≤ 1000000)) ∧ ((0 ≤ b.toInt - a.toInt ∧ b.toInt - a.toInt ≤ 5000) ∧ (0 ≤ w.toInt ∧ w.toInt ≤ 1))) by omega)]; rfl, rfl, rfl, rfl, hf, Frm.rf, hR⟩
