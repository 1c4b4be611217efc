-- the class: wrong
theorem l_wrX {g : gG} {d : Nat} {T : mT} {n : Nat} {I : mI} {J : mJ} {F : mF} {Q : mQ} {x h a b : Nat} {y : Hd} {A : Ab} {w : Int32} (hX : XS T F x) (hA : AbOK A) (hR : RepX T I J F x A) (hy : (hds (cor A))[h]? = some y) (ha : b ≤ 1000000) (kk : ∀ (I' : mI) (J' : mJ) (F' : mF), AkF x I J F I' J' F' → (w.toInt = 0 → fW (wrG A h y) a (b + 1 - a) = -1) → V g mX11_wrong (d + 7) Q 0 0 99 [some (.ref x), some (.int (nI h)), some (.int (nI a)), some (.int (nI b)), some (.int w), some (.ref (x + 1 + 8 + 2 * h)), some (.int (nI (cW (wrG A h y) a (b + 1 - a)))), some (.int (nI (b + 1)))] [] T n I' J' F') (kr : ∀ (I' : mI) (J' : mJ) (F' : mF) (j : Nat), AkF x I J F I' J' F' → w.toInt = 0 → j ≤ b → fW (wrG A h y) a (b + 1 - a) = (j : Int) → Q (some (.int (nI j))) T n I' J' F') : ∀ (t j : Nat) (I' : mI) (J' : mJ) (F' : mF), j + t = b + 1 → (a ≤ j ∧ AkF x I J F I' J' F' ∧ (w.toInt = 0 → fW (wrG A h y) a (j - a) = -1)) → V g mX11_wrong (d + 7) Q 0 0 64 [some (.ref x), some (.int (nI h)), some (.int (nI a)), some (.int (nI b)), some (.int w), some (.ref (x + 1 + 8 + 2 * h)), some (.int (nI (cW (wrG A h y) a (j - a)))), some (.int (nI j))] [] T n I' J' F' := by
  intro t
  induction t with
  | zero =>
    intro j I' J' F' hj hi
    obtain rfl : j = b + 1 := by omega
    refine V.iload (pc := 64) dX11_wrong_64 rfl ?_
    refine V.iload_n (pc := 66) dX11_wrong_66 rfl ?_
    refine V.icmp_gt 99 (pc := 67) dX11_wrong_67 (by decide) (fun h67 => ?_) (fun h67 => absurd (by rw [lt32, nI_toInt (by omega), nI_toInt (by omega)]; omega) h67)
    exact kk I' J' F' hi.2.1 hi.2.2
  | succ t ih =>
    intro j I' J' F' hj hi
    refine V.iload (pc := 64) dX11_wrong_64 rfl ?_
    refine V.iload_n (pc := 66) dX11_wrong_66 rfl ?_
    refine V.icmp_gt 99 (pc := 67) dX11_wrong_67 (by decide) (fun h67 => absurd h67 (by rw [lt32, nI_toInt (by omega), nI_toInt (by omega)]; omega)) (fun h67 => ?_)
    refine V.aload_n (pc := 70) dX11_wrong_70 rfl ?_
    refine V.iload_n (pc := 71) dX11_wrong_71 rfl ?_
    refine V.aload (pc := 72) dX11_wrong_72 rfl ?_
    refine V.iload (pc := 74) dX11_wrong_74 rfl ?_
    refine V.invV0 (as := [_, _, _]) (pc := 76) dX11_wrong_76 lX11_182 bX11_isWrong nX11_isWrong (ci := 10) rfl eX11_isWrong hX.o (x_isWrong (d := d + 0) (h := h) (dd := j) _ _ (hi.2.1.xs hX) hA (hi.2.1.rep hR hA) hy rfl rfl (by omega)) (by omega) rfl (Nat.le_of_ble_eq_true rfl) ?_
    rintro _ _ _ I2 J2 F2 ⟨rfl, rfl, rfl, f2⟩
    refine V.if_eq 93 (pc := 79) dX11_wrong_79 (by decide) (fun h79 => ?_) (fun h79 => ?_)
    · have hg : ¬ wrG A h y j = true := fun z => (bi_eq.mp h79) (of_decide_eq_true z)
      refine V.iinc1 (pc := 93) dX11_wrong_93 (by decide) rfl (st1_7 rfl) ?_
      refine V.goto 64 (pc := 96) dX11_wrong_96 (by decide) ?_
      rw [nI_1]
      have z0 := ih (j + 1) _ _ _ (by omega) ⟨by omega, hi.2.1.tr f2, fun w0 => ?_⟩
      · rw [cW_no hi.1 hg] at z0
        skip
        exact z0
      · have z1 := fW_no (hi.2.2 w0) (by rw [show a + (j - a) = j by omega]; exact hg)
        rw [show j + 1 - a = (j - a) + 1 by omega]
        exact z1
    · have hg : wrG A h y j = true := decide_eq_true (bi_ne.mp h79)
      refine V.iload (pc := 82) dX11_wrong_82 rfl ?_
      refine V.if_ne 90 (pc := 84) dX11_wrong_84 (by decide) (fun h84 => ?_) (fun h84 => ?_)
      · have qw : ¬ w.toInt = 0 := fun z => h84 ((eq32 _ _).mpr z)
        refine V.iinc1 (pc := 90) dX11_wrong_90 (by decide) rfl (st1_6 rfl) ?_
        refine V.iinc1 (pc := 93) dX11_wrong_93 (by decide) rfl (st1_7 rfl) ?_
        refine V.goto 64 (pc := 96) dX11_wrong_96 (by decide) ?_
        rw [nI_1]
        have z0 := ih (j + 1) _ _ _ (by omega) ⟨by omega, hi.2.1.tr f2, fun w0 => ?_⟩
        · rw [cW_yes hi.1 hg] at z0
          rw [nI_1]
          exact z0
        · exact absurd w0 qw
      · have qw : w.toInt = 0 := by rw [h84]; rfl
        refine V.iload (pc := 87) dX11_wrong_87 rfl ?_
        exact V.iret (pc := 89) dX11_wrong_89 rfl (kr _ _ _ j (hi.2.1.tr f2) qw (by omega) (by have z1 := fW_hit (hi.2.2 qw) (by rw [show a + (j - a) = j by omega]; exact hg) (b + 1 - a) (by omega); rw [show a + (j - a) = j by omega] at z1; exact z1))
theorem y_wrong {g : gG} {d : Nat} {T : mT} {n : Nat} {I : mI} {J : mJ} {F : mF} {x : Nat} {A : Ab} (v a b w : Int32) (hX : XS T F x) (hA : AbOK A) (hR : RepX T I J F x A)  : Ct g mX11_wrong (d + 7) [.ref x, .int v, .int a, .int b, .int w] 0 0 T n I J F (QX x T n I J F (some (.int (iI (s_wrong A v.toInt a.toInt b.toInt w.toInt)))) A) := by
  refine Ct.ofV (k := 3) (by decide) (Nat.le_of_ble_eq_true rfl) ?_
  show V g mX11_wrong (d + 7) _ 0 0 0 [some (.ref x), some (.int v), some (.int a), some (.int b), some (.int w), none, none, none] [] T n I J F
  have hTo := hX.s.o
  have hT9 := hX.o9
  have e0 : (0 : Int32).toInt = 0 := rfl
  have e1 : (1 : Int32).toInt = 1 := rfl
  have e5 : (5000 : Int32).toInt = 5000 := rfl
  refine V.aload_n (pc := 0) dX11_wrong_0 rfl ?_
  refine V.getR (pc := 1) dX11_wrong_1 fX11_10_10 rfl hX.o hX.f0 ?_
  refine V.iload_n (pc := 4) dX11_wrong_4 rfl ?_
  by_cases q1 : 0 ≤ v.toInt ∧ v.toInt < (hds (cor A)).length
  · obtain ⟨y1, hy1, e1y⟩ := hdAt_yes q1
    have h6 := hA.1.1
    have hY1 := hA.1.2.1 y1 (List.mem_of_getElem? hy1)
    have hW1 := hR.hd hy1
    have hN1 := hX.s.n (h := v.toInt.toNat) (by omega)
    have hTa1 := hN1.o
    have hv1 := nIx q1.1 rfl
    refine V.pV (as := [_]) (pc := 5) dX11_wrong_5 lX11_95 bX8_handAt nX8_handAt (ci := 7) rfl eX8_handAt (by assumption) (x_handAtY (d := d + 6) (k := (hds (cor A)).length) _ hX.s hR.h2 hA.1.1 q1) (by omega) rfl (Nat.le_of_ble_eq_true rfl) ?_
    refine V.as (pc := 8) dX11_wrong_8 (by decide) (st1_5 rfl) ?_
    refine V.aload (pc := 10) dX11_wrong_10 rfl ?_
    refine V.ifnull (pc := 12) dX11_wrong_12 ?_
    refine V.iload_n (pc := 15) dX11_wrong_15 rfl ?_
    refine V.pS (as := [_]) (pc := 16) dX11_wrong_16 lX11_173 bX11_isDay sX11_isDay (x_isDay (d := d + 6) _) (by omega) rfl (Nat.le_of_ble_eq_true rfl) ?_
    refine V.if_eq 40 (pc := 19) dX11_wrong_19 (by decide) (fun h19 => ?_) (fun h19 => ?_)
    · have qa := bi_eq.mp h19
      refine V.iconst (v := (-1)) (pc := 40) dX11_wrong_40 (by decide) ?_
      exact V.iret (pc := 41) dX11_wrong_41 rfl (QX.q hX hR (by rw [s_wrong]; simp only [e1y]; rw [if_neg (show ¬ (((0 ≤ a.toInt ∧ a.toInt ≤ 1000000) ∧ (0 ≤ b.toInt ∧ b.toInt ≤ 1000000)) ∧ ((0 ≤ b.toInt - a.toInt ∧ b.toInt - a.toInt ≤ 5000) ∧ (0 ≤ w.toInt ∧ w.toInt ≤ 1))) by omega)]; rfl))
    · have qa := bi_ne.mp h19
      refine V.iload_n (pc := 22) dX11_wrong_22 rfl ?_
      refine V.pS (as := [_]) (pc := 23) dX11_wrong_23 lX11_173 bX11_isDay sX11_isDay (x_isDay (d := d + 6) _) (by omega) rfl (Nat.le_of_ble_eq_true rfl) ?_
      refine V.if_eq 40 (pc := 26) dX11_wrong_26 (by decide) (fun h26 => ?_) (fun h26 => ?_)
      · have qb := bi_eq.mp h26
        refine V.iconst (v := (-1)) (pc := 40) dX11_wrong_40 (by decide) ?_
        exact V.iret (pc := 41) dX11_wrong_41 rfl (QX.q hX hR (by rw [s_wrong]; simp only [e1y]; rw [if_neg (show ¬ (((0 ≤ a.toInt ∧ a.toInt ≤ 1000000) ∧ (0 ≤ b.toInt ∧ b.toInt ≤ 1000000)) ∧ ((0 ≤ b.toInt - a.toInt ∧ b.toInt - a.toInt ≤ 5000) ∧ (0 ≤ w.toInt ∧ w.toInt ≤ 1))) by omega)]; rfl))
      · have qb := bi_ne.mp h26
        have es : (b - a).toInt = b.toInt - a.toInt := by
          rw [show b - a = iI (b.toInt - a.toInt) from by rw [← iI_sub, ← iI_of, ← iI_of]]
          exact iI_toInt (by omega) (by omega)
        refine V.iload (pc := 29) dX11_wrong_29 rfl ?_
        refine V.if_lt 40 (pc := 31) dX11_wrong_31 (by decide) (fun h31 => ?_) (fun h31 => ?_)
        · rw [lt32] at h31
          refine V.iconst (v := (-1)) (pc := 40) dX11_wrong_40 (by decide) ?_
          exact V.iret (pc := 41) dX11_wrong_41 rfl (QX.q hX hR (by rw [s_wrong]; simp only [e1y]; rw [if_neg (show ¬ (((0 ≤ a.toInt ∧ a.toInt ≤ 1000000) ∧ (0 ≤ b.toInt ∧ b.toInt ≤ 1000000)) ∧ ((0 ≤ b.toInt - a.toInt ∧ b.toInt - a.toInt ≤ 5000) ∧ (0 ≤ w.toInt ∧ w.toInt ≤ 1))) by omega)]; rfl))
        · rw [lt32] at h31
          refine V.iload (pc := 34) dX11_wrong_34 rfl ?_
          refine V.iconst (v := 1) (pc := 36) dX11_wrong_36 (by decide) ?_
          refine V.icmp_le 42 (pc := 37) dX11_wrong_37 (by decide) (fun h37 => ?_) (fun h37 => ?_)
          · rw [le32] at h37
            refine V.iload_n (pc := 42) dX11_wrong_42 rfl ?_
            refine V.iload_n (pc := 43) dX11_wrong_43 rfl ?_
            refine V.icmp_lt 56 (pc := 44) dX11_wrong_44 (by decide) (fun h44 => ?_) (fun h44 => ?_)
            · rw [lt32] at h44
              refine V.iconst (v := (-1)) (pc := 56) dX11_wrong_56 (by decide) ?_
              exact V.iret (pc := 57) dX11_wrong_57 rfl (QX.q hX hR (by rw [s_wrong]; simp only [e1y]; rw [if_neg (show ¬ (((0 ≤ a.toInt ∧ a.toInt ≤ 1000000) ∧ (0 ≤ b.toInt ∧ b.toInt ≤ 1000000)) ∧ ((0 ≤ b.toInt - a.toInt ∧ b.toInt - a.toInt ≤ 5000) ∧ (0 ≤ w.toInt ∧ w.toInt ≤ 1))) by omega)]; rfl))
            · rw [lt32] at h44
              refine V.iload_n (pc := 47) dX11_wrong_47 rfl ?_
              refine V.iload_n (pc := 48) dX11_wrong_48 rfl ?_
              refine V.isub (pc := 49) dX11_wrong_49 ?_
              refine V.sipush (v := 5000) (pc := 50) dX11_wrong_50 (by decide) ?_
              refine V.icmp_le 58 (pc := 53) dX11_wrong_53 (by decide) (fun h53 => ?_) (fun h53 => ?_)
              · rw [le32, es] at h53
                have ha1 := nIx (x := a) qa.1 rfl
                have hb1 := nIx (x := b) qb.1 rfl
                refine V.iconst (v := 0) (pc := 58) dX11_wrong_58 (by decide) ?_
                refine V.is (pc := 59) dX11_wrong_59 (by decide) (st1_6 rfl) ?_
                refine V.iload_n (pc := 61) dX11_wrong_61 rfl ?_
                refine V.is (pc := 62) dX11_wrong_62 (by decide) (st1_7 rfl) ?_
                conv => arg 8; rw [hv1, ha1, hb1, show (0 : Int32) = nI (cW (wrG A v.toInt.toNat y1) a.toInt.toNat (a.toInt.toNat - a.toInt.toNat)) from by rw [Nat.sub_self]; rfl]
                rw [show (nI v.toInt.toNat).toInt.toNat = v.toInt.toNat from by rw [← hv1]]
                refine l_wrX (h := v.toInt.toNat) (a := a.toInt.toNat) (b := b.toInt.toNat) (y := y1) (w := w) hX hA hR hy1 (by omega) ?kk ?kr (b.toInt.toNat + 1 - a.toInt.toNat) a.toInt.toNat _ _ _ (by omega) ⟨Nat.le_refl _, AkF.rf, fun _ => by rw [Nat.sub_self]; rfl⟩
                case kr =>
                  intro I2 J2 F2 j f2 q0 hj e0
                  exact f2.qx hX hA hR (by rw [s_wrong]; simp only [e1y]; rw [if_pos (show ((0 ≤ a.toInt ∧ a.toInt ≤ 1000000) ∧ (0 ≤ b.toInt ∧ b.toInt ≤ 1000000)) ∧ ((0 ≤ b.toInt - a.toInt ∧ b.toInt - a.toInt ≤ 5000) ∧ (0 ≤ w.toInt ∧ w.toInt ≤ 1)) by omega), if_pos q0, e0, iI_nat])
                intro I2 J2 F2 f2 hw2
                refine V.iload (pc := 99) dX11_wrong_99 rfl ?_
                refine V.if_ne 108 (pc := 101) dX11_wrong_101 (by decide) (fun h101 => ?_) (fun h101 => ?_)
                · have qw : ¬ w.toInt = 0 := fun z => h101 ((eq32 _ _).mpr z)
                  refine V.iload (pc := 108) dX11_wrong_108 rfl ?_
                  exact V.iret (pc := 110) dX11_wrong_110 rfl (f2.qx hX hA hR (by rw [s_wrong]; simp only [e1y]; rw [if_pos (show ((0 ≤ a.toInt ∧ a.toInt ≤ 1000000) ∧ (0 ≤ b.toInt ∧ b.toInt ≤ 1000000)) ∧ ((0 ≤ b.toInt - a.toInt ∧ b.toInt - a.toInt ≤ 5000) ∧ (0 ≤ w.toInt ∧ w.toInt ≤ 1)) by omega), if_neg qw, iI_nat]))
                · have qw : w.toInt = 0 := by rw [h101]; rfl
                  refine V.iconst (v := (-1)) (pc := 104) dX11_wrong_104 (by decide) ?_
                  refine V.goto 110 (pc := 105) dX11_wrong_105 (by decide) ?_
                  exact V.iret (pc := 110) dX11_wrong_110 rfl (f2.qx hX hA hR (by rw [s_wrong]; simp only [e1y]; rw [if_pos (show ((0 ≤ a.toInt ∧ a.toInt ≤ 1000000) ∧ (0 ≤ b.toInt ∧ b.toInt ≤ 1000000)) ∧ ((0 ≤ b.toInt - a.toInt ∧ b.toInt - a.toInt ≤ 5000) ∧ (0 ≤ w.toInt ∧ w.toInt ≤ 1)) by omega), if_pos qw, hw2 qw]; rfl))
              · rw [le32, es] at h53
                refine V.iconst (v := (-1)) (pc := 56) dX11_wrong_56 (by decide) ?_
                exact V.iret (pc := 57) dX11_wrong_57 rfl (QX.q hX hR (by rw [s_wrong]; simp only [e1y]; rw [if_neg (show ¬ (((0 ≤ a.toInt ∧ a.toInt ≤ 1000000) ∧ (0 ≤ b.toInt ∧ b.toInt ≤ 1000000)) ∧ ((0 ≤ b.toInt - a.toInt ∧ b.toInt - a.toInt ≤ 5000) ∧ (0 ≤ w.toInt ∧ w.toInt ≤ 1))) by omega)]; rfl))
          · rw [le32] at h37
            refine V.iconst (v := (-1)) (pc := 40) dX11_wrong_40 (by decide) ?_
            exact V.iret (pc := 41) dX11_wrong_41 rfl (QX.q hX hR (by rw [s_wrong]; simp only [e1y]; rw [if_neg (show ¬ (((0 ≤ a.toInt ∧ a.toInt ≤ 1000000) ∧ (0 ≤ b.toInt ∧ b.toInt ≤ 1000000)) ∧ ((0 ≤ b.toInt - a.toInt ∧ b.toInt - a.toInt ≤ 5000) ∧ (0 ≤ w.toInt ∧ w.toInt ≤ 1))) by omega)]; rfl))
  · have e1y := hdAt_no q1
    refine V.pV (as := [_]) (pc := 5) dX11_wrong_5 lX11_95 bX8_handAt nX8_handAt (ci := 7) rfl eX8_handAt (by assumption) (x_handAtN (d := d + 6) (k := (hds (cor A)).length) _ hX.s hR.h2 hA.1.1 q1) (by omega) rfl (Nat.le_of_ble_eq_true rfl) ?_
    refine V.ns (pc := 8) dX11_wrong_8 (by decide) (st1_5 rfl) ?_
    refine V.nload (pc := 10) dX11_wrong_10 rfl ?_
    refine V.ifnullN 40 (pc := 12) dX11_wrong_12 (by decide) ?_
    refine V.iconst (v := (-1)) (pc := 40) dX11_wrong_40 (by decide) ?_
    exact V.iret (pc := 41) dX11_wrong_41 rfl (QX.q hX hR (by rw [s_wrong]; simp only [e1y]; rfl))
