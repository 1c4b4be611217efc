theorem l_d_X3 {g : gG} {d : Nat} {T : mT} {n : Nat} {I : mI} {J : mJ} {F : mF} {Q : mQ} {σ : Type} {R : σ → mI → mJ → Prop} {stp : Nat → Nat → σ → σ} {u oo : Nat} {s : List Nat} {b0 : σ} {a b x : Nat} (hSe : SrS 3 T F oo) (hS : SS T F u) (hs : StkU I u s) (hRt : ∀ (b : σ) (I2 : mI) (J2 : mJ) (k : Nat) (v : Int32), R b I2 J2 → R b (up2 I2 (oo + 1) k v) J2) (hRs : ∀ (b : σ) (I2 : mI) (J2 : mJ), R b I2 J2 → I2 u = I u ∧ I2 (u + 2) = I (u + 2)) (hu : u ≠ oo + 1 ∧ u + 2 ≠ oo + 1) (hW4 : ∀ (c : Nat) (b : σ) (I2 : mI) (J2 : mJ), v4 s.length c = true → R b I2 J2 → (∀ i, i < 4 → I2 (oo + 1) i = nI (dg 4 c i)) → ∀ d : Nat, Ct g mX3_weigh (d + 2) [.ref oo, .long (lN (drvN s 4 c)), .long (lN (drnN s 4 c)), .int 2, .int 4] 0 0 T n I2 J2 F (fun r' T' n' I' J' F' => r' = none ∧ T' = T ∧ n' = n ∧ F' = F ∧ R (stp 4 c b) I' J' ∧ I' (oo + 1) = I2 (oo + 1))) (hab : a < s.length ∧ b < s.length ∧ x < s.length ∧ a ≠ b ∧ a < x ∧ x ≠ b) (kk : ∀ (I' : mI) (J' : mJ), R (foldP (v4 s.length) (stp 4) (cod4 a b x s.length) b0) I' J' ∧ I' (oo + 1) 0 = nI a ∧ I' (oo + 1) 1 = nI b → V g mX5_goThroughSecondPairs (d + 3) Q 0 0 124 [some (.ref oo), some (.ref u), some (.int (nI a)), some (.int (nI b)), some (.int (nI x)), some (.long (lN (stT s a * stT s x))), none, some (.int (nI s.length))] [] T n I' J' F) : ∀ (t j : Nat) (I' : mI) (J' : mJ), j + t = s.length → (b < j ∧ R (foldP (v4 s.length) (stp 4) (cod4 a b x j) b0) I' J' ∧ I' (oo + 1) 0 = nI a ∧ I' (oo + 1) 1 = nI b) → V g mX5_goThroughSecondPairs (d + 3) Q 0 0 58 [some (.ref oo), some (.ref u), some (.int (nI a)), some (.int (nI b)), some (.int (nI x)), some (.long (lN (stT s a * stT s x))), none, some (.int (nI j))] [] T n I' J' F := by
  intro t
  induction t with
  | zero =>
    intro j I' J' hj hi
    obtain rfl : j = s.length := by omega
    have h12 := hs.1.1
    have hTu := hS.o
    obtain ⟨i1, i2, i3⟩ := hi.2
    obtain ⟨r1, r2⟩ := hRs _ _ _ i1
    have hs2 := hs.congr r1 r2
    refine V.iload (pc := 58) dX5_goThroughSecondPairs_58 rfl ?_
    refine V.aload_n (pc := 60) dX5_goThroughSecondPairs_60 rfl ?_
    refine V.getI (pc := 61) dX5_goThroughSecondPairs_61 fX5_22_7 rfl (by assumption) ?_
    rw [hs2.2.1]
    refine V.icmp_ge 124 (pc := 64) dX5_goThroughSecondPairs_64 (by decide) (fun h64 => ?_) (fun h64 => absurd (nI_le (Nat.le_refl _) (by omega)) h64)
    exact kk I' J' ⟨i1, i2, i3⟩
  | succ t ih =>
    intro j I' J' hj hi
    have h12 := hs.1.1
    have hTu := hS.o
    obtain ⟨i1, i2, i3⟩ := hi.2
    obtain ⟨r1, r2⟩ := hRs _ _ _ i1
    have hs2 := hs.congr r1 r2
    have hbj := hi.1
    have ba := stT_bd hs.1 (show a < s.length by omega)
    have bb := stT_bd hs.1 (show b < s.length by omega)
    have bx := stT_bd hs.1 (show x < s.length by omega)
    have bj := stT_bd hs.1 (show j < s.length by omega)
    refine V.iload (pc := 58) dX5_goThroughSecondPairs_58 rfl ?_
    refine V.aload_n (pc := 60) dX5_goThroughSecondPairs_60 rfl ?_
    refine V.getI (pc := 61) dX5_goThroughSecondPairs_61 fX5_22_7 rfl (by assumption) ?_
    rw [hs2.2.1]
    refine V.icmp_ge 124 (pc := 64) dX5_goThroughSecondPairs_64 (by decide) (fun h64 => absurd h64 (nI_ge (by omega) (by omega))) (fun h64 => ?_)
    refine V.iload (pc := 67) dX5_goThroughSecondPairs_67 rfl ?_
    refine V.iload_n (pc := 69) dX5_goThroughSecondPairs_69 rfl ?_
    refine V.icmp_eq 118 (pc := 70) dX5_goThroughSecondPairs_70 (by decide) (fun h70 => ?_) (fun h70 => ?_)
    · have h70i : j = a := (nI_eq (by omega) (by omega)).mp h70
      refine V.iinc1 (pc := 118) dX5_goThroughSecondPairs_118 (by decide) rfl (st1_7 rfl) ?_
      refine V.goto 58 (pc := 121) dX5_goThroughSecondPairs_121 (by decide) ?_
      rw [nI_1]
      exact ih (j + 1) I' J' (by omega) ⟨by omega, by rw [sk_y (by rw [h70i]; exact v4_ya h12 hab.1 hab.2.1 hab.2.2.1)]; exact i1, i2, i3⟩
    · have h70i : ¬ j = a := fun z => h70 (by rw [z])
      refine V.iload (pc := 73) dX5_goThroughSecondPairs_73 rfl ?_
      refine V.iload (pc := 75) dX5_goThroughSecondPairs_75 rfl ?_
      refine V.icmp_eq 118 (pc := 77) dX5_goThroughSecondPairs_77 (by decide) (fun h77 => ?_) (fun h77 => ?_)
      · have h77i : j = x := (nI_eq (by omega) (by omega)).mp h77
        refine V.iinc1 (pc := 118) dX5_goThroughSecondPairs_118 (by decide) rfl (st1_7 rfl) ?_
        refine V.goto 58 (pc := 121) dX5_goThroughSecondPairs_121 (by decide) ?_
        rw [nI_1]
        exact ih (j + 1) I' J' (by omega) ⟨by omega, by rw [sk_y (by rw [h77i]; exact v4_yx h12 hab.1 hab.2.1 hab.2.2.1)]; exact i1, i2, i3⟩
      · have h77i : ¬ j = x := fun z => h77 (by rw [z])
        have hv := v4_yes h12 hab.1 hab.2.1 hab.2.2.1 (show j < s.length by omega) hab.2.2.2.1 hab.2.2.2.2.1 hab.2.2.2.2.2 hbj h70i h77i
        have R3 := hRt _ _ _ 3 (nI j) (hRt _ _ _ 2 (nI x) i1)
        have hs3 : StkU (up2 (up2 I' (oo + 1) 2 (nI x)) (oo + 1) 3 (nI j)) u s := hs2.congr (by rw [up2_off hu.1, up2_off hu.1]) (by rw [up2_off hu.2, up2_off hu.2])
        have hC := fun d => hW4 (cod4 a b x j) _ _ _ hv R3 (dg_c4 (by omega) (by omega) (by omega) (by omega) (by rw [up2_ne (by omega), up2_ne (by omega)]; exact i2) (by rw [up2_ne (by omega), up2_ne (by omega)]; exact i3) (by rw [up2_ne (by omega), up2_same]) up2_same) d
        rw [(drv_c4 (by omega) (by omega) (by omega) (by omega)).1, (drv_c4 (by omega) (by omega) (by omega) (by omega)).2] at hC
        refine V.aload_n (pc := 80) dX5_goThroughSecondPairs_80 rfl ?_
        refine V.getR (pc := 81) dX5_goThroughSecondPairs_81 fX5_9_3 rfl hSe.o hSe.f0 ?_
        refine V.iconst (v := 2) (pc := 84) dX5_goThroughSecondPairs_84 (by decide) ?_
        refine V.iload (pc := 85) dX5_goThroughSecondPairs_85 rfl ?_
        refine V.iast' (k := 2) (pc := 87) dX5_goThroughSecondPairs_87 hSe.t0 rfl (by decide) (by decide) ?_
        refine V.aload_n (pc := 88) dX5_goThroughSecondPairs_88 rfl ?_
        refine V.getR (pc := 89) dX5_goThroughSecondPairs_89 fX5_9_3 rfl hSe.o hSe.f0 ?_
        refine V.iconst (v := 3) (pc := 92) dX5_goThroughSecondPairs_92 (by decide) ?_
        refine V.iload (pc := 93) dX5_goThroughSecondPairs_93 rfl ?_
        refine V.iast' (k := 3) (pc := 95) dX5_goThroughSecondPairs_95 hSe.t0 rfl (by decide) (by decide) ?_
        refine V.aload_n (pc := 96) dX5_goThroughSecondPairs_96 rfl ?_
        refine V.lload (pc := 97) dX5_goThroughSecondPairs_97 rfl ?_
        refine V.aload_n (pc := 99) dX5_goThroughSecondPairs_99 rfl ?_
        refine V.iload_n (pc := 100) dX5_goThroughSecondPairs_100 rfl ?_
        refine V.pV (as := [_]) (pc := 101) dX5_goThroughSecondPairs_101 lX5_27 bX8_wheelAt nX8_wheelAt (ci := 7) rfl eX8_wheelAt (by assumption) (x_wAt (d := d + 2) (u := u) (a := b) (s := s) _ hS hs3 rfl (by omega)) (by omega) rfl (Nat.le_of_ble_eq_true rfl) ?_
        refine V.i2l (pc := 104) dX5_goThroughSecondPairs_104 ?_
        rw [nI_l (by omega)]
        refine V.aload_n (pc := 105) dX5_goThroughSecondPairs_105 rfl ?_
        refine V.iload (pc := 106) dX5_goThroughSecondPairs_106 rfl ?_
        refine V.pV (as := [_]) (pc := 108) dX5_goThroughSecondPairs_108 lX5_27 bX8_wheelAt nX8_wheelAt (ci := 7) rfl eX8_wheelAt (by assumption) (x_wAt (d := d + 2) (u := u) (a := j) (s := s) _ hS hs3 rfl (by omega)) (by omega) rfl (Nat.le_of_ble_eq_true rfl) ?_
        refine V.i2l (pc := 111) dX5_goThroughSecondPairs_111 ?_
        rw [nI_l (by omega)]
        refine V.lmul (pc := 112) dX5_goThroughSecondPairs_112 ?_
        rw [lN_mul]
        refine V.iconst (v := 2) (pc := 113) dX5_goThroughSecondPairs_113 (by decide) ?_
        refine V.iconst (v := 4) (pc := 114) dX5_goThroughSecondPairs_114 (by decide) ?_
        refine V.invU0 (as := [_, _, _, _]) (pc := 115) dX5_goThroughSecondPairs_115 (ci := 3) rfl uX5_31_X3 bX3_weigh nX3_weigh hSe.o (hC d) (by omega) rfl (Nat.le_of_ble_eq_true rfl) ?_
        rintro _ _ _ I4 J4 _ ⟨rfl, rfl, rfl, rfl, w1, w2⟩
        refine V.iinc1 (pc := 118) dX5_goThroughSecondPairs_118 (by decide) rfl (st1_7 rfl) ?_
        refine V.goto 58 (pc := 121) dX5_goThroughSecondPairs_121 (by decide) ?_
        rw [nI_1]
        exact ih (j + 1) I4 J4 (by omega) ⟨by omega, by rw [hit_y hv]; exact w1, by rw [w2, up2_ne (by omega), up2_ne (by omega)]; exact i2, by rw [w2, up2_ne (by omega), up2_ne (by omega)]; exact i3⟩
theorem l_x_X3 {g : gG} {d : Nat} {T : mT} {n : Nat} {I : mI} {J : mJ} {F : mF} {Q : mQ} {σ : Type} {R : σ → mI → mJ → Prop} {stp : Nat → Nat → σ → σ} {u oo : Nat} {s : List Nat} {b0 : σ} {a b : Nat} (hSe : SrS 3 T F oo) (hS : SS T F u) (hs : StkU I u s) (hRt : ∀ (b : σ) (I2 : mI) (J2 : mJ) (k : Nat) (v : Int32), R b I2 J2 → R b (up2 I2 (oo + 1) k v) J2) (hRs : ∀ (b : σ) (I2 : mI) (J2 : mJ), R b I2 J2 → I2 u = I u ∧ I2 (u + 2) = I (u + 2)) (hu : u ≠ oo + 1 ∧ u + 2 ≠ oo + 1) (hW4 : ∀ (c : Nat) (b : σ) (I2 : mI) (J2 : mJ), v4 s.length c = true → R b I2 J2 → (∀ i, i < 4 → I2 (oo + 1) i = nI (dg 4 c i)) → ∀ d : Nat, Ct g mX3_weigh (d + 2) [.ref oo, .long (lN (drvN s 4 c)), .long (lN (drnN s 4 c)), .int 2, .int 4] 0 0 T n I2 J2 F (fun r' T' n' I' J' F' => r' = none ∧ T' = T ∧ n' = n ∧ F' = F ∧ R (stp 4 c b) I' J' ∧ I' (oo + 1) = I2 (oo + 1))) (hab : a < s.length ∧ b < s.length ∧ a ≠ b) (kk : ∀ (x : Nat) (I' : mI) (J' : mJ), s.length ≤ x → x ≤ 13 → R (foldP (v4 s.length) (stp 4) (cod4 a b x 0) b0) I' J' ∧ I' (oo + 1) 0 = nI a ∧ I' (oo + 1) 1 = nI b → V g mX5_goThroughSecondPairs (d + 3) Q 0 0 130 [some (.ref oo), some (.ref u), some (.int (nI a)), some (.int (nI b)), some (.int (nI x)), none, none, none] [] T n I' J' F) : ∀ (t x : Nat) (I' : mI) (J' : mJ), x + t = 13 → (a < x ∧ R (foldP (v4 s.length) (stp 4) (cod4 a b x 0) b0) I' J' ∧ I' (oo + 1) 0 = nI a ∧ I' (oo + 1) 1 = nI b) → V g mX5_goThroughSecondPairs (d + 3) Q 0 0 19 [some (.ref oo), some (.ref u), some (.int (nI a)), some (.int (nI b)), some (.int (nI x)), none, none, none] [] T n I' J' F := by
  intro t
  induction t with
  | zero =>
    intro x I' J' hj hi
    obtain rfl : x = 13 := by omega
    have h12 := hs.1.1
    have hTu := hS.o
    obtain ⟨i1, i2, i3⟩ := hi.2
    obtain ⟨r1, r2⟩ := hRs _ _ _ i1
    have hs2 := hs.congr r1 r2
    refine V.iload (pc := 19) dX5_goThroughSecondPairs_19 rfl ?_
    refine V.aload_n (pc := 21) dX5_goThroughSecondPairs_21 rfl ?_
    refine V.getI (pc := 22) dX5_goThroughSecondPairs_22 fX5_22_7 rfl (by assumption) ?_
    rw [hs2.2.1]
    refine V.icmp_ge 130 (pc := 25) dX5_goThroughSecondPairs_25 (by decide) (fun h25 => ?_) (fun h25 => absurd (nI_le (by omega) (by omega)) h25)
    exact kk 13 I' J' (by omega) (by omega) ⟨i1, i2, i3⟩
  | succ t ih =>
    intro x I' J' hj hi
    have h12 := hs.1.1
    have hTu := hS.o
    obtain ⟨i1, i2, i3⟩ := hi.2
    have hax := hi.1
    obtain ⟨r1, r2⟩ := hRs _ _ _ i1
    have hs2 := hs.congr r1 r2
    refine V.iload (pc := 19) dX5_goThroughSecondPairs_19 rfl ?_
    refine V.aload_n (pc := 21) dX5_goThroughSecondPairs_21 rfl ?_
    refine V.getI (pc := 22) dX5_goThroughSecondPairs_22 fX5_22_7 rfl (by assumption) ?_
    rw [hs2.2.1]
    refine V.icmp_ge 130 (pc := 25) dX5_goThroughSecondPairs_25 (by decide) (fun h25 => ?_) (fun h25 => ?_)
    · have h25i : s.length ≤ x := by
        rw [le32, nI_toInt (by omega), nI_toInt (by omega)] at h25
        omega
      exact kk x I' J' h25i (by omega) ⟨i1, i2, i3⟩
    · have h25i : x < s.length := by
        rw [le32, nI_toInt (by omega), nI_toInt (by omega)] at h25
        omega
      refine V.iload (pc := 28) dX5_goThroughSecondPairs_28 rfl ?_
      refine V.iload_n (pc := 30) dX5_goThroughSecondPairs_30 rfl ?_
      refine V.icmp_ne 37 (pc := 31) dX5_goThroughSecondPairs_31 (by decide) (fun h31 => ?_) (fun h31 => ?_)
      · have h31i : ¬ x = b := fun z => h31 (by rw [z])
        have ba := stT_bd hs.1 (show a < s.length by omega)
        have bx := stT_bd hs.1 h25i
        refine V.aload_n (pc := 37) dX5_goThroughSecondPairs_37 rfl ?_
        refine V.iload_n (pc := 38) dX5_goThroughSecondPairs_38 rfl ?_
        refine V.pV (as := [_]) (pc := 39) dX5_goThroughSecondPairs_39 lX5_27 bX8_wheelAt nX8_wheelAt (ci := 7) rfl eX8_wheelAt (by assumption) (x_wAt (d := d + 2) (u := u) (a := a) (s := s) _ hS hs2 rfl (by omega)) (by omega) rfl (Nat.le_of_ble_eq_true rfl) ?_
        refine V.i2l (pc := 42) dX5_goThroughSecondPairs_42 ?_
        rw [nI_l (by omega)]
        refine V.aload_n (pc := 43) dX5_goThroughSecondPairs_43 rfl ?_
        refine V.iload (pc := 44) dX5_goThroughSecondPairs_44 rfl ?_
        refine V.pV (as := [_]) (pc := 46) dX5_goThroughSecondPairs_46 lX5_27 bX8_wheelAt nX8_wheelAt (ci := 7) rfl eX8_wheelAt (by assumption) (x_wAt (d := d + 2) (u := u) (a := x) (s := s) _ hS hs2 rfl (by omega)) (by omega) rfl (Nat.le_of_ble_eq_true rfl) ?_
        refine V.i2l (pc := 49) dX5_goThroughSecondPairs_49 ?_
        rw [nI_l (by omega)]
        refine V.lmul (pc := 50) dX5_goThroughSecondPairs_50 ?_
        rw [lN_mul]
        refine V.ls (pc := 51) dX5_goThroughSecondPairs_51 (by decide) (st2_5 rfl) ?_
        refine V.iload_n (pc := 53) dX5_goThroughSecondPairs_53 rfl ?_
        refine V.iconst (v := 1) (pc := 54) dX5_goThroughSecondPairs_54 (by decide) ?_
        refine V.iadd (pc := 55) dX5_goThroughSecondPairs_55 ?_
        rw [nI_1]
        refine V.is (pc := 56) dX5_goThroughSecondPairs_56 (by decide) (st1_7 rfl) ?_
        refine l_d_X3 (I := I) (J := J) (R := R) (stp := stp) (b0 := b0) (a := a) (b := b) (x := x) hSe hS hs hRt hRs hu hW4 ⟨hab.1, hab.2.1, h25i, hab.2.2, hax, h31i⟩ (fun I3 J3 k1 => ?_) (s.length - (b + 1)) (b + 1) I' J' (by omega) ⟨by omega, by rw [sk_d0 (by omega) (by omega) (by omega)]; exact i1, i2, i3⟩
        refine V.iinc1 (pc := 124) dX5_goThroughSecondPairs_124 (by decide) rfl (st1_4 rfl) ?_
        refine V.goto 19 (pc := 127) dX5_goThroughSecondPairs_127 (by decide) ?_
        refine V.weak wk_5 ?_
        refine V.weak wk_6 ?_
        refine V.weak wk_7 ?_
        rw [nI_1]
        exact ih (x + 1) I3 J3 (by omega) ⟨by omega, by rw [sk_d1 h12 (by omega) (by omega) (by omega)]; exact k1.1, k1.2.1, k1.2.2⟩
      · have h31i : x = b := (nI_eq (by omega) (by omega)).mp h31
        refine V.goto 124 (pc := 34) dX5_goThroughSecondPairs_34 (by decide) ?_
        refine V.iinc1 (pc := 124) dX5_goThroughSecondPairs_124 (by decide) rfl (st1_4 rfl) ?_
        refine V.goto 19 (pc := 127) dX5_goThroughSecondPairs_127 (by decide) ?_
        rw [nI_1]
        exact ih (x + 1) I' J' (by omega) ⟨by omega, by rw [h31i, sk_xb (by omega) (by omega)]; rw [h31i] at i1; exact i1, i2, i3⟩
theorem c_second_X3 {g : gG} {d : Nat} {T : mT} {n : Nat} {I : mI} {J : mJ} {F : mF} {σ : Type} {R : σ → mI → mJ → Prop} {stp : Nat → Nat → σ → σ} {u oo : Nat} {s : List Nat} {b0 : σ} {a b : Nat} (hSe : SrS 3 T F oo) (hS : SS T F u) (hs : StkU I u s) (hRt : ∀ (b : σ) (I2 : mI) (J2 : mJ) (k : Nat) (v : Int32), R b I2 J2 → R b (up2 I2 (oo + 1) k v) J2) (hRs : ∀ (b : σ) (I2 : mI) (J2 : mJ), R b I2 J2 → I2 u = I u ∧ I2 (u + 2) = I (u + 2)) (hu : u ≠ oo + 1 ∧ u + 2 ≠ oo + 1) (hW4 : ∀ (c : Nat) (b : σ) (I2 : mI) (J2 : mJ), v4 s.length c = true → R b I2 J2 → (∀ i, i < 4 → I2 (oo + 1) i = nI (dg 4 c i)) → ∀ d : Nat, Ct g mX3_weigh (d + 2) [.ref oo, .long (lN (drvN s 4 c)), .long (lN (drnN s 4 c)), .int 2, .int 4] 0 0 T n I2 J2 F (fun r' T' n' I' J' F' => r' = none ∧ T' = T ∧ n' = n ∧ F' = F ∧ R (stp 4 c b) I' J' ∧ I' (oo + 1) = I2 (oo + 1))) (hab : a < s.length ∧ b < s.length ∧ a ≠ b) (I1 : mI) (J1 : mJ) (hr : R (foldP (v4 s.length) (stp 4) (cod4 a b 0 0) b0) I1 J1) : Ct g mX5_goThroughSecondPairs (d + 3) [.ref oo, .ref u, .int (nI a), .int (nI b)] 0 0 T n I1 J1 F (fun r' T' n' I' J' F' => r' = none ∧ T' = T ∧ n' = n ∧ F' = F ∧ R (foldP (v4 s.length) (stp 4) (cod4 a (b + 1) 0 0) b0) I' J') := by
  refine Ct.ofV (k := 4) (by decide) (Nat.le_of_ble_eq_true rfl) ?_
  show V g mX5_goThroughSecondPairs (d + 3) _ 0 0 0 [some (.ref oo), some (.ref u), some (.int (nI a)), some (.int (nI b)), none, none, none, none] [] T n I1 J1 F
  have h12 := hs.1.1
  have hTu := hS.o
  refine V.aload_n (pc := 0) dX5_goThroughSecondPairs_0 rfl ?_
  refine V.getR (pc := 1) dX5_goThroughSecondPairs_1 fX5_9_3 rfl hSe.o hSe.f0 ?_
  refine V.iconst (v := 0) (pc := 4) dX5_goThroughSecondPairs_4 (by decide) ?_
  refine V.iload_n (pc := 5) dX5_goThroughSecondPairs_5 rfl ?_
  refine V.iast' (k := 0) (pc := 6) dX5_goThroughSecondPairs_6 hSe.t0 rfl (by decide) (by decide) ?_
  refine V.aload_n (pc := 7) dX5_goThroughSecondPairs_7 rfl ?_
  refine V.getR (pc := 8) dX5_goThroughSecondPairs_8 fX5_9_3 rfl hSe.o hSe.f0 ?_
  refine V.iconst (v := 1) (pc := 11) dX5_goThroughSecondPairs_11 (by decide) ?_
  refine V.iload_n (pc := 12) dX5_goThroughSecondPairs_12 rfl ?_
  refine V.iast' (k := 1) (pc := 13) dX5_goThroughSecondPairs_13 hSe.t0 rfl (by decide) (by decide) ?_
  refine V.iload_n (pc := 14) dX5_goThroughSecondPairs_14 rfl ?_
  refine V.iconst (v := 1) (pc := 15) dX5_goThroughSecondPairs_15 (by decide) ?_
  refine V.iadd (pc := 16) dX5_goThroughSecondPairs_16 ?_
  rw [nI_1]
  refine V.is (pc := 17) dX5_goThroughSecondPairs_17 (by decide) (st1_4 rfl) ?_
  refine l_x_X3 (I := I) (J := J) (R := R) (stp := stp) (b0 := b0) (a := a) (b := b) hSe hS hs hRt hRs hu hW4 hab (fun x I3 J3 k1 k2 k3 => ?_) (12 - a) (a + 1) _ _ (by omega) ⟨by omega, by rw [sk_x0 (by omega) (by omega)]; exact hRt _ _ _ _ _ (hRt _ _ _ _ _ hr), by rw [up2_ne (by omega), up2_same], up2_same⟩
  exact V.vret (pc := 130) dX5_goThroughSecondPairs_130 rfl ⟨rfl, rfl, rfl, rfl, by rw [sk_x1 h12 (by omega) (by omega) k1 (by omega)]; exact k3.1⟩
theorem l_b4_X3 {g : gG} {d : Nat} {T : mT} {n : Nat} {I : mI} {J : mJ} {F : mF} {Q : mQ} {σ : Type} {R : σ → mI → mJ → Prop} {stp : Nat → Nat → σ → σ} {u oo : Nat} {s : List Nat} {b0 : σ} {a : Nat} (hSe : SrS 3 T F oo) (hS : SS T F u) (hs : StkU I u s) (hRt : ∀ (b : σ) (I2 : mI) (J2 : mJ) (k : Nat) (v : Int32), R b I2 J2 → R b (up2 I2 (oo + 1) k v) J2) (hRs : ∀ (b : σ) (I2 : mI) (J2 : mJ), R b I2 J2 → I2 u = I u ∧ I2 (u + 2) = I (u + 2)) (hu : u ≠ oo + 1 ∧ u + 2 ≠ oo + 1) (hW4 : ∀ (c : Nat) (b : σ) (I2 : mI) (J2 : mJ), v4 s.length c = true → R b I2 J2 → (∀ i, i < 4 → I2 (oo + 1) i = nI (dg 4 c i)) → ∀ d : Nat, Ct g mX3_weigh (d + 2) [.ref oo, .long (lN (drvN s 4 c)), .long (lN (drnN s 4 c)), .int 2, .int 4] 0 0 T n I2 J2 F (fun r' T' n' I' J' F' => r' = none ∧ T' = T ∧ n' = n ∧ F' = F ∧ R (stp 4 c b) I' J' ∧ I' (oo + 1) = I2 (oo + 1))) (ha : a < s.length) (kk : ∀ (I' : mI) (J' : mJ), R (foldP (v4 s.length) (stp 4) (cod4 a s.length 0 0) b0) I' J' → V g mX5_goThrough (d + 4) Q 0 0 112 [some (.ref oo), some (.ref u), some (.int (nI a)), some (.int (nI s.length))] [] T n I' J' F) : ∀ (t j : Nat) (I' : mI) (J' : mJ), j + t = s.length → (R (foldP (v4 s.length) (stp 4) (cod4 a j 0 0) b0) I' J') → V g mX5_goThrough (d + 4) Q 0 0 86 [some (.ref oo), some (.ref u), some (.int (nI a)), some (.int (nI j))] [] T n I' J' F := by
  intro t
  induction t with
  | zero =>
    intro j I' J' hj hi
    obtain rfl : j = s.length := by omega
    have h12 := hs.1.1
    have hTu := hS.o
    obtain ⟨r1, r2⟩ := hRs _ _ _ hi
    have hs2 := hs.congr r1 r2
    refine V.iload_n (pc := 86) dX5_goThrough_86 rfl ?_
    refine V.aload_n (pc := 87) dX5_goThrough_87 rfl ?_
    refine V.getI (pc := 88) dX5_goThrough_88 fX5_22_7 rfl (by assumption) ?_
    rw [hs2.2.1]
    refine V.icmp_ge 112 (pc := 91) dX5_goThrough_91 (by decide) (fun h91 => ?_) (fun h91 => absurd (nI_le (Nat.le_refl _) (by omega)) h91)
    exact kk I' J' hi
  | succ t ih =>
    intro j I' J' hj hi
    have h12 := hs.1.1
    have hTu := hS.o
    obtain ⟨r1, r2⟩ := hRs _ _ _ hi
    have hs2 := hs.congr r1 r2
    refine V.iload_n (pc := 86) dX5_goThrough_86 rfl ?_
    refine V.aload_n (pc := 87) dX5_goThrough_87 rfl ?_
    refine V.getI (pc := 88) dX5_goThrough_88 fX5_22_7 rfl (by assumption) ?_
    rw [hs2.2.1]
    refine V.icmp_ge 112 (pc := 91) dX5_goThrough_91 (by decide) (fun h91 => absurd h91 (nI_ge (by omega) (by omega))) (fun h91 => ?_)
    refine V.iload_n (pc := 94) dX5_goThrough_94 rfl ?_
    refine V.iload_n (pc := 95) dX5_goThrough_95 rfl ?_
    refine V.icmp_eq 106 (pc := 96) dX5_goThrough_96 (by decide) (fun h96 => ?_) (fun h96 => ?_)
    · have h96i : a = j := (nI_eq (by omega) (by omega)).mp h96
      refine V.iinc1 (pc := 106) dX5_goThrough_106 (by decide) rfl (st1_3 rfl) ?_
      refine V.goto 86 (pc := 109) dX5_goThrough_109 (by decide) ?_
      rw [nI_1]
      exact ih (j + 1) I' J' (by omega) (by rw [← h96i, sk_bb (by omega)]; rw [← h96i] at hi; exact hi)
    · have h96i : ¬ a = j := fun z => h96 (by rw [z])
      refine V.aload_n (pc := 99) dX5_goThrough_99 rfl ?_
      refine V.aload_n (pc := 100) dX5_goThrough_100 rfl ?_
      refine V.iload_n (pc := 101) dX5_goThrough_101 rfl ?_
      refine V.iload_n (pc := 102) dX5_goThrough_102 rfl ?_
      refine V.invU0 (as := [_, _, _]) (pc := 103) dX5_goThrough_103 (ci := 3) rfl uX5_35_X3 bX5_goThroughSecondPairs nX5_goThroughSecondPairs hSe.o (c_second_X3 (d := d + 0) (I := I) (J := J) (R := R) (stp := stp) (b0 := b0) (a := a) (b := j) hSe hS hs hRt hRs hu hW4 ⟨ha, by omega, h96i⟩ I' J' hi) (by omega) rfl (Nat.le_of_ble_eq_true rfl) ?_
      rintro _ _ _ I4 J4 _ ⟨rfl, rfl, rfl, rfl, w1⟩
      refine V.iinc1 (pc := 106) dX5_goThrough_106 (by decide) rfl (st1_3 rfl) ?_
      refine V.goto 86 (pc := 109) dX5_goThrough_109 (by decide) ?_
      rw [nI_1]
      exact ih (j + 1) I4 J4 (by omega) w1
theorem l_a4_X3 {g : gG} {d : Nat} {T : mT} {n : Nat} {I : mI} {J : mJ} {F : mF} {Q : mQ} {σ : Type} {R : σ → mI → mJ → Prop} {stp : Nat → Nat → σ → σ} {u oo : Nat} {s : List Nat} {b0 : σ} (hSe : SrS 3 T F oo) (hS : SS T F u) (hs : StkU I u s) (hRt : ∀ (b : σ) (I2 : mI) (J2 : mJ) (k : Nat) (v : Int32), R b I2 J2 → R b (up2 I2 (oo + 1) k v) J2) (hRs : ∀ (b : σ) (I2 : mI) (J2 : mJ), R b I2 J2 → I2 u = I u ∧ I2 (u + 2) = I (u + 2)) (hu : u ≠ oo + 1 ∧ u + 2 ≠ oo + 1) (hW4 : ∀ (c : Nat) (b : σ) (I2 : mI) (J2 : mJ), v4 s.length c = true → R b I2 J2 → (∀ i, i < 4 → I2 (oo + 1) i = nI (dg 4 c i)) → ∀ d : Nat, Ct g mX3_weigh (d + 2) [.ref oo, .long (lN (drvN s 4 c)), .long (lN (drnN s 4 c)), .int 2, .int 4] 0 0 T n I2 J2 F (fun r' T' n' I' J' F' => r' = none ∧ T' = T ∧ n' = n ∧ F' = F ∧ R (stp 4 c b) I' J' ∧ I' (oo + 1) = I2 (oo + 1))) (kk : ∀ (I' : mI) (J' : mJ), R (foldP (v4 s.length) (stp 4) (cod4 s.length 0 0 0) b0) I' J' → V g mX5_goThrough (d + 4) Q 0 0 118 [some (.ref oo), some (.ref u), some (.int (nI s.length)), none] [] T n I' J' F) : ∀ (t j : Nat) (I' : mI) (J' : mJ), j + t = s.length → (R (foldP (v4 s.length) (stp 4) (cod4 j 0 0 0) b0) I' J') → V g mX5_goThrough (d + 4) Q 0 0 76 [some (.ref oo), some (.ref u), some (.int (nI j)), none] [] T n I' J' F := by
  intro t
  induction t with
  | zero =>
    intro j I' J' hj hi
    obtain rfl : j = s.length := by omega
    have h12 := hs.1.1
    have hTu := hS.o
    obtain ⟨r1, r2⟩ := hRs _ _ _ hi
    have hs2 := hs.congr r1 r2
    refine V.iload_n (pc := 76) dX5_goThrough_76 rfl ?_
    refine V.aload_n (pc := 77) dX5_goThrough_77 rfl ?_
    refine V.getI (pc := 78) dX5_goThrough_78 fX5_22_7 rfl (by assumption) ?_
    rw [hs2.2.1]
    refine V.icmp_ge 118 (pc := 81) dX5_goThrough_81 (by decide) (fun h81 => ?_) (fun h81 => absurd (nI_le (Nat.le_refl _) (by omega)) h81)
    exact kk I' J' hi
  | succ t ih =>
    intro j I' J' hj hi
    have h12 := hs.1.1
    have hTu := hS.o
    obtain ⟨r1, r2⟩ := hRs _ _ _ hi
    have hs2 := hs.congr r1 r2
    refine V.iload_n (pc := 76) dX5_goThrough_76 rfl ?_
    refine V.aload_n (pc := 77) dX5_goThrough_77 rfl ?_
    refine V.getI (pc := 78) dX5_goThrough_78 fX5_22_7 rfl (by assumption) ?_
    rw [hs2.2.1]
    refine V.icmp_ge 118 (pc := 81) dX5_goThrough_81 (by decide) (fun h81 => absurd h81 (nI_ge (by omega) (by omega))) (fun h81 => ?_)
    refine V.iconst (v := 0) (pc := 84) dX5_goThrough_84 (by decide) ?_
    refine V.isn (pc := 85) dX5_goThrough_85 (by decide) (st1_3 rfl) ?_
    refine V.lc3 (show (0 : Int32) = nI 0 from rfl) ?_
    refine l_b4_X3 (I := I) (J := J) (R := R) (stp := stp) (b0 := b0) (a := j) hSe hS hs hRt hRs hu hW4 (by omega) (fun I3 J3 k1 => ?_) s.length 0 I' J' (by omega) hi
    refine V.iinc1 (pc := 112) dX5_goThrough_112 (by decide) rfl (st1_2 rfl) ?_
    refine V.goto 76 (pc := 115) dX5_goThrough_115 (by decide) ?_
    rw [nI_1]
    refine V.weak wk_3 ?_
    exact ih (j + 1) I3 J3 (by omega) (by rw [sk_b1 h12 (by omega)]; exact k1)
theorem l_b2_X3 {g : gG} {d : Nat} {T : mT} {n : Nat} {I : mI} {J : mJ} {F : mF} {Q : mQ} {σ : Type} {R : σ → mI → mJ → Prop} {stp : Nat → Nat → σ → σ} {u oo : Nat} {s : List Nat} {b1 : σ} {a : Nat} (hSe : SrS 3 T F oo) (hS : SS T F u) (hs : StkU I u s) (hRt : ∀ (b : σ) (I2 : mI) (J2 : mJ) (k : Nat) (v : Int32), R b I2 J2 → R b (up2 I2 (oo + 1) k v) J2) (hRs : ∀ (b : σ) (I2 : mI) (J2 : mJ), R b I2 J2 → I2 u = I u ∧ I2 (u + 2) = I (u + 2)) (hu : u ≠ oo + 1 ∧ u + 2 ≠ oo + 1) (hW2 : ∀ (c : Nat) (b : σ) (I2 : mI) (J2 : mJ), vld s.length 2 c = true → R b I2 J2 → (∀ i, i < 2 → I2 (oo + 1) i = nI (dg 2 c i)) → ∀ d : Nat, Ct g mX3_weigh (d + 2) [.ref oo, .long (lN (drvN s 2 c)), .long (lN (drnN s 2 c)), .int 1, .int 1] 0 0 T n I2 J2 F (fun r' T' n' I' J' F' => r' = none ∧ T' = T ∧ n' = n ∧ F' = F ∧ R (stp 2 c b) I' J' ∧ I' (oo + 1) = I2 (oo + 1))) (ha : a < s.length) (kk : ∀ (I' : mI) (J' : mJ), R (foldP (vld s.length 2) (stp 2) (16 * a + s.length) b1) I' J' → V g mX5_goThrough (d + 4) Q 0 0 68 [some (.ref oo), some (.ref u), some (.int (nI a)), some (.int (nI s.length))] [] T n I' J' F) : ∀ (t j : Nat) (I' : mI) (J' : mJ), j + t = s.length → (R (foldP (vld s.length 2) (stp 2) (16 * a + j) b1) I' J') → V g mX5_goThrough (d + 4) Q 0 0 17 [some (.ref oo), some (.ref u), some (.int (nI a)), some (.int (nI j))] [] T n I' J' F := by
  intro t
  induction t with
  | zero =>
    intro j I' J' hj hi
    obtain rfl : j = s.length := by omega
    have h12 := hs.1.1
    have hTu := hS.o
    obtain ⟨r1, r2⟩ := hRs _ _ _ hi
    have hs2 := hs.congr r1 r2
    refine V.iload_n (pc := 17) dX5_goThrough_17 rfl ?_
    refine V.aload_n (pc := 18) dX5_goThrough_18 rfl ?_
    refine V.getI (pc := 19) dX5_goThrough_19 fX5_22_7 rfl (by assumption) ?_
    rw [hs2.2.1]
    refine V.icmp_ge 68 (pc := 22) dX5_goThrough_22 (by decide) (fun h22 => ?_) (fun h22 => absurd (nI_le (Nat.le_refl _) (by omega)) h22)
    exact kk I' J' hi
  | succ t ih =>
    intro j I' J' hj hi
    have h12 := hs.1.1
    have hTu := hS.o
    obtain ⟨r1, r2⟩ := hRs _ _ _ hi
    have hs2 := hs.congr r1 r2
    refine V.iload_n (pc := 17) dX5_goThrough_17 rfl ?_
    refine V.aload_n (pc := 18) dX5_goThrough_18 rfl ?_
    refine V.getI (pc := 19) dX5_goThrough_19 fX5_22_7 rfl (by assumption) ?_
    rw [hs2.2.1]
    refine V.icmp_ge 68 (pc := 22) dX5_goThrough_22 (by decide) (fun h22 => absurd h22 (nI_ge (by omega) (by omega))) (fun h22 => ?_)
    refine V.iload_n (pc := 25) dX5_goThrough_25 rfl ?_
    refine V.iload_n (pc := 26) dX5_goThrough_26 rfl ?_
    refine V.icmp_eq 62 (pc := 27) dX5_goThrough_27 (by decide) (fun h27 => ?_) (fun h27 => ?_)
    · have h27i : a = j := (nI_eq (by omega) (by omega)).mp h27
      refine V.iinc1 (pc := 62) dX5_goThrough_62 (by decide) rfl (st1_3 rfl) ?_
      refine V.goto 17 (pc := 65) dX5_goThrough_65 (by decide) ?_
      rw [nI_1]
      exact ih (j + 1) I' J' (by omega) (by rw [← h27i, tk_e h12 ha]; rw [← h27i] at hi; exact hi)
    · have h27i : ¬ a = j := fun z => h27 (by rw [z])
      have ba := stT_bd hs.1 ha
      have bj := stT_bd hs.1 (show j < s.length by omega)
      have R3 := hRt _ _ _ 1 (nI j) (hRt _ _ _ 0 (nI a) hi)
      have hs3 : StkU (up2 (up2 I' (oo + 1) 0 (nI a)) (oo + 1) 1 (nI j)) u s := hs2.congr (by rw [up2_off hu.1, up2_off hu.1]) (by rw [up2_off hu.2, up2_off hu.2])
      have hC := fun d => hW2 (16 * a + j) _ _ _ (tk_v h12 ha (by omega) h27i) R3 (dg_c2 (by omega) (by omega) (by rw [up2_ne (by omega), up2_same]) up2_same) d
      rw [(drv_c2 (by omega) (by omega)).1, (drv_c2 (by omega) (by omega)).2] at hC
      refine V.aload_n (pc := 30) dX5_goThrough_30 rfl ?_
      refine V.getR (pc := 31) dX5_goThrough_31 fX5_9_3 rfl hSe.o hSe.f0 ?_
      refine V.iconst (v := 0) (pc := 34) dX5_goThrough_34 (by decide) ?_
      refine V.iload_n (pc := 35) dX5_goThrough_35 rfl ?_
      refine V.iast' (k := 0) (pc := 36) dX5_goThrough_36 hSe.t0 rfl (by decide) (by decide) ?_
      refine V.aload_n (pc := 37) dX5_goThrough_37 rfl ?_
      refine V.getR (pc := 38) dX5_goThrough_38 fX5_9_3 rfl hSe.o hSe.f0 ?_
      refine V.iconst (v := 1) (pc := 41) dX5_goThrough_41 (by decide) ?_
      refine V.iload_n (pc := 42) dX5_goThrough_42 rfl ?_
      refine V.iast' (k := 1) (pc := 43) dX5_goThrough_43 hSe.t0 rfl (by decide) (by decide) ?_
      refine V.aload_n (pc := 44) dX5_goThrough_44 rfl ?_
      refine V.aload_n (pc := 45) dX5_goThrough_45 rfl ?_
      refine V.iload_n (pc := 46) dX5_goThrough_46 rfl ?_
      refine V.pV (as := [_]) (pc := 47) dX5_goThrough_47 lX5_27 bX8_wheelAt nX8_wheelAt (ci := 7) rfl eX8_wheelAt (by assumption) (x_wAt (d := d + 3) (u := u) (a := a) (s := s) _ hS hs3 rfl (by omega)) (by omega) rfl (Nat.le_of_ble_eq_true rfl) ?_
      refine V.i2l (pc := 50) dX5_goThrough_50 ?_
      rw [nI_l (by omega)]
      refine V.aload_n (pc := 51) dX5_goThrough_51 rfl ?_
      refine V.iload_n (pc := 52) dX5_goThrough_52 rfl ?_
      refine V.pV (as := [_]) (pc := 53) dX5_goThrough_53 lX5_27 bX8_wheelAt nX8_wheelAt (ci := 7) rfl eX8_wheelAt (by assumption) (x_wAt (d := d + 3) (u := u) (a := j) (s := s) _ hS hs3 rfl (by omega)) (by omega) rfl (Nat.le_of_ble_eq_true rfl) ?_
      refine V.i2l (pc := 56) dX5_goThrough_56 ?_
      rw [nI_l (by omega)]
      refine V.iconst (v := 1) (pc := 57) dX5_goThrough_57 (by decide) ?_
      refine V.iconst (v := 1) (pc := 58) dX5_goThrough_58 (by decide) ?_
      refine V.invU0 (as := [_, _, _, _]) (pc := 59) dX5_goThrough_59 (ci := 3) rfl uX5_31_X3 bX3_weigh nX3_weigh hSe.o (hC (d + 1)) (by omega) rfl (Nat.le_of_ble_eq_true rfl) ?_
      rintro _ _ _ I4 J4 _ ⟨rfl, rfl, rfl, rfl, w1, w2⟩
      refine V.iinc1 (pc := 62) dX5_goThrough_62 (by decide) rfl (st1_3 rfl) ?_
      refine V.goto 17 (pc := 65) dX5_goThrough_65 (by decide) ?_
      rw [nI_1]
      exact ih (j + 1) I4 J4 (by omega) (by rw [tk_h h12 ha (by omega) h27i]; exact w1)
theorem l_a2_X3 {g : gG} {d : Nat} {T : mT} {n : Nat} {I : mI} {J : mJ} {F : mF} {Q : mQ} {σ : Type} {R : σ → mI → mJ → Prop} {stp : Nat → Nat → σ → σ} {u oo : Nat} {s : List Nat} {b1 : σ} (hSe : SrS 3 T F oo) (hS : SS T F u) (hs : StkU I u s) (hRt : ∀ (b : σ) (I2 : mI) (J2 : mJ) (k : Nat) (v : Int32), R b I2 J2 → R b (up2 I2 (oo + 1) k v) J2) (hRs : ∀ (b : σ) (I2 : mI) (J2 : mJ), R b I2 J2 → I2 u = I u ∧ I2 (u + 2) = I (u + 2)) (hu : u ≠ oo + 1 ∧ u + 2 ≠ oo + 1) (hW2 : ∀ (c : Nat) (b : σ) (I2 : mI) (J2 : mJ), vld s.length 2 c = true → R b I2 J2 → (∀ i, i < 2 → I2 (oo + 1) i = nI (dg 2 c i)) → ∀ d : Nat, Ct g mX3_weigh (d + 2) [.ref oo, .long (lN (drvN s 2 c)), .long (lN (drnN s 2 c)), .int 1, .int 1] 0 0 T n I2 J2 F (fun r' T' n' I' J' F' => r' = none ∧ T' = T ∧ n' = n ∧ F' = F ∧ R (stp 2 c b) I' J' ∧ I' (oo + 1) = I2 (oo + 1))) (kk : ∀ (I' : mI) (J' : mJ), R (foldP (vld s.length 2) (stp 2) (16 * s.length) b1) I' J' → V g mX5_goThrough (d + 4) Q 0 0 74 [some (.ref oo), some (.ref u), some (.int (nI s.length)), none] [] T n I' J' F) : ∀ (t j : Nat) (I' : mI) (J' : mJ), j + t = s.length → (R (foldP (vld s.length 2) (stp 2) (16 * j) b1) I' J') → V g mX5_goThrough (d + 4) Q 0 0 7 [some (.ref oo), some (.ref u), some (.int (nI j)), none] [] T n I' J' F := by
  intro t
  induction t with
  | zero =>
    intro j I' J' hj hi
    obtain rfl : j = s.length := by omega
    have h12a := hs.1.1
    have hTu := hS.o
    obtain ⟨r1, r2⟩ := hRs _ _ _ hi
    have hs2 := hs.congr r1 r2
    refine V.iload_n (pc := 7) dX5_goThrough_7 rfl ?_
    refine V.aload_n (pc := 8) dX5_goThrough_8 rfl ?_
    refine V.getI (pc := 9) dX5_goThrough_9 fX5_22_7 rfl (by assumption) ?_
    rw [hs2.2.1]
    refine V.icmp_ge 74 (pc := 12) dX5_goThrough_12 (by decide) (fun h12 => ?_) (fun h12 => absurd (nI_le (Nat.le_refl _) (by omega)) h12)
    exact kk I' J' hi
  | succ t ih =>
    intro j I' J' hj hi
    have h12a := hs.1.1
    have hTu := hS.o
    obtain ⟨r1, r2⟩ := hRs _ _ _ hi
    have hs2 := hs.congr r1 r2
    refine V.iload_n (pc := 7) dX5_goThrough_7 rfl ?_
    refine V.aload_n (pc := 8) dX5_goThrough_8 rfl ?_
    refine V.getI (pc := 9) dX5_goThrough_9 fX5_22_7 rfl (by assumption) ?_
    rw [hs2.2.1]
    refine V.icmp_ge 74 (pc := 12) dX5_goThrough_12 (by decide) (fun h12 => absurd h12 (nI_ge (by omega) (by omega))) (fun h12 => ?_)
    refine V.iconst (v := 0) (pc := 15) dX5_goThrough_15 (by decide) ?_
    refine V.isn (pc := 16) dX5_goThrough_16 (by decide) (st1_3 rfl) ?_
    refine V.lc3 (show (0 : Int32) = nI 0 from rfl) ?_
    refine l_b2_X3 (I := I) (J := J) (R := R) (stp := stp) (b1 := b1) (a := j) hSe hS hs hRt hRs hu hW2 (by omega) (fun I3 J3 k1 => ?_) s.length 0 I' J' (by omega) hi
    refine V.iinc1 (pc := 68) dX5_goThrough_68 (by decide) rfl (st1_2 rfl) ?_
    refine V.goto 7 (pc := 71) dX5_goThrough_71 (by decide) ?_
    rw [nI_1]
    refine V.weak wk_3 ?_
    exact ih (j + 1) I3 J3 (by omega) (by rw [tk_b h12a (by omega)]; exact k1)
theorem c_go_X3 {g : gG} {d : Nat} {T : mT} {n : Nat} {I : mI} {J : mJ} {F : mF} {σ : Type} {R : σ → mI → mJ → Prop} {stp : Nat → Nat → σ → σ} {u oo : Nat} {s : List Nat} {b1 : σ} (hSe : SrS 3 T F oo) (hS : SS T F u) (hs : StkU I u s) (hRt : ∀ (b : σ) (I2 : mI) (J2 : mJ) (k : Nat) (v : Int32), R b I2 J2 → R b (up2 I2 (oo + 1) k v) J2) (hRs : ∀ (b : σ) (I2 : mI) (J2 : mJ), R b I2 J2 → I2 u = I u ∧ I2 (u + 2) = I (u + 2)) (hu : u ≠ oo + 1 ∧ u + 2 ≠ oo + 1) (hW4 : ∀ (c : Nat) (b : σ) (I2 : mI) (J2 : mJ), v4 s.length c = true → R b I2 J2 → (∀ i, i < 4 → I2 (oo + 1) i = nI (dg 4 c i)) → ∀ d : Nat, Ct g mX3_weigh (d + 2) [.ref oo, .long (lN (drvN s 4 c)), .long (lN (drnN s 4 c)), .int 2, .int 4] 0 0 T n I2 J2 F (fun r' T' n' I' J' F' => r' = none ∧ T' = T ∧ n' = n ∧ F' = F ∧ R (stp 4 c b) I' J' ∧ I' (oo + 1) = I2 (oo + 1))) (hW2 : ∀ (c : Nat) (b : σ) (I2 : mI) (J2 : mJ), vld s.length 2 c = true → R b I2 J2 → (∀ i, i < 2 → I2 (oo + 1) i = nI (dg 2 c i)) → ∀ d : Nat, Ct g mX3_weigh (d + 2) [.ref oo, .long (lN (drvN s 2 c)), .long (lN (drnN s 2 c)), .int 1, .int 1] 0 0 T n I2 J2 F (fun r' T' n' I' J' F' => r' = none ∧ T' = T ∧ n' = n ∧ F' = F ∧ R (stp 2 c b) I' J' ∧ I' (oo + 1) = I2 (oo + 1))) (hr : R b1 (up2 I oo 2 0) J) : Ct g mX5_goThrough (d + 4) [.ref oo, .ref u] 0 0 T n I J F (fun r' T' n' I' J' F' => r' = none ∧ T' = T ∧ n' = n ∧ F' = F ∧ R (foldP (v4 s.length) (stp 4) 65536 (foldP (vld s.length 2) (stp 2) (256) b1)) I' J') := by
  refine Ct.ofV (k := 2) (by decide) (Nat.le_of_ble_eq_true rfl) ?_
  show V g mX5_goThrough (d + 4) _ 0 0 0 [some (.ref oo), some (.ref u), none, none] [] T n I J F
  have h12 := hs.1.1
  have hTu := hS.o
  refine V.aload_n (pc := 0) dX5_goThrough_0 rfl ?_
  refine V.iconst (v := 0) (pc := 1) dX5_goThrough_1 (by decide) ?_
  refine V.putI (pc := 2) dX5_goThrough_2 fX5_18_3 (fun r h => by cases h; exact Or.inl rfl) rfl hSe.o ?_
  refine V.iconst (v := 0) (pc := 5) dX5_goThrough_5 (by decide) ?_
  refine V.isn (pc := 6) dX5_goThrough_6 (by decide) (st1_2 rfl) ?_
  conv => arg 8; rw [L0]
  refine l_a2_X3 (I := I) (J := J) (R := R) (stp := stp) (b1 := b1) hSe hS hs hRt hRs hu hW2 (fun I3 J3 k1 => ?_) s.length 0 _ _ (by omega) hr
  refine V.iconst (v := 0) (pc := 74) dX5_goThrough_74 (by decide) ?_
  refine V.isn (pc := 75) dX5_goThrough_75 (by decide) (st1_2 rfl) ?_
  conv => arg 8; rw [L0]
  refine l_a4_X3 (I := I) (J := J) (R := R) (stp := stp) (b0 := (foldP (vld s.length 2) (stp 2) (256) b1)) hSe hS hs hRt hRs hu hW4 (fun I4 J4 k2 => ?_) s.length 0 _ _ (by omega) (by rw [tk_a h12]; exact k1)
  exact V.vret (pc := 118) dX5_goThrough_118 rfl ⟨rfl, rfl, rfl, rfl, by rw [sk_a1 h12]; exact k2⟩
