theorem x_addPairN {g : gG} {d : Nat} {T : mT} {n : Nat} {I : mI} {J : mJ} {F : mF} {a : Nat} (p q : Int32) (hN : HN T F a) (h3 : I a 3 = nI 4) : Ct g mX1_addPair (d + 0) [.ref a, .int p, .int q] 0 0 T n I J F (pureQ T n I J F (some (.int 0))) := by
  refine Ct.ofV (k := 4) (by decide) (Nat.le_of_ble_eq_true rfl) ?_
  show V g mX1_addPair (d + 0) _ 0 0 0 [some (.ref a), some (.int p), some (.int q), none, none, none, none] [] T n I J F
  refine V.aload_n (pc := 0) dX1_addPair_0 rfl ?_
  refine V.getI (pc := 1) dX1_addPair_1 fX1_21_1 rfl hN.o ?_
  rw [h3]
  refine V.if_lt 15 (pc := 4) dX1_addPair_4 (by decide) (fun h4 => absurd h4 (by decide)) (fun h4 => ?_)
  refine V.aload_n (pc := 7) dX1_addPair_7 rfl ?_
  refine V.getI (pc := 8) dX1_addPair_8 fX1_21_1 rfl hN.o ?_
  refine V.iconst (v := 4) (pc := 11) dX1_addPair_11 (by decide) ?_
  rw [h3]
  refine V.icmp_lt 17 (pc := 12) dX1_addPair_12 (by decide) (fun h12 => absurd h12 (by decide)) (fun h12 => ?_)
  refine V.iconst (v := 0) (pc := 15) dX1_addPair_15 (by decide) ?_
  exact V.zret (pc := 16) dX1_addPair_16 rfl (by first | exact Or.inl rfl | exact Or.inr rfl | exact bi_or | assumption) ⟨rfl, rfl, rfl, rfl, rfl, rfl⟩
theorem x_addPairY {g : gG} {d : Nat} {T : mT} {n : Nat} {I : mI} {J : mJ} {F : mF} {a da db : Nat} {y : Hd} (p q : Int32) (hN : HN T F a) (hY : HdOK y) (hW : HdX I J a y) (hl : y.2.2.2.length < 4) (hp : p = nI da) (hq : q = nI db) (ha : 6 ≤ da ∧ da ≤ 120) (hb : 6 ≤ db ∧ db ≤ 120) : Ct g mX1_addPair (d + 2) [.ref a, .int p, .int q] 0 0 T n I J F (fun r' T' n' I' J' F' => r' = some (.int 1) ∧ T' = T ∧ n' = n ∧ F' = F ∧ (∀ b, b ≠ a → b ≠ a + 1 → I' b = I b) ∧ (∀ b, b ≠ a → J' b = J b) ∧ HdX I' J' a (y.1, y.2.1, y.2.2.1, y.2.2.2 ++ [(da, db)])) := by
  refine Ct.ofV (k := 4) (by decide) (Nat.le_of_ble_eq_true rfl) ?_
  show V g mX1_addPair (d + 2) _ 0 0 0 [some (.ref a), some (.int p), some (.int q), none, none, none, none] [] T n I J F
  subst hp hq
  have h3 := hW.2.2.2.1
  have hbd := rate_bd hY y.2.2.2.length
  rw [List.take_length] at hbd
  have k1 : upN y.2.2.2 / Nat.gcd (upN y.2.2.2) (loN y.2.2.2) ≤ 207360000 := Nat.le_trans (Nat.div_le_self _ _) hbd.1.2
  have k2 : loN y.2.2.2 / Nat.gcd (upN y.2.2.2) (loN y.2.2.2) ≤ 207360000 := Nat.le_trans (Nat.div_le_self _ _) hbd.2.2
  have k3 : 0 < loN y.2.2.2 / Nat.gcd (upN y.2.2.2) (loN y.2.2.2) := Nat.div_pos (Nat.gcd_le_right _ (by omega)) (Nat.gcd_pos_of_pos_right _ (by omega))
  have k4 : (upN y.2.2.2 / Nat.gcd (upN y.2.2.2) (loN y.2.2.2) * da) ≤ 207360000 * 120 := Nat.mul_le_mul k1 ha.2
  have k5 : (loN y.2.2.2 / Nat.gcd (upN y.2.2.2) (loN y.2.2.2) * db) ≤ 207360000 * 120 := Nat.mul_le_mul k2 hb.2
  have k6 : 0 < (loN y.2.2.2 / Nat.gcd (upN y.2.2.2) (loN y.2.2.2) * db) := Nat.mul_pos k3 (by omega)
  refine V.aload_n (pc := 0) dX1_addPair_0 rfl ?_
  refine V.getI (pc := 1) dX1_addPair_1 fX1_21_1 rfl hN.o ?_
  rw [h3]
  refine V.if_lt 15 (pc := 4) dX1_addPair_4 (by decide) (fun h4 => absurd h4 (nI_pos (by omega))) (fun h4 => ?_)
  refine V.aload_n (pc := 7) dX1_addPair_7 rfl ?_
  refine V.getI (pc := 8) dX1_addPair_8 fX1_21_1 rfl hN.o ?_
  refine V.iconst (v := 4) (pc := 11) dX1_addPair_11 (by decide) ?_
  rw [h3]
  refine V.icmp_lt 17 (pc := 12) dX1_addPair_12 (by decide) (fun h12 => ?_) (fun h12 => absurd (by rw [L4, nI_ltI (by omega) (by omega)]; exact hl) h12)
  refine V.aload_n (pc := 17) dX1_addPair_17 rfl ?_
  refine V.getR (pc := 18) dX1_addPair_18 fX1_24_1 rfl hN.o hN.f4 ?_
  refine V.iconst (v := 2) (pc := 21) dX1_addPair_21 (by decide) ?_
  refine V.aload_n (pc := 22) dX1_addPair_22 rfl ?_
  refine V.getI (pc := 23) dX1_addPair_23 fX1_21_1 rfl hN.o ?_
  rw [h3]
  refine V.imul (pc := 26) dX1_addPair_26 ?_
  refine V.iload_n (pc := 27) dX1_addPair_27 rfl ?_
  refine V.iast' (k := 2 * y.2.2.2.length) (pc := 28) dX1_addPair_28 hN.t4 (by simp only [L2, pk_mul]) (by omega) (by decide) ?_
  refine V.aload_n (pc := 29) dX1_addPair_29 rfl ?_
  refine V.getR (pc := 30) dX1_addPair_30 fX1_24_1 rfl hN.o hN.f4 ?_
  refine V.iconst (v := 2) (pc := 33) dX1_addPair_33 (by decide) ?_
  refine V.aload_n (pc := 34) dX1_addPair_34 rfl ?_
  refine V.getI (pc := 35) dX1_addPair_35 fX1_21_1 rfl hN.o ?_
  rw [up2_off (by omega), h3]
  refine V.imul (pc := 38) dX1_addPair_38 ?_
  refine V.iconst (v := 1) (pc := 39) dX1_addPair_39 (by decide) ?_
  refine V.iadd (pc := 40) dX1_addPair_40 ?_
  refine V.iload_n (pc := 41) dX1_addPair_41 rfl ?_
  refine V.iast' (k := 2 * y.2.2.2.length + 1) (pc := 42) dX1_addPair_42 hN.t4 (by simp only [L1, L2, pk_mul, nI_add]) (by omega) (by decide) ?_
  refine V.aload_n (pc := 43) dX1_addPair_43 rfl ?_
  refine V.dup (pc := 44) dX1_addPair_44 rfl ?_
  refine V.getI (pc := 45) dX1_addPair_45 fX1_21_1 rfl hN.o ?_
  rw [up2_off (by omega), up2_off (by omega), h3]
  refine V.iconst (v := 1) (pc := 48) dX1_addPair_48 (by decide) ?_
  refine V.iadd (pc := 49) dX1_addPair_49 ?_
  rw [nI_1]
  refine V.putI (pc := 50) dX1_addPair_50 fX1_21_1 (fun r h => by cases h; exact Or.inl rfl) rfl hN.o ?_
  refine V.aload_n (pc := 53) dX1_addPair_53 rfl ?_
  refine V.getJ (pc := 54) dX1_addPair_54 fX1_28_1 rfl hN.o ?_
  rw [hW.2.2.2.2.2.1]
  refine V.iload_n (pc := 57) dX1_addPair_57 rfl ?_
  refine V.i2l (pc := 58) dX1_addPair_58 ?_
  rw [nI_l (by omega)]
  refine V.lmul (pc := 59) dX1_addPair_59 ?_
  rw [lN_mul]
  refine V.lsn (pc := 60) dX1_addPair_60 (by decide) (st2_3 rfl) ?_
  refine V.aload_n (pc := 61) dX1_addPair_61 rfl ?_
  refine V.getJ (pc := 62) dX1_addPair_62 fX1_32_1 rfl hN.o ?_
  rw [hW.2.2.2.2.2.2]
  refine V.iload_n (pc := 65) dX1_addPair_65 rfl ?_
  refine V.i2l (pc := 66) dX1_addPair_66 ?_
  rw [nI_l (by omega)]
  refine V.lmul (pc := 67) dX1_addPair_67 ?_
  rw [lN_mul]
  refine V.ls (pc := 68) dX1_addPair_68 (by decide) (st2_5 rfl) ?_
  refine V.aload_n (pc := 70) dX1_addPair_70 rfl ?_
  refine V.lload_n (pc := 71) dX1_addPair_71 rfl ?_
  refine V.lload (pc := 72) dX1_addPair_72 rfl ?_
  refine V.iconst (v := 0) (pc := 74) dX1_addPair_74 (by decide) ?_
  refine V.pS (as := [_, _, _]) (pc := 75) dX1_addPair_75 lX1_44 bX11_inLowestTerms sX11_inLowestTerms (x_low (d := d + 0) (a := (upN y.2.2.2 / Nat.gcd (upN y.2.2.2) (loN y.2.2.2) * da)) (b := (loN y.2.2.2 / Nat.gcd (upN y.2.2.2) (loN y.2.2.2) * db)) _ _ _ rfl rfl (by omega) (by omega) (by omega)) (by omega) rfl (Nat.le_of_ble_eq_true rfl) ?_
  refine V.putJ (pc := 78) dX1_addPair_78 fX1_28_1 (fun r h => by cases h; exact Or.inl rfl) rfl hN.o ?_
  refine V.aload_n (pc := 81) dX1_addPair_81 rfl ?_
  refine V.lload_n (pc := 82) dX1_addPair_82 rfl ?_
  refine V.lload (pc := 83) dX1_addPair_83 rfl ?_
  refine V.iconst (v := 1) (pc := 85) dX1_addPair_85 (by decide) ?_
  refine V.pS (as := [_, _, _]) (pc := 86) dX1_addPair_86 lX1_44 bX11_inLowestTerms sX11_inLowestTerms (x_low (d := d + 0) (a := (upN y.2.2.2 / Nat.gcd (upN y.2.2.2) (loN y.2.2.2) * da)) (b := (loN y.2.2.2 / Nat.gcd (upN y.2.2.2) (loN y.2.2.2) * db)) _ _ _ rfl rfl (by omega) (by omega) (by omega)) (by omega) rfl (Nat.le_of_ble_eq_true rfl) ?_
  refine V.putJ (pc := 89) dX1_addPair_89 fX1_32_1 (fun r h => by cases h; exact Or.inl rfl) rfl hN.o ?_
  refine V.iconst (v := 1) (pc := 92) dX1_addPair_92 (by decide) ?_
  exact V.zret (pc := 93) dX1_addPair_93 rfl (by first | exact Or.inl rfl | exact Or.inr rfl | exact bi_or | assumption) ⟨rfl, rfl, rfl, rfl, fun b g1 g2 => by rw [up2_off g1, up2_off g2, up2_off g2], fun b g1 => by rw [up2_off g1, up2_off g1], HdX.app hY hW (fun k hk => by rw [up2_ne (by omega), up2_off (by omega), up2_off (by omega)]) up2_same (by rw [up2_off (by omega), up2_ne (by omega), up2_same]) (by rw [up2_off (by omega), up2_same]) (fun j hj => by rw [up2_off (by omega), up2_ne (by omega), up2_ne (by omega)]) (by rw [up2_ne (by omega), up2_same]; exact if_pos rfl) (by rw [up2_same]; exact if_neg (by decide))⟩
theorem y_pair {g : gG} {d : Nat} {T : mT} {n : Nat} {I : mI} {J : mJ} {F : mF} {x : Nat} {A : Ab} (v p q : Int32) (hX : XS T F x) (hA : AbOK A) (hR : RepX T I J F x A)  : Ct g mX11_pair (d + 4) [.ref x, .int v, .int p, .int q] 0 0 T n I J F (QX x T n I J F (some (.int (iI (s_pair A v.toInt p.toInt q.toInt).1))) (s_pair A v.toInt p.toInt q.toInt).2) := by
  refine Ct.ofV (k := 1) (by decide) (Nat.le_of_ble_eq_true rfl) ?_
  show V g mX11_pair (d + 4) _ 0 0 0 [some (.ref x), some (.int v), some (.int p), some (.int q), none] [] T n I J F
  have hTo := hX.s.o
  refine V.iload_n (pc := 0) dX11_pair_0 rfl ?_
  refine V.pS (as := [_]) (pc := 1) dX11_pair_1 lX11_110 bX11_areTeeth sX11_areTeeth (x_areTeeth (d := d + 3) _) (by omega) rfl (Nat.le_of_ble_eq_true rfl) ?_
  refine V.if_eq 14 (pc := 4) dX11_pair_4 (by decide) (fun h4 => ?_) (fun h4 => ?_)
  · have qa : ¬ ((6 ≤ p.toInt ∧ p.toInt ≤ 120) ∧ (6 ≤ q.toInt ∧ q.toInt ≤ 120)) := fun z => bi_eq.mp h4 z.1
    refine V.aload_n (pc := 14) dX11_pair_14 rfl ?_
    refine V.iconst (v := (-1)) (pc := 15) dX11_pair_15 (by decide) ?_
    refine V.invV0 (as := [_]) (pc := 16) dX11_pair_16 lX11_85 bX11_refuse nX11_refuse (ci := 10) rfl eX11_refuse hX.o (x_refuse1 (d := d + 3) hX) (by omega) rfl (Nat.le_of_ble_eq_true rfl) ?_
    rintro _ _ _ _ _ _ ⟨rfl, rfl, rfl, rfl, rfl, rfl⟩
    exact V.iret (pc := 19) dX11_pair_19 rfl (QX.no 0 (-1) (by decide) hX hA hR FrX.rf FrX.rf (by omega) (by rw [s_pair, if_neg qa]; rfl))
  · have qa1 := bi_ne.mp h4
    refine V.iload_n (pc := 7) dX11_pair_7 rfl ?_
    refine V.pS (as := [_]) (pc := 8) dX11_pair_8 lX11_110 bX11_areTeeth sX11_areTeeth (x_areTeeth (d := d + 3) _) (by omega) rfl (Nat.le_of_ble_eq_true rfl) ?_
    refine V.if_ne 20 (pc := 11) dX11_pair_11 (by decide) (fun h11 => ?_) (fun h11 => ?_)
    · have qa : (6 ≤ p.toInt ∧ p.toInt ≤ 120) ∧ (6 ≤ q.toInt ∧ q.toInt ≤ 120) := ⟨qa1, bi_ne.mp h11⟩
      refine V.aload_n (pc := 20) dX11_pair_20 rfl ?_
      refine V.getR (pc := 21) dX11_pair_21 fX11_10_10 rfl hX.o hX.f0 ?_
      refine V.iload_n (pc := 24) dX11_pair_24 rfl ?_
      by_cases qh : 0 ≤ v.toInt ∧ v.toInt < (hds (cor A)).length
      · obtain ⟨y, hy, ey⟩ := hdAt_yes qh
        have h6 := hA.1.1
        have hY := hA.1.2.1 y (List.mem_of_getElem? hy)
        have hW := hR.2.2.1.2.1 _ y hy
        have hN := hX.s.n (h := v.toInt.toNat) (by omega)
        have hTa := hN.o
        have hTb := hN.t4
        have hFb := hN.f4
        refine V.pV (as := [_]) (pc := 25) dX11_pair_25 lX11_95 bX8_handAt nX8_handAt (ci := 7) rfl eX8_handAt (by assumption) (x_handAtY (d := d + 3) (k := (hds (cor A)).length) _ hX.s hR.h2 hA.1.1 qh) (by omega) rfl (Nat.le_of_ble_eq_true rfl) ?_
        refine V.as (pc := 28) dX11_pair_28 (by decide) (st1_4 rfl) ?_
        refine V.aload (pc := 30) dX11_pair_30 rfl ?_
        refine V.ifnonnull 42 (pc := 32) dX11_pair_32 (by decide) ?_
        refine V.aload (pc := 42) dX11_pair_42 rfl ?_
        refine V.iload_n (pc := 44) dX11_pair_44 rfl ?_
        refine V.iload_n (pc := 45) dX11_pair_45 rfl ?_
        have h4 := hY.2.2.2.2.1
        by_cases q4 : y.2.2.2.length = 4
        · refine V.pV (as := [_, _]) (pc := 46) dX11_pair_46 lX11_114 bX1_addPair nX1_addPair (ci := 1) rfl eX1_addPair (by assumption) (x_addPairN (d := d + 3) _ _ hN (by rw [hW.2.2.2.1, q4])) (by omega) rfl (Nat.le_of_ble_eq_true rfl) ?_
          refine V.if_eq 64 (pc := 49) dX11_pair_49 (by decide) (fun h49 => ?_) (fun h49 => absurd rfl h49)
          refine V.aload_n (pc := 64) dX11_pair_64 rfl ?_
          refine V.bipush (v := (-5)) (pc := 65) dX11_pair_65 (by decide) ?_
          refine V.invV0 (as := [_]) (pc := 67) dX11_pair_67 lX11_85 bX11_refuse nX11_refuse (ci := 10) rfl eX11_refuse hX.o (x_refuse5 (d := d + 3) hX) (by omega) rfl (Nat.le_of_ble_eq_true rfl) ?_
          rintro _ _ _ _ _ _ ⟨rfl, rfl, rfl, rfl, rfl, rfl⟩
          exact V.iret (pc := 70) dX11_pair_70 rfl (QX.no 2 (-5) (by decide) hX hA hR FrX.rf FrX.rf (by omega) (by rw [s_pair, if_pos qa]; simp only [ey]; rw [if_pos q4]; rfl))
        · refine V.invV0 (as := [_, _]) (pc := 46) dX11_pair_46 lX11_114 bX1_addPair nX1_addPair (ci := 1) rfl eX1_addPair (by assumption) (x_addPairY (d := d + 1) (da := p.toInt.toNat) (db := q.toInt.toNat) (y := y) _ _ hN hY hW (by omega) (nIx (by omega) rfl) (nIx (by omega) rfl) (by omega) (by omega)) (by omega) rfl (Nat.le_of_ble_eq_true rfl) ?_
          rintro _ _ _ I2 J2 _ ⟨rfl, rfl, rfl, rfl, g1, g2, g3⟩
          refine V.if_eq 64 (pc := 49) dX11_pair_49 (by decide) (fun h49 => absurd h49 (by decide)) (fun h49 => ?_)
          refine V.aload_n (pc := 52) dX11_pair_52 rfl ?_
          refine V.aload (pc := 53) dX11_pair_53 rfl ?_
          refine V.getI (pc := 55) dX11_pair_55 fX11_118_1 rfl (by assumption) ?_
          rw [g3.2.2.2.1]
          refine V.invV0 (as := [_]) (pc := 58) dX11_pair_58 lX11_92 bX11_accept nX11_accept (ci := 10) rfl eX11_accept hX.o (x_accept (d := d + 3) _ hX) (by omega) rfl (Nat.le_of_ble_eq_true rfl) ?_
          rintro _ _ _ _ _ _ ⟨rfl, rfl, rfl, rfl, rfl, rfl⟩
          refine V.goto 70 (pc := 61) dX11_pair_61 (by decide) ?_
          exact V.iret (pc := 70) dX11_pair_70 rfl (QX.yes (c := setHd (cor A) v.toInt (y.1, y.2.1, y.2.2.1, y.2.2.2 ++ [(p.toInt.toNat, q.toInt.toNat)])) hX hA (ok_cor hA (ok_hand hA.1 hy rfl ⟨hY.1, hY.2.1, hY.2.2.1, hY.2.2.2.1, by show (y.2.2.2 ++ [_]).length ≤ 4; rw [List.length_append, List.length_singleton]; omega, fun r hr => by
        rcases List.mem_append.mp hr with z | z
        · exact hY.2.2.2.2.2 r z
        · simp at z; subst z; exact ⟨by show 6 ≤ p.toInt.toNat; omega, by show p.toInt.toNat ≤ 120; omega, by show 6 ≤ q.toInt.toNat; omega, by show q.toInt.toNat ≤ 120; omega⟩⟩)) (hR.core hA (fun b hb => g1 b (by omega) (by omega)) (StX.hand (by omega) hA.1 hR.2.2.1 (by omega) (fun b h1 h2 => g1 b (by omega) (by omega)) (fun b h1 => g2 b (by omega)) g3) (fun b hb => g2 b (by omega))) (fun b h1 h2 => g1 b (by omega) (by omega)) (fun b h1 h2 => g2 b (by omega)) (by rw [s_pair, if_pos qa]; simp only [ey]; rw [if_neg q4]; simp only [okYes]; show nI (y.2.2.2 ++ [(p.toInt.toNat, q.toInt.toNat)]).length = _; rw [List.length_append, ← iI_nat]; rfl) (by rw [s_pair, if_pos qa]; simp only [ey]; rw [if_neg q4]; rfl))
      · have ey := hdAt_no qh
        refine V.pV (as := [_]) (pc := 25) dX11_pair_25 lX11_95 bX8_handAt nX8_handAt (ci := 7) rfl eX8_handAt (by assumption) (x_handAtN (d := d + 3) (k := (hds (cor A)).length) _ hX.s hR.h2 hA.1.1 qh) (by omega) rfl (Nat.le_of_ble_eq_true rfl) ?_
        refine V.ns (pc := 28) dX11_pair_28 (by decide) (st1_4 rfl) ?_
        refine V.nload (pc := 30) dX11_pair_30 rfl ?_
        refine V.ifnonnullN (pc := 32) dX11_pair_32 ?_
        refine V.aload_n (pc := 35) dX11_pair_35 rfl ?_
        refine V.bipush (v := (-2)) (pc := 36) dX11_pair_36 (by decide) ?_
        refine V.invV0 (as := [_]) (pc := 38) dX11_pair_38 lX11_85 bX11_refuse nX11_refuse (ci := 10) rfl eX11_refuse hX.o (x_refuse2 (d := d + 3) hX) (by omega) rfl (Nat.le_of_ble_eq_true rfl) ?_
        rintro _ _ _ _ _ _ ⟨rfl, rfl, rfl, rfl, rfl, rfl⟩
        exact V.iret (pc := 41) dX11_pair_41 rfl (QX.no 1 (-2) (by decide) hX hA hR FrX.rf FrX.rf (by omega) (by rw [s_pair, if_pos qa]; simp only [ey]; rfl))
    · have qa : ¬ ((6 ≤ p.toInt ∧ p.toInt ≤ 120) ∧ (6 ≤ q.toInt ∧ q.toInt ≤ 120)) := fun z => bi_eq.mp h11 z.2
      refine V.aload_n (pc := 14) dX11_pair_14 rfl ?_
      refine V.iconst (v := (-1)) (pc := 15) dX11_pair_15 (by decide) ?_
      refine V.invV0 (as := [_]) (pc := 16) dX11_pair_16 lX11_85 bX11_refuse nX11_refuse (ci := 10) rfl eX11_refuse hX.o (x_refuse1 (d := d + 3) hX) (by omega) rfl (Nat.le_of_ble_eq_true rfl) ?_
      rintro _ _ _ _ _ _ ⟨rfl, rfl, rfl, rfl, rfl, rfl⟩
      exact V.iret (pc := 19) dX11_pair_19 rfl (QX.no 0 (-1) (by decide) hX hA hR FrX.rf FrX.rf (by omega) (by rw [s_pair, if_neg qa]; rfl))
theorem x_teethAtY {g : gG} {d : Nat} {T : mT} {n : Nat} {I : mI} {J : mJ} {F : mF} {a k : Nat} {y : Hd} (v : Int32) (hN : HN T F a) (h3 : I a 3 = nI y.2.2.2.length) (h4 : y.2.2.2.length ≤ 4) (hv : v = nI k) (hk : k < 2 * y.2.2.2.length) : Ct g mX1_teethAt (d + 0) [.ref a, .int v] 0 0 T n I J F (pureQ T n I J F (some (.int (I (a + 1) k)))) := by
  refine Ct.ofV (k := 0) (by decide) (Nat.le_of_ble_eq_true rfl) ?_
  show V g mX1_teethAt (d + 0) _ 0 0 0 [some (.ref a), some (.int v)] [] T n I J F
  subst hv
  refine V.iload_n (pc := 0) dX1_teethAt_0 rfl ?_
  refine V.if_lt 32 (pc := 1) dX1_teethAt_1 (by decide) (fun h1 => absurd h1 (nI_pos (by omega))) (fun h1 => ?_)
  refine V.iload_n (pc := 4) dX1_teethAt_4 rfl ?_
  refine V.iconst (v := 2) (pc := 5) dX1_teethAt_5 (by decide) ?_
  refine V.aload_n (pc := 6) dX1_teethAt_6 rfl ?_
  refine V.getI (pc := 7) dX1_teethAt_7 fX1_21_1 rfl hN.o ?_
  rw [h3]
  refine V.imul (pc := 10) dX1_teethAt_10 ?_
  rw [L2, pk_mul]
  refine V.icmp_ge 32 (pc := 11) dX1_teethAt_11 (by decide) (fun h11 => absurd h11 (nI_ge hk (by omega))) (fun h11 => ?_)
  refine V.iload_n (pc := 14) dX1_teethAt_14 rfl ?_
  refine V.aload_n (pc := 15) dX1_teethAt_15 rfl ?_
  refine V.getR (pc := 16) dX1_teethAt_16 fX1_24_1 rfl hN.o hN.f4 ?_
  refine V.alen (pc := 19) dX1_teethAt_19 hN.t4 ty_i (by rfl) ?_
  refine V.icmp_ge 32 (pc := 20) dX1_teethAt_20 (by decide) (fun h20 => absurd h20 (by rw [show (Int32.ofNat 8) = nI 8 from rfl]; exact nI_ge (by omega) (by omega))) (fun h20 => ?_)
  refine V.aload_n (pc := 23) dX1_teethAt_23 rfl ?_
  refine V.getR (pc := 24) dX1_teethAt_24 fX1_24_1 rfl hN.o hN.f4 ?_
  refine V.iload_n (pc := 27) dX1_teethAt_27 rfl ?_
  refine V.iald' (k := k) (pc := 28) dX1_teethAt_28 hN.t4 rfl (by omega) (by decide) ?_
  refine V.goto 33 (pc := 29) dX1_teethAt_29 (by decide) ?_
  exact V.iret (pc := 33) dX1_teethAt_33 rfl ⟨rfl, rfl, rfl, rfl, rfl, rfl⟩
theorem x_teethAtN {g : gG} {d : Nat} {T : mT} {n : Nat} {I : mI} {J : mJ} {F : mF} {a k : Nat} {y : Hd} (v : Int32) (hN : HN T F a) (h3 : I a 3 = nI y.2.2.2.length) (h4 : y.2.2.2.length ≤ 4) (hv : v = nI k) (hb : k < 2 ^ 31) (hk : ¬ k < 2 * y.2.2.2.length) : Ct g mX1_teethAt (d + 0) [.ref a, .int v] 0 0 T n I J F (pureQ T n I J F (some (.int (-1)))) := by
  refine Ct.ofV (k := 0) (by decide) (Nat.le_of_ble_eq_true rfl) ?_
  show V g mX1_teethAt (d + 0) _ 0 0 0 [some (.ref a), some (.int v)] [] T n I J F
  subst hv
  refine V.iload_n (pc := 0) dX1_teethAt_0 rfl ?_
  refine V.if_lt 32 (pc := 1) dX1_teethAt_1 (by decide) (fun h1 => absurd h1 (nI_pos (by omega))) (fun h1 => ?_)
  refine V.iload_n (pc := 4) dX1_teethAt_4 rfl ?_
  refine V.iconst (v := 2) (pc := 5) dX1_teethAt_5 (by decide) ?_
  refine V.aload_n (pc := 6) dX1_teethAt_6 rfl ?_
  refine V.getI (pc := 7) dX1_teethAt_7 fX1_21_1 rfl hN.o ?_
  rw [h3]
  refine V.imul (pc := 10) dX1_teethAt_10 ?_
  rw [L2, pk_mul]
  refine V.icmp_ge 32 (pc := 11) dX1_teethAt_11 (by decide) (fun h11 => ?_) (fun h11 => absurd (nI_le (by omega) (by omega)) h11)
  refine V.iconst (v := (-1)) (pc := 32) dX1_teethAt_32 (by decide) ?_
  exact V.iret (pc := 33) dX1_teethAt_33 rfl ⟨rfl, rfl, rfl, rfl, rfl, rfl⟩
theorem of_teeth {I : mI} {J : mJ} {a : Nat} {y : Hd} (hW : HdX I J a y) {w : Int} (h4 : 4 ≤ w) (hk : w.toNat - 4 < 2 * y.2.2.2.length) : I (a + 1) (w.toNat - 4) = iI (ofv y w) := by
  unfold ofv
  rw [if_neg (by omega), if_neg (by omega), if_neg (by omega), if_neg (by omega), if_pos (by omega)]
  have hp : (w.toNat - 4) / 2 < y.2.2.2.length := by omega
  have e : ((w - 4) / 2).toNat = (w.toNat - 4) / 2 := by omega
  have hq := hW.2.2.2.2.1 _ _ (List.getElem?_eq_getElem hp)
  have hg : y.2.2.2.getD ((w - 4) / 2).toNat (0, 0) = y.2.2.2[(w.toNat - 4) / 2] := by rw [e, List.getD_eq_getElem?_getD, List.getElem?_eq_getElem hp]; rfl
  rw [hg]
  by_cases w5 : (w - 4) % 2 = 0
  · rw [if_pos w5, iI_nat, ← hq.1]; congr 1; omega
  · rw [if_neg w5, iI_nat, ← hq.2]; congr 1; omega
theorem ofv_neg {y : Hd} {w : Int} (h0 : ¬ w = 0) (h1 : ¬ w = 1) (h2 : ¬ w = 2) (h3 : ¬ w = 3) (h4 : ¬ (4 ≤ w ∧ w < 4 + 2 * y.2.2.2.length)) : ofv y w = -1 := by
  unfold ofv
  rw [if_neg h0, if_neg h1, if_neg h2, if_neg h3, if_neg h4]
theorem sub4 {w : Int32} (h : 4 ≤ w.toInt) : w - 4 = nI (w.toInt.toNat - 4) := by
  conv => lhs; rw [show w = nI w.toInt.toNat from nIx (by omega) rfl]
  rw [L4, pk_sub (by omega)]
theorem y_of {g : gG} {d : Nat} {T : mT} {n : Nat} {I : mI} {J : mJ} {F : mF} {x : Nat} {A : Ab} (v w : Int32) (hX : XS T F x) (hA : AbOK A) (hR : RepX T I J F x A)  : Ct g mX11_of (d + 4) [.ref x, .int v, .int w] 0 0 T n I J F (QX x T n I J F (some (.int (iI (s_of A v.toInt w.toInt).1))) (s_of A v.toInt w.toInt).2) := by
  refine Ct.ofV (k := 1) (by decide) (Nat.le_of_ble_eq_true rfl) ?_
  show V g mX11_of (d + 4) _ 0 0 0 [some (.ref x), some (.int v), some (.int w), none] [] T n I J F
  have hTo := hX.s.o
  refine V.aload_n (pc := 0) dX11_of_0 rfl ?_
  refine V.getR (pc := 1) dX11_of_1 fX11_10_10 rfl hX.o hX.f0 ?_
  refine V.iload_n (pc := 4) dX11_of_4 rfl ?_
  by_cases q : 0 ≤ v.toInt ∧ v.toInt < (hds (cor A)).length
  · obtain ⟨y, hy, ey⟩ := hdAt_yes q
    have h6 := hA.1.1
    have hY := hA.1.2.1 y (List.mem_of_getElem? hy)
    have hW := hR.2.2.1.2.1 _ y hy
    have hN := hX.s.n (h := v.toInt.toNat) (by omega)
    have hTa := hN.o
    have hTb := hN.t4
    have hFb := hN.f4
    refine V.pV (as := [_]) (pc := 5) dX11_of_5 lX11_95 bX8_handAt nX8_handAt (ci := 7) rfl eX8_handAt (by assumption) (x_handAtY (d := d + 3) (k := (hds (cor A)).length) _ hX.s hR.h2 hA.1.1 q) (by omega) rfl (Nat.le_of_ble_eq_true rfl) ?_
    refine V.asn (pc := 8) dX11_of_8 (by decide) (st1_3 rfl) ?_
    refine V.aload_n (pc := 9) dX11_of_9 rfl ?_
    refine V.ifnonnull 15 (pc := 10) dX11_of_10 (by decide) ?_
    refine V.iload_n (pc := 15) dX11_of_15 rfl ?_
    refine V.gen (fun y16 ey16 => ?_)
    by_cases c16_0 : y16 = 0
    · rw [c16_0] at ey16 ⊢
      refine V.tIn 48 (pc := 16) dX11_of_16 (by decide) (by decide) (off := 32) (by decide) (by decide) ?_
      refine V.aload_n (pc := 48) dX11_of_48 rfl ?_
      refine V.getI (pc := 49) dX11_of_49 fX11_104_1 rfl (by assumption) ?_
      rw [hW.1]
      exact V.iret (pc := 52) dX11_of_52 rfl (QX.pure hX hR (by rw [of_some ey, show w.toInt = 0 by rw [← ey16]; rfl]; exact (iI_nat _).symm) rfl)
    by_cases c16_1 : y16 = 1
    · rw [c16_1] at ey16 ⊢
      refine V.tIn 53 (pc := 16) dX11_of_16 (by decide) (by decide) (off := 37) (by decide) (by decide) ?_
      refine V.aload_n (pc := 53) dX11_of_53 rfl ?_
      refine V.getI (pc := 54) dX11_of_54 fX11_107_1 rfl (by assumption) ?_
      rw [hW.2.1]
      exact V.iret (pc := 57) dX11_of_57 rfl (QX.pure hX hR (by rw [of_some ey, show w.toInt = 1 by rw [← ey16]; rfl]; exact (iI_nat _).symm) rfl)
    by_cases c16_2 : y16 = 2
    · rw [c16_2] at ey16 ⊢
      refine V.tIn 58 (pc := 16) dX11_of_16 (by decide) (by decide) (off := 42) (by decide) (by decide) ?_
      refine V.aload_n (pc := 58) dX11_of_58 rfl ?_
      refine V.getI (pc := 59) dX11_of_59 fX11_99_1 rfl (by assumption) ?_
      rw [hW.2.2.1]
      exact V.iret (pc := 62) dX11_of_62 rfl (QX.pure hX hR (by rw [of_some ey, show w.toInt = 2 by rw [← ey16]; rfl]; exact (iI_nat _).symm) rfl)
    by_cases c16_3 : y16 = 3
    · rw [c16_3] at ey16 ⊢
      refine V.tIn 63 (pc := 16) dX11_of_16 (by decide) (by decide) (off := 47) (by decide) (by decide) ?_
      refine V.aload_n (pc := 63) dX11_of_63 rfl ?_
      refine V.getI (pc := 64) dX11_of_64 fX11_118_1 rfl (by assumption) ?_
      rw [hW.2.2.2.1]
      exact V.iret (pc := 67) dX11_of_67 rfl (QX.pure hX hR (by rw [of_some ey, show w.toInt = 3 by rw [← ey16]; rfl]; exact (iI_nat _).symm) rfl)
    have q0 : ¬ y16.toInt = 0 := fun e => c16_0 ((eq32 _ _).mpr (e.trans (by decide)))
    have q1 : ¬ y16.toInt = 1 := fun e => c16_1 ((eq32 _ _).mpr (e.trans (by decide)))
    have q2 : ¬ y16.toInt = 2 := fun e => c16_2 ((eq32 _ _).mpr (e.trans (by decide)))
    have q3 : ¬ y16.toInt = 3 := fun e => c16_3 ((eq32 _ _).mpr (e.trans (by decide)))
    refine V.tOut 68 (pc := 16) dX11_of_16 (by skip; omega) (by decide) ?_
    refine V.iload_n (pc := 68) dX11_of_68 rfl ?_
    refine V.iconst (v := 4) (pc := 69) dX11_of_69 (by decide) ?_
    rw [ey16] at q0 q1 q2 q3
    refine V.icmp_ge 77 (pc := 70) dX11_of_70 (by decide) (fun h70 => ?_) (fun h70 => ?_)
    · have w4 : 4 ≤ w.toInt := by
        rw [le32] at h70
        exact h70
      have hb := bd32 w
      have h4 := hY.2.2.2.2.1
      refine V.aload_n (pc := 77) dX11_of_77 rfl ?_
      refine V.iload_n (pc := 78) dX11_of_78 rfl ?_
      refine V.iconst (v := 4) (pc := 79) dX11_of_79 (by decide) ?_
      refine V.isub (pc := 80) dX11_of_80 ?_
      rw [sub4 w4]
      by_cases qk : w.toInt.toNat - 4 < 2 * y.2.2.2.length
      · refine V.pV (as := [_]) (pc := 81) dX11_of_81 lX11_124 bX1_teethAt nX1_teethAt (ci := 1) rfl eX1_teethAt (by assumption) (x_teethAtY (d := d + 3) (k := w.toInt.toNat - 4) (y := y) _ hN hW.2.2.2.1 h4 rfl qk) (by omega) rfl (Nat.le_of_ble_eq_true rfl) ?_
        exact V.iret (pc := 84) dX11_of_84 rfl (QX.pure hX hR (by rw [of_some ey]; exact of_teeth hW w4 qk) rfl)
      · refine V.pV (as := [_]) (pc := 81) dX11_of_81 lX11_124 bX1_teethAt nX1_teethAt (ci := 1) rfl eX1_teethAt (by assumption) (x_teethAtN (d := d + 3) (k := w.toInt.toNat - 4) (y := y) _ hN hW.2.2.2.1 h4 rfl (by omega) qk) (by omega) rfl (Nat.le_of_ble_eq_true rfl) ?_
        exact V.iret (pc := 84) dX11_of_84 rfl (QX.pure hX hR (by rw [of_some ey, ofv_neg q0 q1 q2 q3 (by omega)]; rfl) rfl)
    · have w4 : ¬ 4 ≤ w.toInt := fun z => h70 ((le32 _ _).mpr z)
      refine V.iconst (v := (-1)) (pc := 73) dX11_of_73 (by decide) ?_
      refine V.goto 84 (pc := 74) dX11_of_74 (by decide) ?_
      exact V.iret (pc := 84) dX11_of_84 rfl (QX.pure hX hR (by rw [of_some ey, ofv_neg q0 q1 q2 q3 (by omega)]; rfl) rfl)
  · have ey := hdAt_no q
    refine V.pV (as := [_]) (pc := 5) dX11_of_5 lX11_95 bX8_handAt nX8_handAt (ci := 7) rfl eX8_handAt (by assumption) (x_handAtN (d := d + 3) (k := (hds (cor A)).length) _ hX.s hR.h2 hA.1.1 q) (by omega) rfl (Nat.le_of_ble_eq_true rfl) ?_
    refine V.nsn (pc := 8) dX11_of_8 (by decide) (st1_3 rfl) ?_
    refine V.nload_n (pc := 9) dX11_of_9 rfl ?_
    refine V.ifnonnullN (pc := 10) dX11_of_10 ?_
    refine V.iconst (v := (-1)) (pc := 13) dX11_of_13 (by decide) ?_
    exact V.iret (pc := 14) dX11_of_14 rfl (QX.pure hX hR (by rw [of_none ey]; rfl) rfl)
