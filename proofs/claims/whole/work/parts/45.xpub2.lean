theorem x_newWheelN {g : gG} {d : Nat} {T : mT} {n : Nat} {I : mI} {J : mJ} {F : mF} {u : Nat} (v : Int32) (hS : SS T F u) (hq : I u 4 = nI 12) : Ct g mX8_newWheel (d + 0) [.ref u, .int v] 0 0 T n I J F (pureQ T n I J F (some (.int (-1)))) := by
  refine Ct.ofV (k := 0) (by decide) (Nat.le_of_ble_eq_true rfl) ?_
  show V g mX8_newWheel (d + 0) _ 0 0 0 [some (.ref u), some (.int v)] [] T n I J F
  refine V.aload_n (pc := 0) dX8_newWheel_0 rfl ?_
  refine V.getI (pc := 1) dX8_newWheel_1 fX8_29_7 rfl hS.o ?_
  rw [hq]
  refine V.if_lt 19 (pc := 4) dX8_newWheel_4 (by decide) (fun h4 => absurd h4 (by decide)) (fun h4 => ?_)
  refine V.aload_n (pc := 7) dX8_newWheel_7 rfl ?_
  refine V.getI (pc := 8) dX8_newWheel_8 fX8_29_7 rfl hS.o ?_
  refine V.aload_n (pc := 11) dX8_newWheel_11 rfl ?_
  refine V.getR (pc := 12) dX8_newWheel_12 fX8_25_7 rfl hS.o hS.f3 ?_
  refine V.alen (pc := 15) dX8_newWheel_15 hS.t3 ty_i (by rfl) ?_
  rw [hq]
  refine V.icmp_lt 21 (pc := 16) dX8_newWheel_16 (by decide) (fun h16 => absurd h16 (by decide)) (fun h16 => ?_)
  refine V.iconst (v := (-1)) (pc := 19) dX8_newWheel_19 (by decide) ?_
  exact V.iret (pc := 20) dX8_newWheel_20 rfl ⟨rfl, rfl, rfl, rfl, rfl, rfl⟩
theorem x_newWheelY {g : gG} {d : Nat} {T : mT} {n : Nat} {I : mI} {J : mJ} {F : mF} {u k : Nat} (v : Int32) (hS : SS T F u) (hq : I u 4 = nI k) (hk : k < 12) : Ct g mX8_newWheel (d + 0) [.ref u, .int v] 0 0 T n I J F (fun r' T' n' I' J' F' => r' = some (.int (nI k)) ∧ T' = T ∧ n' = n ∧ I' = up2 (up2 I (u + 2) k v) u 4 (nI (k + 1)) ∧ J' = J ∧ F' = F) := by
  refine Ct.ofV (k := 0) (by decide) (Nat.le_of_ble_eq_true rfl) ?_
  show V g mX8_newWheel (d + 0) _ 0 0 0 [some (.ref u), some (.int v)] [] T n I J F
  refine V.aload_n (pc := 0) dX8_newWheel_0 rfl ?_
  refine V.getI (pc := 1) dX8_newWheel_1 fX8_29_7 rfl hS.o ?_
  rw [hq]
  refine V.if_lt 19 (pc := 4) dX8_newWheel_4 (by decide) (fun h4 => absurd h4 (nI_pos (by omega))) (fun h4 => ?_)
  refine V.aload_n (pc := 7) dX8_newWheel_7 rfl ?_
  refine V.getI (pc := 8) dX8_newWheel_8 fX8_29_7 rfl hS.o ?_
  refine V.aload_n (pc := 11) dX8_newWheel_11 rfl ?_
  refine V.getR (pc := 12) dX8_newWheel_12 fX8_25_7 rfl hS.o hS.f3 ?_
  refine V.alen (pc := 15) dX8_newWheel_15 hS.t3 ty_i (by rfl) ?_
  rw [hq]
  refine V.icmp_lt 21 (pc := 16) dX8_newWheel_16 (by decide) (fun h16 => ?_) (fun h16 => absurd (by rw [lt32, nI_toInt (by omega)]; show _ < (12 : Int); omega) h16)
  refine V.aload_n (pc := 21) dX8_newWheel_21 rfl ?_
  refine V.getR (pc := 22) dX8_newWheel_22 fX8_25_7 rfl hS.o hS.f3 ?_
  refine V.aload_n (pc := 25) dX8_newWheel_25 rfl ?_
  refine V.getI (pc := 26) dX8_newWheel_26 fX8_29_7 rfl hS.o ?_
  refine V.iload_n (pc := 29) dX8_newWheel_29 rfl ?_
  refine V.iast' (k := k) (pc := 30) dX8_newWheel_30 hS.t3 hq (by omega) (by decide) ?_
  refine V.aload_n (pc := 31) dX8_newWheel_31 rfl ?_
  refine V.dup (pc := 32) dX8_newWheel_32 rfl ?_
  refine V.getI (pc := 33) dX8_newWheel_33 fX8_29_7 rfl hS.o ?_
  rw [up2_off (by omega), hq]
  refine V.iconst (v := 1) (pc := 36) dX8_newWheel_36 (by decide) ?_
  refine V.iadd (pc := 37) dX8_newWheel_37 ?_
  rw [nI_1]
  refine V.putI (pc := 38) dX8_newWheel_38 fX8_29_7 (fun r h => by cases h; exact Or.inl rfl) rfl hS.o ?_
  refine V.aload_n (pc := 41) dX8_newWheel_41 rfl ?_
  refine V.getI (pc := 42) dX8_newWheel_42 fX8_29_7 rfl hS.o ?_
  rw [up2_same]
  refine V.iconst (v := 1) (pc := 45) dX8_newWheel_45 (by decide) ?_
  refine V.isub (pc := 46) dX8_newWheel_46 ?_
  rw [nI_pred]
  exact V.iret (pc := 47) dX8_newWheel_47 rfl ⟨rfl, rfl, rfl, rfl, rfl, rfl⟩
theorem y_wheel {g : gG} {d : Nat} {T : mT} {n : Nat} {I : mI} {J : mJ} {F : mF} {x : Nat} {A : Ab} (v : Int32) (hX : XS T F x) (hA : AbOK A) (hR : RepX T I J F x A)  : Ct g mX11_wheel (d + 4) [.ref x, .int v] 0 0 T n I J F (QX x T n I J F (some (.int (iI (s_wheel A v.toInt).1))) (s_wheel A v.toInt).2) := by
  refine Ct.ofV (k := 1) (by decide) (Nat.le_of_ble_eq_true rfl) ?_
  show V g mX11_wheel (d + 4) _ 0 0 0 [some (.ref x), some (.int v), none] [] T n I J F
  have hTo := hX.s.o
  have h12 := hA.1.2.2.1
  refine V.iload_n (pc := 0) dX11_wheel_0 rfl ?_
  refine V.pS (as := [_]) (pc := 1) dX11_wheel_1 lX11_110 bX11_areTeeth sX11_areTeeth (x_areTeeth (d := d + 3) _) (by omega) rfl (Nat.le_of_ble_eq_true rfl) ?_
  refine V.if_ne 13 (pc := 4) dX11_wheel_4 (by decide) (fun h4 => ?_) (fun h4 => ?_)
  · have q := bi_ne.mp h4
    refine V.aload_n (pc := 13) dX11_wheel_13 rfl ?_
    refine V.getR (pc := 14) dX11_wheel_14 fX11_10_10 rfl hX.o hX.f0 ?_
    refine V.iload_n (pc := 17) dX11_wheel_17 rfl ?_
    by_cases q12 : (stk (cor A)).length = 12
    · refine V.pV (as := [_]) (pc := 18) dX11_wheel_18 lX11_127 bX8_newWheel nX8_newWheel (ci := 7) rfl eX8_newWheel (by assumption) (x_newWheelN (d := d + 3) _ hX.s (by rw [hR.h4, q12])) (by omega) rfl (Nat.le_of_ble_eq_true rfl) ?_
      refine V.isn (pc := 21) dX11_wheel_21 (by decide) (st1_2 rfl) ?_
      refine V.iload_n (pc := 22) dX11_wheel_22 rfl ?_
      refine V.iconst (v := (-1)) (pc := 23) dX11_wheel_23 (by decide) ?_
      refine V.icmp_ne 36 (pc := 24) dX11_wheel_24 (by decide) (fun h24 => absurd rfl h24) (fun h24 => ?_)
      refine V.aload_n (pc := 27) dX11_wheel_27 rfl ?_
      refine V.bipush (v := (-5)) (pc := 28) dX11_wheel_28 (by decide) ?_
      refine V.invV0 (as := [_]) (pc := 30) dX11_wheel_30 lX11_85 bX11_refuse nX11_refuse (ci := 10) rfl eX11_refuse hX.o (x_refuse5 (d := d + 3) hX) (by omega) rfl (Nat.le_of_ble_eq_true rfl) ?_
      rintro _ _ _ _ _ _ ⟨rfl, rfl, rfl, rfl, rfl, rfl⟩
      refine V.goto 41 (pc := 33) dX11_wheel_33 (by decide) ?_
      exact V.iret (pc := 41) dX11_wheel_41 rfl (QX.no 2 (-5) (by decide) hX hA hR FrX.rf FrX.rf (by omega) (by rw [s_wheel, if_pos q, if_pos q12]))
    · refine V.invV0 (as := [_]) (pc := 18) dX11_wheel_18 lX11_127 bX8_newWheel nX8_newWheel (ci := 7) rfl eX8_newWheel (by assumption) (x_newWheelY (d := d + 3) (k := (stk (cor A)).length) _ hX.s hR.h4 (by omega)) (by omega) rfl (Nat.le_of_ble_eq_true rfl) ?_
      rintro _ _ _ _ _ _ ⟨rfl, rfl, rfl, rfl, rfl, rfl⟩
      refine V.isn (pc := 21) dX11_wheel_21 (by decide) (st1_2 rfl) ?_
      refine V.iload_n (pc := 22) dX11_wheel_22 rfl ?_
      refine V.iconst (v := (-1)) (pc := 23) dX11_wheel_23 (by decide) ?_
      refine V.icmp_ne 36 (pc := 24) dX11_wheel_24 (by decide) (fun h24 => ?_) (fun h24 => absurd (show nI (stk (cor A)).length = -1 from h24) (by rw [eq32, nI_toInt (by omega)]; show ¬ _ = (-1 : Int); omega))
      refine V.aload_n (pc := 36) dX11_wheel_36 rfl ?_
      refine V.iload_n (pc := 37) dX11_wheel_37 rfl ?_
      refine V.invV0 (as := [_]) (pc := 38) dX11_wheel_38 lX11_92 bX11_accept nX11_accept (ci := 10) rfl eX11_accept hX.o (x_accept (d := d + 3) _ hX) (by omega) rfl (Nat.le_of_ble_eq_true rfl) ?_
      rintro _ _ _ _ _ _ ⟨rfl, rfl, rfl, rfl, rfl, rfl⟩
      exact V.iret (pc := 41) dX11_wheel_41 rfl (QX.yes (c := stkC (cor A) (stk (cor A) ++ [v.toInt.toNat])) hX hA (ok_cor hA (ok_wheel hA.1 (by omega) (by omega))) (hR.core hA (fun b hb => by rw [up2_off (by omega), up2_off (by omega)]) (StX.wheel (by omega) hA.1 hR.2.2.1 (fun b h1 h2 => by rw [up2_off (by omega), up2_off (by omega)]) (fun k hk => by rw [up2_ne (by omega), up2_off (by omega)]) up2_same (by rw [up2_off (by omega), up2_same]; exact nIx (by omega) rfl) (fun j hj => by rw [up2_off (by omega), up2_ne (by omega)])) (fun _ _ => rfl)) ((FrX.rf.up (by omega)).up (by omega)) FrX.rf (by rw [s_wheel, if_pos q, if_neg q12, iI_nat]) (by rw [s_wheel, if_pos q, if_neg q12]))
  · have q := bi_eq.mp h4
    refine V.aload_n (pc := 7) dX11_wheel_7 rfl ?_
    refine V.iconst (v := (-1)) (pc := 8) dX11_wheel_8 (by decide) ?_
    refine V.invV0 (as := [_]) (pc := 9) dX11_wheel_9 lX11_85 bX11_refuse nX11_refuse (ci := 10) rfl eX11_refuse hX.o (x_refuse1 (d := d + 3) hX) (by omega) rfl (Nat.le_of_ble_eq_true rfl) ?_
    rintro _ _ _ _ _ _ ⟨rfl, rfl, rfl, rfl, rfl, rfl⟩
    exact V.iret (pc := 12) dX11_wheel_12 rfl (QX.no 0 (-1) (by decide) hX hA hR FrX.rf FrX.rf (by omega) (by rw [s_wheel, if_neg q]))
