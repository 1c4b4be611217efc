theorem x_feed4 {g : gG} {d : Nat} {T : mT} {n : Nat} {I : mI} {J : mJ} {F : mF} {x k : Nat} (v : Int32) (hX : XS T F x) (hk : k + 4 ≤ 400) (h3 : I x 3 = nI k) : Ct g mX11_feedNumber (d + 0) [.ref x, .int v] 0 0 T n I J F (fun r' T' n' I' J' F' => r' = none ∧ T' = T ∧ n' = n ∧ J' = J ∧ F' = F ∧ FedX x k (byt4 v) I I') := by
  refine Ct.ofV (k := 1) (by decide) (Nat.le_of_ble_eq_true rfl) ?_
  show V g mX11_feedNumber (d + 0) _ 0 0 0 [some (.ref x), some (.int v), none] [] T n I J F
  refine V.bipush (v := 24) (pc := 0) dX11_feedNumber_0 (by decide) ?_
  refine V.isn (pc := 2) dX11_feedNumber_2 (by decide) (st1_2 rfl) ?_
  refine V.iload_n (pc := 3) dX11_feedNumber_3 rfl ?_
  refine V.if_lt 58 (pc := 4) dX11_feedNumber_4 (by decide) (fun h4 => absurd h4 (by decide)) (fun h4 => ?_)
  refine V.aload_n (pc := 7) dX11_feedNumber_7 rfl ?_
  refine V.getI (pc := 8) dX11_feedNumber_8 fX11_24_10 rfl hX.o ?_
  rw [h3]
  refine V.if_lt 58 (pc := 11) dX11_feedNumber_11 (by decide) (fun h11 => absurd h11 (nI_pos (by omega))) (fun h11 => ?_)
  refine V.aload_n (pc := 14) dX11_feedNumber_14 rfl ?_
  refine V.getI (pc := 15) dX11_feedNumber_15 fX11_24_10 rfl hX.o ?_
  refine V.aload_n (pc := 18) dX11_feedNumber_18 rfl ?_
  refine V.getR (pc := 19) dX11_feedNumber_19 fX11_20_10 rfl hX.o hX.f2 ?_
  refine V.alen (pc := 22) dX11_feedNumber_22 hX.t2 ty_i (by rfl) ?_
  rw [h3]
  refine V.icmp_ge 58 (pc := 23) dX11_feedNumber_23 (by decide) (fun h23 => absurd h23 (by rw [show (Int32.ofNat 400) = nI 400 from rfl]; exact nI_ge (by omega) (by omega))) (fun h23 => ?_)
  refine V.aload_n (pc := 26) dX11_feedNumber_26 rfl ?_
  refine V.getR (pc := 27) dX11_feedNumber_27 fX11_20_10 rfl hX.o hX.f2 ?_
  refine V.aload_n (pc := 30) dX11_feedNumber_30 rfl ?_
  refine V.getI (pc := 31) dX11_feedNumber_31 fX11_24_10 rfl hX.o ?_
  rw [h3]
  refine V.iload_n (pc := 34) dX11_feedNumber_34 rfl ?_
  refine V.iload_n (pc := 35) dX11_feedNumber_35 rfl ?_
  refine V.iushr (pc := 36) dX11_feedNumber_36 ?_
  refine V.sipush (v := 255) (pc := 37) dX11_feedNumber_37 (by decide) ?_
  refine V.iand (pc := 40) dX11_feedNumber_40 ?_
  rw [byu24]
  refine V.iast' (k := k) (pc := 41) dX11_feedNumber_41 hX.t2 rfl (by omega) (by decide) ?_
  refine V.aload_n (pc := 42) dX11_feedNumber_42 rfl ?_
  refine V.dup (pc := 43) dX11_feedNumber_43 rfl ?_
  refine V.getI (pc := 44) dX11_feedNumber_44 fX11_24_10 rfl hX.o ?_
  rw [up2_off (by omega), h3]
  refine V.iconst (v := 1) (pc := 47) dX11_feedNumber_47 (by decide) ?_
  refine V.iadd (pc := 48) dX11_feedNumber_48 ?_
  rw [nI_1]
  refine V.putI (pc := 49) dX11_feedNumber_49 fX11_24_10 (fun r h => by cases h; exact Or.inl rfl) rfl hX.o ?_
  refine V.iinc (v := 16) (pc := 52) dX11_feedNumber_52 (by decide) rfl (by decide) (st1_2 rfl) ?_
  refine V.goto 3 (pc := 55) dX11_feedNumber_55 (by decide) ?_
  refine V.iload_n (pc := 3) dX11_feedNumber_3 rfl ?_
  refine V.if_lt 58 (pc := 4) dX11_feedNumber_4 (by decide) (fun h4 => absurd h4 (by decide)) (fun h4 => ?_)
  refine V.aload_n (pc := 7) dX11_feedNumber_7 rfl ?_
  refine V.getI (pc := 8) dX11_feedNumber_8 fX11_24_10 rfl hX.o ?_
  rw [up2_same]
  refine V.if_lt 58 (pc := 11) dX11_feedNumber_11 (by decide) (fun h11 => absurd h11 (nI_pos (by omega))) (fun h11 => ?_)
  refine V.aload_n (pc := 14) dX11_feedNumber_14 rfl ?_
  refine V.getI (pc := 15) dX11_feedNumber_15 fX11_24_10 rfl hX.o ?_
  refine V.aload_n (pc := 18) dX11_feedNumber_18 rfl ?_
  refine V.getR (pc := 19) dX11_feedNumber_19 fX11_20_10 rfl hX.o hX.f2 ?_
  refine V.alen (pc := 22) dX11_feedNumber_22 hX.t2 ty_i (by rfl) ?_
  rw [up2_same]
  refine V.icmp_ge 58 (pc := 23) dX11_feedNumber_23 (by decide) (fun h23 => absurd h23 (by rw [show (Int32.ofNat 400) = nI 400 from rfl]; exact nI_ge (by omega) (by omega))) (fun h23 => ?_)
  refine V.aload_n (pc := 26) dX11_feedNumber_26 rfl ?_
  refine V.getR (pc := 27) dX11_feedNumber_27 fX11_20_10 rfl hX.o hX.f2 ?_
  refine V.aload_n (pc := 30) dX11_feedNumber_30 rfl ?_
  refine V.getI (pc := 31) dX11_feedNumber_31 fX11_24_10 rfl hX.o ?_
  rw [up2_same]
  refine V.iload_n (pc := 34) dX11_feedNumber_34 rfl ?_
  refine V.iload_n (pc := 35) dX11_feedNumber_35 rfl ?_
  refine V.iushr (pc := 36) dX11_feedNumber_36 ?_
  refine V.sipush (v := 255) (pc := 37) dX11_feedNumber_37 (by decide) ?_
  refine V.iand (pc := 40) dX11_feedNumber_40 ?_
  rw [byu16]
  refine V.iast' (k := k + 1) (pc := 41) dX11_feedNumber_41 hX.t2 rfl (by omega) (by decide) ?_
  refine V.aload_n (pc := 42) dX11_feedNumber_42 rfl ?_
  refine V.dup (pc := 43) dX11_feedNumber_43 rfl ?_
  refine V.getI (pc := 44) dX11_feedNumber_44 fX11_24_10 rfl hX.o ?_
  rw [up2_off (by omega), up2_same]
  refine V.iconst (v := 1) (pc := 47) dX11_feedNumber_47 (by decide) ?_
  refine V.iadd (pc := 48) dX11_feedNumber_48 ?_
  rw [nI_1]
  refine V.putI (pc := 49) dX11_feedNumber_49 fX11_24_10 (fun r h => by cases h; exact Or.inl rfl) rfl hX.o ?_
  refine V.iinc (v := 8) (pc := 52) dX11_feedNumber_52 (by decide) rfl (by decide) (st1_2 rfl) ?_
  refine V.goto 3 (pc := 55) dX11_feedNumber_55 (by decide) ?_
  refine V.iload_n (pc := 3) dX11_feedNumber_3 rfl ?_
  refine V.if_lt 58 (pc := 4) dX11_feedNumber_4 (by decide) (fun h4 => absurd h4 (by decide)) (fun h4 => ?_)
  refine V.aload_n (pc := 7) dX11_feedNumber_7 rfl ?_
  refine V.getI (pc := 8) dX11_feedNumber_8 fX11_24_10 rfl hX.o ?_
  rw [up2_same]
  refine V.if_lt 58 (pc := 11) dX11_feedNumber_11 (by decide) (fun h11 => absurd h11 (nI_pos (by omega))) (fun h11 => ?_)
  refine V.aload_n (pc := 14) dX11_feedNumber_14 rfl ?_
  refine V.getI (pc := 15) dX11_feedNumber_15 fX11_24_10 rfl hX.o ?_
  refine V.aload_n (pc := 18) dX11_feedNumber_18 rfl ?_
  refine V.getR (pc := 19) dX11_feedNumber_19 fX11_20_10 rfl hX.o hX.f2 ?_
  refine V.alen (pc := 22) dX11_feedNumber_22 hX.t2 ty_i (by rfl) ?_
  rw [up2_same]
  refine V.icmp_ge 58 (pc := 23) dX11_feedNumber_23 (by decide) (fun h23 => absurd h23 (by rw [show (Int32.ofNat 400) = nI 400 from rfl]; exact nI_ge (by omega) (by omega))) (fun h23 => ?_)
  refine V.aload_n (pc := 26) dX11_feedNumber_26 rfl ?_
  refine V.getR (pc := 27) dX11_feedNumber_27 fX11_20_10 rfl hX.o hX.f2 ?_
  refine V.aload_n (pc := 30) dX11_feedNumber_30 rfl ?_
  refine V.getI (pc := 31) dX11_feedNumber_31 fX11_24_10 rfl hX.o ?_
  rw [up2_same]
  refine V.iload_n (pc := 34) dX11_feedNumber_34 rfl ?_
  refine V.iload_n (pc := 35) dX11_feedNumber_35 rfl ?_
  refine V.iushr (pc := 36) dX11_feedNumber_36 ?_
  refine V.sipush (v := 255) (pc := 37) dX11_feedNumber_37 (by decide) ?_
  refine V.iand (pc := 40) dX11_feedNumber_40 ?_
  rw [byu8]
  refine V.iast' (k := k + 2) (pc := 41) dX11_feedNumber_41 hX.t2 rfl (by omega) (by decide) ?_
  refine V.aload_n (pc := 42) dX11_feedNumber_42 rfl ?_
  refine V.dup (pc := 43) dX11_feedNumber_43 rfl ?_
  refine V.getI (pc := 44) dX11_feedNumber_44 fX11_24_10 rfl hX.o ?_
  rw [up2_off (by omega), up2_same]
  refine V.iconst (v := 1) (pc := 47) dX11_feedNumber_47 (by decide) ?_
  refine V.iadd (pc := 48) dX11_feedNumber_48 ?_
  rw [nI_1]
  refine V.putI (pc := 49) dX11_feedNumber_49 fX11_24_10 (fun r h => by cases h; exact Or.inl rfl) rfl hX.o ?_
  refine V.iinc (v := 0) (pc := 52) dX11_feedNumber_52 (by decide) rfl (by decide) (st1_2 rfl) ?_
  refine V.goto 3 (pc := 55) dX11_feedNumber_55 (by decide) ?_
  refine V.iload_n (pc := 3) dX11_feedNumber_3 rfl ?_
  refine V.if_lt 58 (pc := 4) dX11_feedNumber_4 (by decide) (fun h4 => absurd h4 (by decide)) (fun h4 => ?_)
  refine V.aload_n (pc := 7) dX11_feedNumber_7 rfl ?_
  refine V.getI (pc := 8) dX11_feedNumber_8 fX11_24_10 rfl hX.o ?_
  rw [up2_same]
  refine V.if_lt 58 (pc := 11) dX11_feedNumber_11 (by decide) (fun h11 => absurd h11 (nI_pos (by omega))) (fun h11 => ?_)
  refine V.aload_n (pc := 14) dX11_feedNumber_14 rfl ?_
  refine V.getI (pc := 15) dX11_feedNumber_15 fX11_24_10 rfl hX.o ?_
  refine V.aload_n (pc := 18) dX11_feedNumber_18 rfl ?_
  refine V.getR (pc := 19) dX11_feedNumber_19 fX11_20_10 rfl hX.o hX.f2 ?_
  refine V.alen (pc := 22) dX11_feedNumber_22 hX.t2 ty_i (by rfl) ?_
  rw [up2_same]
  refine V.icmp_ge 58 (pc := 23) dX11_feedNumber_23 (by decide) (fun h23 => absurd h23 (by rw [show (Int32.ofNat 400) = nI 400 from rfl]; exact nI_ge (by omega) (by omega))) (fun h23 => ?_)
  refine V.aload_n (pc := 26) dX11_feedNumber_26 rfl ?_
  refine V.getR (pc := 27) dX11_feedNumber_27 fX11_20_10 rfl hX.o hX.f2 ?_
  refine V.aload_n (pc := 30) dX11_feedNumber_30 rfl ?_
  refine V.getI (pc := 31) dX11_feedNumber_31 fX11_24_10 rfl hX.o ?_
  rw [up2_same]
  refine V.iload_n (pc := 34) dX11_feedNumber_34 rfl ?_
  refine V.iload_n (pc := 35) dX11_feedNumber_35 rfl ?_
  refine V.iushr (pc := 36) dX11_feedNumber_36 ?_
  refine V.sipush (v := 255) (pc := 37) dX11_feedNumber_37 (by decide) ?_
  refine V.iand (pc := 40) dX11_feedNumber_40 ?_
  rw [byu0]
  refine V.iast' (k := k + 3) (pc := 41) dX11_feedNumber_41 hX.t2 rfl (by omega) (by decide) ?_
  refine V.aload_n (pc := 42) dX11_feedNumber_42 rfl ?_
  refine V.dup (pc := 43) dX11_feedNumber_43 rfl ?_
  refine V.getI (pc := 44) dX11_feedNumber_44 fX11_24_10 rfl hX.o ?_
  rw [up2_off (by omega), up2_same]
  refine V.iconst (v := 1) (pc := 47) dX11_feedNumber_47 (by decide) ?_
  refine V.iadd (pc := 48) dX11_feedNumber_48 ?_
  rw [nI_1]
  refine V.putI (pc := 49) dX11_feedNumber_49 fX11_24_10 (fun r h => by cases h; exact Or.inl rfl) rfl hX.o ?_
  refine V.iinc (v := (-8)) (pc := 52) dX11_feedNumber_52 (by decide) rfl (by decide) (st1_2 rfl) ?_
  refine V.goto 3 (pc := 55) dX11_feedNumber_55 (by decide) ?_
  refine V.iload_n (pc := 3) dX11_feedNumber_3 rfl ?_
  refine V.if_lt 58 (pc := 4) dX11_feedNumber_4 (by decide) (fun h4 => ?_) (fun h4 => absurd (by decide) h4)
  exact V.vret (pc := 58) dX11_feedNumber_58 rfl ⟨rfl, rfl, rfl, rfl, rfl, fun b h1 h2 => by rw [up2_off h1, up2_off h2, up2_off h1, up2_off h2, up2_off h1, up2_off h2, up2_off h1, up2_off h2], fun j hj => by rw [up2_ne (by omega), up2_off (by omega), up2_ne (by omega), up2_off (by omega), up2_ne (by omega), up2_off (by omega), up2_ne (by omega), up2_off (by omega)], up2_same, fun j hj => by
    have hj2 : j < k ∨ k + 4 ≤ j := hj
    rw [up2_off (by omega), up2_ne (by omega), up2_off (by omega), up2_ne (by omega), up2_off (by omega), up2_ne (by omega), up2_off (by omega), up2_ne (by omega)], fun i t hi => by
    match i, hi with
    | 0, hi => cases hi; rw [up2_off (by omega), up2_ne (by omega), up2_off (by omega), up2_ne (by omega), up2_off (by omega), up2_ne (by omega), up2_off (by omega)]; exact up2_same
    | 1, hi => cases hi; rw [up2_off (by omega), up2_ne (by omega), up2_off (by omega), up2_ne (by omega), up2_off (by omega)]; exact up2_same
    | 2, hi => cases hi; rw [up2_off (by omega), up2_ne (by omega), up2_off (by omega)]; exact up2_same
    | 3, hi => cases hi; rw [up2_off (by omega)]; exact up2_same
    | i + 4, hi => cases hi⟩
theorem y_feed {g : gG} {d : Nat} {T : mT} {n : Nat} {I : mI} {J : mJ} {F : mF} {x : Nat} {A : Ab} (a b c e f : Int32) (hX : XS T F x) (hA : AbOK A) (hR : RepX T I J F x A)  : Ct g mX11_feed (d + 4) [.ref x, .int a, .int b, .int c, .int e, .int f] 0 0 T n I J F (QX x T n I J F (some (.int (iI (s_feed A a b c e f).1))) (s_feed A a b c e f).2) := by
  refine Ct.ofV (k := 0) (by decide) (Nat.le_of_ble_eq_true rfl) ?_
  show V g mX11_feed (d + 4) _ 0 0 0 [some (.ref x), some (.int a), some (.int b), some (.int c), some (.int e), some (.int f)] [] T n I J F
  have hTo := hX.s.o
  have h400 := hA.2.2.1
  refine V.aload_n (pc := 0) dX11_feed_0 rfl ?_
  refine V.getI (pc := 1) dX11_feed_1 fX11_24_10 rfl hX.o ?_
  rw [hR.1.1]
  refine V.bipush (v := 20) (pc := 4) dX11_feed_4 (by decide) ?_
  refine V.iadd (pc := 6) dX11_feed_6 ?_
  rw [L20, nI_add]
  refine V.sipush (v := 400) (pc := 7) dX11_feed_7 (by decide) ?_
  refine V.icmp_le 15 (pc := 10) dX11_feed_10 (by decide) (fun h10 => ?_) (fun h10 => ?_)
  · have q : (tap A).length + 20 ≤ 400 := by
      rw [L400, nI_leI (by omega) (by omega)] at h10
      exact h10
    refine V.aload_n (pc := 15) dX11_feed_15 rfl ?_
    refine V.iload_n (pc := 16) dX11_feed_16 rfl ?_
    refine V.invV0 (as := [_]) (pc := 17) dX11_feed_17 lX11_143 bX11_feedNumber nX11_feedNumber (ci := 10) rfl eX11_feedNumber hX.o (x_feed4 (d := d + 3) (k := (tap A).length + 0) _ hX (by omega) hR.1.1) (by omega) rfl (Nat.le_of_ble_eq_true rfl) ?_
    rintro _ _ _ I2 _ _ ⟨rfl, rfl, rfl, rfl, rfl, e1⟩
    have f1 := e1
    refine V.aload_n (pc := 20) dX11_feed_20 rfl ?_
    refine V.iload_n (pc := 21) dX11_feed_21 rfl ?_
    refine V.invV0 (as := [_]) (pc := 22) dX11_feed_22 lX11_143 bX11_feedNumber nX11_feedNumber (ci := 10) rfl eX11_feedNumber hX.o (x_feed4 (d := d + 3) (k := (tap A).length + 4) _ hX (by omega) f1.2.2.1) (by omega) rfl (Nat.le_of_ble_eq_true rfl) ?_
    rintro _ _ _ I3 _ _ ⟨rfl, rfl, rfl, rfl, rfl, e2⟩
    have f2 := FedX.app f1 e2 (by simp [byt4])
    refine V.aload_n (pc := 25) dX11_feed_25 rfl ?_
    refine V.iload_n (pc := 26) dX11_feed_26 rfl ?_
    refine V.invV0 (as := [_]) (pc := 27) dX11_feed_27 lX11_143 bX11_feedNumber nX11_feedNumber (ci := 10) rfl eX11_feedNumber hX.o (x_feed4 (d := d + 3) (k := (tap A).length + 8) _ hX (by omega) f2.2.2.1) (by omega) rfl (Nat.le_of_ble_eq_true rfl) ?_
    rintro _ _ _ I4 _ _ ⟨rfl, rfl, rfl, rfl, rfl, e3⟩
    have f3 := FedX.app f2 e3 (by simp [byt4])
    refine V.aload_n (pc := 30) dX11_feed_30 rfl ?_
    refine V.iload (pc := 31) dX11_feed_31 rfl ?_
    refine V.invV0 (as := [_]) (pc := 33) dX11_feed_33 lX11_143 bX11_feedNumber nX11_feedNumber (ci := 10) rfl eX11_feedNumber hX.o (x_feed4 (d := d + 3) (k := (tap A).length + 12) _ hX (by omega) f3.2.2.1) (by omega) rfl (Nat.le_of_ble_eq_true rfl) ?_
    rintro _ _ _ I5 _ _ ⟨rfl, rfl, rfl, rfl, rfl, e4⟩
    have f4 := FedX.app f3 e4 (by simp [byt4])
    refine V.aload_n (pc := 36) dX11_feed_36 rfl ?_
    refine V.iload (pc := 37) dX11_feed_37 rfl ?_
    refine V.invV0 (as := [_]) (pc := 39) dX11_feed_39 lX11_143 bX11_feedNumber nX11_feedNumber (ci := 10) rfl eX11_feedNumber hX.o (x_feed4 (d := d + 3) (k := (tap A).length + 16) _ hX (by omega) f4.2.2.1) (by omega) rfl (Nat.le_of_ble_eq_true rfl) ?_
    rintro _ _ _ I6 _ _ ⟨rfl, rfl, rfl, rfl, rfl, e5⟩
    have f5 := FedX.app f4 e5 (by simp [byt4])
    refine V.aload_n (pc := 42) dX11_feed_42 rfl ?_
    refine V.getI (pc := 43) dX11_feed_43 fX11_24_10 rfl hX.o ?_
    exact V.iret (pc := 46) dX11_feed_46 rfl (by
    rw [s_feed, if_pos q, f5.2.2.1]
    obtain ⟨p1, p2, p3, p4, p5⟩ := f5
    obtain ⟨b1, b2, b3, b4⟩ := hR.1
    have hi0 := hR.2.2.2.2.2.1
    have e20 : iI (((tap A).length + 20 : Nat) : Int) = nI ((tap A).length + 0 + (byt4 a ++ byt4 b ++ byt4 c ++ byt4 e ++ byt4 f).length) := iI_nat _
    rw [← e20]
    refine QX.mk' hX (fun z h1 h2 => p1 z (by omega) (by omega)) FrX.rf (hR.tape hA _ (fun z h1 h2 => p1 z h1 h2) ⟨rfl, rfl, rfl, rfl⟩ ⟨?_, ?_, ?_, ?_⟩ (fun i t hi => ?_))
    · rw [p3]; show _ = nI (tap A ++ (byt4 a ++ byt4 b ++ byt4 c ++ byt4 e ++ byt4 f)).length; rw [List.length_append (as := tap A)]; rfl
    · rw [p2 _ (by omega)]; exact b2
    · rw [p2 _ (by omega)]; exact b3
    · rw [p2 _ (by omega)]; exact b4
    · have hi2 : (tap A ++ (byt4 a ++ byt4 b ++ byt4 c ++ byt4 e ++ byt4 f))[i]? = some t := hi
      by_cases z : i < (tap A).length
      · rw [List.getElem?_append_left z] at hi2
        rw [p4 _ (by omega)]
        exact hi0 i t hi2
      · rw [List.getElem?_append_right (by omega)] at hi2
        have := p5 _ t hi2
        rw [show (tap A).length + 0 + (i - (tap A).length) = i by omega] at this
        exact this)
  · have q : ¬ (tap A).length + 20 ≤ 400 := by
      rw [L400, nI_leI (by omega) (by omega)] at h10
      exact h10
    refine V.iconst (v := (-1)) (pc := 13) dX11_feed_13 (by decide) ?_
    exact V.iret (pc := 14) dX11_feed_14 rfl (QX.pure hX hR (by rw [s_feed, if_neg q]; rfl) (by rw [s_feed, if_neg q]))
