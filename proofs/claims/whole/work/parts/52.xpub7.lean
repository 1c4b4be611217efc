theorem ixp {a b : Int32} {k h : Nat} (ha : a = nI k) (hb : b = nI h) : a * 6 + b = nI (6 * k + h) := by
  subst ha hb
  rw [L6, pk_mul, nI_add, Nat.mul_comm]
theorem x_pushOf {g : gG} {d : Nat} {T : mT} {n : Nat} {I : mI} {J : mJ} {F : mF} {u k h : Nat} (a b : Int32) (hS : SS T F u) (ha : a = nI k) (hb : b = nI h) (hk : 6 * k + h < 24) : Ct g mX8_pushOf (d + 0) [.ref u, .int a, .int b] 0 0 T n I J F (pureQ T n I J F (some (.int (I (u + 7) (6 * k + h))))) := by
  refine Ct.ofV (k := 1) (by decide) (Nat.le_of_ble_eq_true rfl) ?_
  show V g mX8_pushOf (d + 0) _ 0 0 0 [some (.ref u), some (.int a), some (.int b), none] [] T n I J F
  refine V.iload_n (pc := 0) dX8_pushOf_0 rfl ?_
  refine V.bipush (v := 6) (pc := 1) dX8_pushOf_1 (by decide) ?_
  refine V.imul (pc := 3) dX8_pushOf_3 ?_
  refine V.iload_n (pc := 4) dX8_pushOf_4 rfl ?_
  refine V.iadd (pc := 5) dX8_pushOf_5 ?_
  rw [ixp ha hb]
  refine V.isn (pc := 6) dX8_pushOf_6 (by decide) (st1_3 rfl) ?_
  refine V.iload_n (pc := 7) dX8_pushOf_7 rfl ?_
  refine V.if_lt 29 (pc := 8) dX8_pushOf_8 (by decide) (fun h8 => absurd h8 (nI_pos (by omega))) (fun h8 => ?_)
  refine V.iload_n (pc := 11) dX8_pushOf_11 rfl ?_
  refine V.aload_n (pc := 12) dX8_pushOf_12 rfl ?_
  refine V.getR (pc := 13) dX8_pushOf_13 fX8_59_7 rfl hS.o hS.f13 ?_
  refine V.alen (pc := 16) dX8_pushOf_16 hS.t13 ty_i (by rfl) ?_
  refine V.icmp_ge 29 (pc := 17) dX8_pushOf_17 (by decide) (fun h17 => absurd h17 (by rw [show (Int32.ofNat 24) = nI 24 from rfl]; exact nI_ge hk (by omega))) (fun h17 => ?_)
  refine V.aload_n (pc := 20) dX8_pushOf_20 rfl ?_
  refine V.getR (pc := 21) dX8_pushOf_21 fX8_59_7 rfl hS.o hS.f13 ?_
  refine V.iload_n (pc := 24) dX8_pushOf_24 rfl ?_
  refine V.iald' (k := 6 * k + h) (pc := 25) dX8_pushOf_25 hS.t13 rfl (by omega) (by decide) ?_
  refine V.goto 30 (pc := 26) dX8_pushOf_26 (by decide) ?_
  exact V.iret (pc := 30) dX8_pushOf_30 rfl ⟨rfl, rfl, rfl, rfl, rfl, rfl⟩
theorem x_setPush {g : gG} {d : Nat} {T : mT} {n : Nat} {I : mI} {J : mJ} {F : mF} {u k h : Nat} (a b v : Int32) (hS : SS T F u) (ha : a = nI k) (hb : b = nI h) (hk : 6 * k + h < 24) : Ct g mX8_setPush (d + 0) [.ref u, .int a, .int b, .int v] 0 0 T n I J F (fun r' T' n' I' J' F' => r' = none ∧ T' = T ∧ n' = n ∧ I' = up2 I (u + 7) (6 * k + h) v ∧ J' = J ∧ F' = F) := by
  refine Ct.ofV (k := 1) (by decide) (Nat.le_of_ble_eq_true rfl) ?_
  show V g mX8_setPush (d + 0) _ 0 0 0 [some (.ref u), some (.int a), some (.int b), some (.int v), none] [] T n I J F
  refine V.iload_n (pc := 0) dX8_setPush_0 rfl ?_
  refine V.bipush (v := 6) (pc := 1) dX8_setPush_1 (by decide) ?_
  refine V.imul (pc := 3) dX8_setPush_3 ?_
  refine V.iload_n (pc := 4) dX8_setPush_4 rfl ?_
  refine V.iadd (pc := 5) dX8_setPush_5 ?_
  rw [ixp ha hb]
  refine V.is (pc := 6) dX8_setPush_6 (by decide) (st1_4 rfl) ?_
  refine V.iload (pc := 8) dX8_setPush_8 rfl ?_
  refine V.if_lt 31 (pc := 10) dX8_setPush_10 (by decide) (fun h10 => absurd h10 (nI_pos (by omega))) (fun h10 => ?_)
  refine V.iload (pc := 13) dX8_setPush_13 rfl ?_
  refine V.aload_n (pc := 15) dX8_setPush_15 rfl ?_
  refine V.getR (pc := 16) dX8_setPush_16 fX8_59_7 rfl hS.o hS.f13 ?_
  refine V.alen (pc := 19) dX8_setPush_19 hS.t13 ty_i (by rfl) ?_
  refine V.icmp_ge 31 (pc := 20) dX8_setPush_20 (by decide) (fun h20 => absurd h20 (by rw [show (Int32.ofNat 24) = nI 24 from rfl]; exact nI_ge hk (by omega))) (fun h20 => ?_)
  refine V.aload_n (pc := 23) dX8_setPush_23 rfl ?_
  refine V.getR (pc := 24) dX8_setPush_24 fX8_59_7 rfl hS.o hS.f13 ?_
  refine V.iload (pc := 27) dX8_setPush_27 rfl ?_
  refine V.iload_n (pc := 29) dX8_setPush_29 rfl ?_
  refine V.iast' (k := 6 * k + h) (pc := 30) dX8_setPush_30 hS.t13 rfl (by omega) (by decide) ?_
  exact V.vret (pc := 31) dX8_setPush_31 rfl ⟨rfl, rfl, rfl, rfl, rfl, rfl⟩
theorem y_push {g : gG} {d : Nat} {T : mT} {n : Nat} {I : mI} {J : mJ} {F : mF} {x : Nat} {A : Ab} (k v z : Int32) (hX : XS T F x) (hA : AbOK A) (hR : RepX T I J F x A)  : Ct g mX11_push (d + 4) [.ref x, .int k, .int v, .int z] 0 0 T n I J F (QX x T n I J F (some (.int (iI (s_push A k.toInt v.toInt z.toInt).1))) (s_push A k.toInt v.toInt z.toInt).2) := by
  refine Ct.ofV (k := 1) (by decide) (Nat.le_of_ble_eq_true rfl) ?_
  show V g mX11_push (d + 4) _ 0 0 0 [some (.ref x), some (.int k), some (.int v), some (.int z), none] [] T n I J F
  have hTo := hX.s.o
  have h44 := hA.1.2.2.2.2.2.2.2.2.2.1
  refine V.iload_n (pc := 0) dX11_push_0 rfl ?_
  refine V.if_lt 10 (pc := 1) dX11_push_1 (by decide) (fun h1 => ?_) (fun h1 => ?_)
  · have qv : ¬ (0 ≤ z.toInt ∧ z.toInt ≤ 9) := by
      have e0 : (0 : Int32).toInt = 0 := rfl
      have e1 : (1 : Int32).toInt = 1 := rfl
      have em : (-1 : Int32).toInt = -1 := rfl
      have eM : (1000000 : Int32).toInt = 1000000 := rfl
      have e9 : (9 : Int32).toInt = 9 := rfl
      have e99 : (9999 : Int32).toInt = 9999 := rfl
      rw [lt32] at h1
      omega
    refine V.aload_n (pc := 10) dX11_push_10 rfl ?_
    refine V.iconst (v := (-1)) (pc := 11) dX11_push_11 (by decide) ?_
    refine V.invV0 (as := [_]) (pc := 12) dX11_push_12 lX11_85 bX11_refuse nX11_refuse (ci := 10) rfl eX11_refuse hX.o (x_refuse1 (d := d + 3) hX) (by omega) rfl (Nat.le_of_ble_eq_true rfl) ?_
    rintro _ _ _ _ _ _ ⟨rfl, rfl, rfl, rfl, rfl, rfl⟩
    exact V.iret (pc := 15) dX11_push_15 rfl (QX.no 0 (-1) (by decide) hX hA hR FrX.rf FrX.rf (by omega) (by rw [s_push, if_neg qv]; rfl))
  · refine V.iload_n (pc := 4) dX11_push_4 rfl ?_
    refine V.bipush (v := 9) (pc := 5) dX11_push_5 (by decide) ?_
    refine V.icmp_le 16 (pc := 7) dX11_push_7 (by decide) (fun h7 => ?_) (fun h7 => ?_)
    · have qv : 0 ≤ z.toInt ∧ z.toInt ≤ 9 := by
        have e0 : (0 : Int32).toInt = 0 := rfl
        have e1 : (1 : Int32).toInt = 1 := rfl
        have em : (-1 : Int32).toInt = -1 := rfl
        have eM : (1000000 : Int32).toInt = 1000000 := rfl
        have e9 : (9 : Int32).toInt = 9 := rfl
        have e99 : (9999 : Int32).toInt = 9999 := rfl
        rw [lt32] at h1
        rw [le32] at h7
        omega
      refine V.iload_n (pc := 16) dX11_push_16 rfl ?_
      refine V.if_lt 42 (pc := 17) dX11_push_17 (by decide) (fun h17 => ?_) (fun h17 => ?_)
      · have q : ¬ ((0 ≤ k.toInt ∧ k.toInt < (kns (cor A)).length) ∧ (0 ≤ v.toInt ∧ v.toInt < (hds (cor A)).length)) := by
          have e0 : (0 : Int32).toInt = 0 := rfl
          have e1 : (1 : Int32).toInt = 1 := rfl
          have em : (-1 : Int32).toInt = -1 := rfl
          have eM : (1000000 : Int32).toInt = 1000000 := rfl
          have e9 : (9 : Int32).toInt = 9 := rfl
          have e99 : (9999 : Int32).toInt = 9999 := rfl
          rw [lt32] at h17
          omega
        refine V.aload_n (pc := 42) dX11_push_42 rfl ?_
        refine V.bipush (v := (-2)) (pc := 43) dX11_push_43 (by decide) ?_
        refine V.invV0 (as := [_]) (pc := 45) dX11_push_45 lX11_85 bX11_refuse nX11_refuse (ci := 10) rfl eX11_refuse hX.o (x_refuse2 (d := d + 3) hX) (by omega) rfl (Nat.le_of_ble_eq_true rfl) ?_
        rintro _ _ _ _ _ _ ⟨rfl, rfl, rfl, rfl, rfl, rfl⟩
        exact V.iret (pc := 48) dX11_push_48 rfl (QX.no 1 (-2) (by decide) hX hA hR FrX.rf FrX.rf (by omega) (by rw [s_push, if_pos qv, if_neg q]; rfl))
      · have k0 : 0 ≤ k.toInt := by
          have e0 : (0 : Int32).toInt = 0 := rfl
          have e1 : (1 : Int32).toInt = 1 := rfl
          have em : (-1 : Int32).toInt = -1 := rfl
          have eM : (1000000 : Int32).toInt = 1000000 := rfl
          have e9 : (9 : Int32).toInt = 9 := rfl
          have e99 : (9999 : Int32).toInt = 9999 := rfl
          rw [lt32] at h17
          omega
        refine V.iload_n (pc := 20) dX11_push_20 rfl ?_
        refine V.aload_n (pc := 21) dX11_push_21 rfl ?_
        refine V.getR (pc := 22) dX11_push_22 fX11_10_10 rfl hX.o hX.f0 ?_
        refine V.getI (pc := 25) dX11_push_25 fX11_258_7 rfl (by assumption) ?_
        rw [hR.h14]
        refine V.icmp_ge 42 (pc := 28) dX11_push_28 (by decide) (fun h28 => ?_) (fun h28 => ?_)
        · have q : ¬ ((0 ≤ k.toInt ∧ k.toInt < (kns (cor A)).length) ∧ (0 ≤ v.toInt ∧ v.toInt < (hds (cor A)).length)) := by
            rw [le32, nI_toInt (by omega)] at h28
            omega
          refine V.aload_n (pc := 42) dX11_push_42 rfl ?_
          refine V.bipush (v := (-2)) (pc := 43) dX11_push_43 (by decide) ?_
          refine V.invV0 (as := [_]) (pc := 45) dX11_push_45 lX11_85 bX11_refuse nX11_refuse (ci := 10) rfl eX11_refuse hX.o (x_refuse2 (d := d + 3) hX) (by omega) rfl (Nat.le_of_ble_eq_true rfl) ?_
          rintro _ _ _ _ _ _ ⟨rfl, rfl, rfl, rfl, rfl, rfl⟩
          exact V.iret (pc := 48) dX11_push_48 rfl (QX.no 1 (-2) (by decide) hX hA hR FrX.rf FrX.rf (by omega) (by rw [s_push, if_pos qv, if_neg q]; rfl))
        · have kl : k.toInt < (kns (cor A)).length := by
            rw [le32, nI_toInt (by omega)] at h28
            omega
          refine V.aload_n (pc := 31) dX11_push_31 rfl ?_
          refine V.getR (pc := 32) dX11_push_32 fX11_10_10 rfl hX.o hX.f0 ?_
          refine V.iload_n (pc := 35) dX11_push_35 rfl ?_
          by_cases qh : 0 ≤ v.toInt ∧ v.toInt < (hds (cor A)).length
          · have q : (0 ≤ k.toInt ∧ k.toInt < (kns (cor A)).length) ∧ (0 ≤ v.toInt ∧ v.toInt < (hds (cor A)).length) := ⟨⟨k0, kl⟩, qh⟩
            have hl : k.toInt.toNat < (kns (cor A)).length := by omega
            have hk := List.getElem?_eq_getElem hl
            have hg : (kns (cor A)).getD k.toInt.toNat (fun _ => 0) = (kns (cor A))[k.toInt.toNat] := by rw [List.getD_eq_getElem?_getD, hk]; rfl
            have h66 := hA.1.1
            refine V.pV (as := [_]) (pc := 36) dX11_push_36 lX11_95 bX8_handAt nX8_handAt (ci := 7) rfl eX8_handAt (by assumption) (x_handAtY (d := d + 3) (k := (hds (cor A)).length) _ hX.s hR.h2 hA.1.1 qh) (by omega) rfl (Nat.le_of_ble_eq_true rfl) ?_
            refine V.ifnonnull 49 (pc := 39) dX11_push_39 (by decide) ?_
            refine V.aload_n (pc := 49) dX11_push_49 rfl ?_
            refine V.getR (pc := 50) dX11_push_50 fX11_10_10 rfl hX.o hX.f0 ?_
            refine V.iload_n (pc := 53) dX11_push_53 rfl ?_
            refine V.iload_n (pc := 54) dX11_push_54 rfl ?_
            refine V.pV (as := [_, _]) (pc := 55) dX11_push_55 lX11_261 bX8_pushOf nX8_pushOf (ci := 7) rfl eX8_pushOf (by assumption) (x_pushOf (d := d + 3) (k := k.toInt.toNat) (h := v.toInt.toNat) _ _ hX.s (nIx k0 rfl) (nIx qh.1 rfl) (by omega)) (by omega) rfl (Nat.le_of_ble_eq_true rfl) ?_
            rw [hR.2.2.1.2.2.2.2.1.1 _ _ hk _ (by omega)]
            refine V.is (pc := 58) dX11_push_58 (by decide) (st1_4 rfl) ?_
            refine V.aload_n (pc := 60) dX11_push_60 rfl ?_
            refine V.getR (pc := 61) dX11_push_61 fX11_10_10 rfl hX.o hX.f0 ?_
            refine V.iload_n (pc := 64) dX11_push_64 rfl ?_
            refine V.iload_n (pc := 65) dX11_push_65 rfl ?_
            refine V.iload_n (pc := 66) dX11_push_66 rfl ?_
            refine V.invV0 (as := [_, _, _]) (pc := 67) dX11_push_67 lX11_264 bX8_setPush nX8_setPush (ci := 7) rfl eX8_setPush (by assumption) (x_setPush (d := d + 3) (k := k.toInt.toNat) (h := v.toInt.toNat) _ _ _ hX.s (nIx k0 rfl) (nIx qh.1 rfl) (by omega)) (by omega) rfl (Nat.le_of_ble_eq_true rfl) ?_
            rintro _ _ _ _ _ _ ⟨rfl, rfl, rfl, rfl, rfl, rfl⟩
            refine V.aload_n (pc := 70) dX11_push_70 rfl ?_
            refine V.iload (pc := 71) dX11_push_71 rfl ?_
            refine V.invV0 (as := [_]) (pc := 73) dX11_push_73 lX11_92 bX11_accept nX11_accept (ci := 10) rfl eX11_accept hX.o (x_accept (d := d + 3) _ hX) (by omega) rfl (Nat.le_of_ble_eq_true rfl) ?_
            rintro _ _ _ _ _ _ ⟨rfl, rfl, rfl, rfl, rfl, rfl⟩
            exact V.iret (pc := 76) dX11_push_76 rfl (QX.yes (c := knsC (cor A) ((kns (cor A)).set k.toInt.toNat (fun i => if i = v.toInt.toNat then z.toInt.toNat else (kns (cor A))[k.toInt.toNat] i))) hX hA (ok_cor hA (ok_knobSet hA.1 hk (by omega))) (hR.core hA (fun b hb => up2_off (by omega)) (by have w := StX.knobSet (v := z.toInt.toNat) (lo := x + 111) (u := x + 1) (by omega) hA.1 hR.2.2.1 hk (show v.toInt.toNat < 6 by omega); rw [← nIx (show 0 ≤ z.toInt by omega) rfl] at w; exact w) (fun _ _ => rfl)) (FrX.rf.up (by omega)) FrX.rf (by rw [s_push, if_pos qv, if_pos q, hg]; simp only [okYes]; rw [iI_nat]) (by rw [s_push, if_pos qv, if_pos q, hg]; rfl))
          · have q : ¬ ((0 ≤ k.toInt ∧ k.toInt < (kns (cor A)).length) ∧ (0 ≤ v.toInt ∧ v.toInt < (hds (cor A)).length)) := fun z => qh z.2
            refine V.pV (as := [_]) (pc := 36) dX11_push_36 lX11_95 bX8_handAt nX8_handAt (ci := 7) rfl eX8_handAt (by assumption) (x_handAtN (d := d + 3) (k := (hds (cor A)).length) _ hX.s hR.h2 hA.1.1 qh) (by omega) rfl (Nat.le_of_ble_eq_true rfl) ?_
            refine V.ifnonnullN (pc := 39) dX11_push_39 ?_
            refine V.aload_n (pc := 42) dX11_push_42 rfl ?_
            refine V.bipush (v := (-2)) (pc := 43) dX11_push_43 (by decide) ?_
            refine V.invV0 (as := [_]) (pc := 45) dX11_push_45 lX11_85 bX11_refuse nX11_refuse (ci := 10) rfl eX11_refuse hX.o (x_refuse2 (d := d + 3) hX) (by omega) rfl (Nat.le_of_ble_eq_true rfl) ?_
            rintro _ _ _ _ _ _ ⟨rfl, rfl, rfl, rfl, rfl, rfl⟩
            exact V.iret (pc := 48) dX11_push_48 rfl (QX.no 1 (-2) (by decide) hX hA hR FrX.rf FrX.rf (by omega) (by rw [s_push, if_pos qv, if_neg q]; rfl))
    · have qv : ¬ (0 ≤ z.toInt ∧ z.toInt ≤ 9) := by
        have e0 : (0 : Int32).toInt = 0 := rfl
        have e1 : (1 : Int32).toInt = 1 := rfl
        have em : (-1 : Int32).toInt = -1 := rfl
        have eM : (1000000 : Int32).toInt = 1000000 := rfl
        have e9 : (9 : Int32).toInt = 9 := rfl
        have e99 : (9999 : Int32).toInt = 9999 := rfl
        rw [le32] at h7
        omega
      refine V.aload_n (pc := 10) dX11_push_10 rfl ?_
      refine V.iconst (v := (-1)) (pc := 11) dX11_push_11 (by decide) ?_
      refine V.invV0 (as := [_]) (pc := 12) dX11_push_12 lX11_85 bX11_refuse nX11_refuse (ci := 10) rfl eX11_refuse hX.o (x_refuse1 (d := d + 3) hX) (by omega) rfl (Nat.le_of_ble_eq_true rfl) ?_
      rintro _ _ _ _ _ _ ⟨rfl, rfl, rfl, rfl, rfl, rfl⟩
      exact V.iret (pc := 15) dX11_push_15 rfl (QX.no 0 (-1) (by decide) hX hA hR FrX.rf FrX.rf (by omega) (by rw [s_push, if_neg qv]; rfl))
theorem x_newSightN {g : gG} {d : Nat} {T : mT} {n : Nat} {I : mI} {J : mJ} {F : mF} {u : Nat} (a b c : Int32) (hS : SS T F u) (hq : I u 12 = nI 10) : Ct g mX8_newSight (d + 0) [.ref u, .int a, .int b, .int c] 0 0 T n I J F (pureQ T n I J F (some (.int 0))) := by
  refine Ct.ofV (k := 0) (by decide) (Nat.le_of_ble_eq_true rfl) ?_
  show V g mX8_newSight (d + 0) _ 0 0 0 [some (.ref u), some (.int a), some (.int b), some (.int c)] [] T n I J F
  refine V.aload_n (pc := 0) dX8_newSight_0 rfl ?_
  refine V.getI (pc := 1) dX8_newSight_1 fX8_56_7 rfl hS.o ?_
  rw [hq]
  refine V.if_lt 16 (pc := 4) dX8_newSight_4 (by decide) (fun h4 => absurd h4 (by decide)) (fun h4 => ?_)
  refine V.aload_n (pc := 7) dX8_newSight_7 rfl ?_
  refine V.getI (pc := 8) dX8_newSight_8 fX8_56_7 rfl hS.o ?_
  refine V.bipush (v := 10) (pc := 11) dX8_newSight_11 (by decide) ?_
  refine V.icmp_lt 18 (pc := 13) dX8_newSight_13 (by decide) (fun h13 => absurd h13 (by rw [hq]; decide)) (fun h13 => ?_)
  refine V.iconst (v := 0) (pc := 16) dX8_newSight_16 (by decide) ?_
  exact V.zret (pc := 17) dX8_newSight_17 rfl (by first | exact Or.inl rfl | exact Or.inr rfl | exact bi_or | assumption) ⟨rfl, rfl, rfl, rfl, rfl, rfl⟩
theorem x_newSightY {g : gG} {d : Nat} {T : mT} {n : Nat} {I : mI} {J : mJ} {F : mF} {u k : Nat} (a b c : Int32) (hS : SS T F u) (hq : I u 12 = nI k) (hk : k < 10) : Ct g mX8_newSight (d + 0) [.ref u, .int a, .int b, .int c] 0 0 T n I J F (fun r' T' n' I' J' F' => r' = some (.int 1) ∧ T' = T ∧ n' = n ∧ I' = up2 (up2 (up2 (up2 I (u + 4) k a) (u + 5) k b) (u + 6) k c) u 12 (nI (k + 1)) ∧ J' = J ∧ F' = F) := by
  refine Ct.ofV (k := 0) (by decide) (Nat.le_of_ble_eq_true rfl) ?_
  show V g mX8_newSight (d + 0) _ 0 0 0 [some (.ref u), some (.int a), some (.int b), some (.int c)] [] T n I J F
  refine V.aload_n (pc := 0) dX8_newSight_0 rfl ?_
  refine V.getI (pc := 1) dX8_newSight_1 fX8_56_7 rfl hS.o ?_
  rw [hq]
  refine V.if_lt 16 (pc := 4) dX8_newSight_4 (by decide) (fun h4 => absurd h4 (nI_pos (by omega))) (fun h4 => ?_)
  refine V.aload_n (pc := 7) dX8_newSight_7 rfl ?_
  refine V.getI (pc := 8) dX8_newSight_8 fX8_56_7 rfl hS.o ?_
  rw [hq]
  refine V.bipush (v := 10) (pc := 11) dX8_newSight_11 (by decide) ?_
  refine V.icmp_lt 18 (pc := 13) dX8_newSight_13 (by decide) (fun h13 => ?_) (fun h13 => absurd (by rw [L10, nI_ltI (by omega) (by omega)]; exact hk) h13)
  refine V.aload_n (pc := 18) dX8_newSight_18 rfl ?_
  refine V.getR (pc := 19) dX8_newSight_19 fX8_47_7 rfl hS.o hS.f9 ?_
  refine V.aload_n (pc := 22) dX8_newSight_22 rfl ?_
  refine V.getI (pc := 23) dX8_newSight_23 fX8_56_7 rfl hS.o ?_
  refine V.iload_n (pc := 26) dX8_newSight_26 rfl ?_
  refine V.iast' (k := k) (pc := 27) dX8_newSight_27 hS.t9 hq (by omega) (by decide) ?_
  refine V.aload_n (pc := 28) dX8_newSight_28 rfl ?_
  refine V.getR (pc := 29) dX8_newSight_29 fX8_50_7 rfl hS.o hS.f10 ?_
  refine V.aload_n (pc := 32) dX8_newSight_32 rfl ?_
  refine V.getI (pc := 33) dX8_newSight_33 fX8_56_7 rfl hS.o ?_
  rw [up2_off (by omega), hq]
  refine V.iload_n (pc := 36) dX8_newSight_36 rfl ?_
  refine V.iast' (k := k) (pc := 37) dX8_newSight_37 hS.t10 rfl (by omega) (by decide) ?_
  refine V.aload_n (pc := 38) dX8_newSight_38 rfl ?_
  refine V.getR (pc := 39) dX8_newSight_39 fX8_53_7 rfl hS.o hS.f11 ?_
  refine V.aload_n (pc := 42) dX8_newSight_42 rfl ?_
  refine V.getI (pc := 43) dX8_newSight_43 fX8_56_7 rfl hS.o ?_
  rw [up2_off (by omega), up2_off (by omega), hq]
  refine V.iload_n (pc := 46) dX8_newSight_46 rfl ?_
  refine V.iast' (k := k) (pc := 47) dX8_newSight_47 hS.t11 rfl (by omega) (by decide) ?_
  refine V.aload_n (pc := 48) dX8_newSight_48 rfl ?_
  refine V.dup (pc := 49) dX8_newSight_49 rfl ?_
  refine V.getI (pc := 50) dX8_newSight_50 fX8_56_7 rfl hS.o ?_
  rw [up2_off (by omega), up2_off (by omega), up2_off (by omega), hq]
  refine V.iconst (v := 1) (pc := 53) dX8_newSight_53 (by decide) ?_
  refine V.iadd (pc := 54) dX8_newSight_54 ?_
  rw [nI_1]
  refine V.putI (pc := 55) dX8_newSight_55 fX8_56_7 (fun r h => by cases h; exact Or.inl rfl) rfl hS.o ?_
  refine V.iconst (v := 1) (pc := 58) dX8_newSight_58 (by decide) ?_
  exact V.zret (pc := 59) dX8_newSight_59 rfl (by first | exact Or.inl rfl | exact Or.inr rfl | exact bi_or | assumption) ⟨rfl, rfl, rfl, rfl, rfl, rfl⟩
theorem y_sight {g : gG} {d : Nat} {T : mT} {n : Nat} {I : mI} {J : mJ} {F : mF} {x : Nat} {A : Ab} (v dy z : Int32) (hX : XS T F x) (hA : AbOK A) (hR : RepX T I J F x A)  : Ct g mX11_sight (d + 4) [.ref x, .int v, .int dy, .int z] 0 0 T n I J F (QX x T n I J F (some (.int (iI (s_sight A v.toInt dy.toInt z.toInt).1))) (s_sight A v.toInt dy.toInt z.toInt).2) := by
  refine Ct.ofV (k := 1) (by decide) (Nat.le_of_ble_eq_true rfl) ?_
  show V g mX11_sight (d + 4) _ 0 0 0 [some (.ref x), some (.int v), some (.int dy), some (.int z), none] [] T n I J F
  have hTo := hX.s.o
  have h10 := hA.1.2.2.2.2.2.2.2.1
  refine V.iload_n (pc := 0) dX11_sight_0 rfl ?_
  refine V.pS (as := [_]) (pc := 1) dX11_sight_1 lX11_173 bX11_isDay sX11_isDay (x_isDay (d := d + 3) _) (by omega) rfl (Nat.le_of_ble_eq_true rfl) ?_
  refine V.if_eq 11 (pc := 4) dX11_sight_4 (by decide) (fun h4 => ?_) (fun h4 => ?_)
  · have qa : ¬ ((0 ≤ dy.toInt ∧ dy.toInt ≤ 1000000) ∧ 0 ≤ z.toInt) := fun w => bi_eq.mp h4 w.1
    refine V.aload_n (pc := 11) dX11_sight_11 rfl ?_
    refine V.iconst (v := (-1)) (pc := 12) dX11_sight_12 (by decide) ?_
    refine V.invV0 (as := [_]) (pc := 13) dX11_sight_13 lX11_85 bX11_refuse nX11_refuse (ci := 10) rfl eX11_refuse hX.o (x_refuse1 (d := d + 3) hX) (by omega) rfl (Nat.le_of_ble_eq_true rfl) ?_
    rintro _ _ _ _ _ _ ⟨rfl, rfl, rfl, rfl, rfl, rfl⟩
    exact V.iret (pc := 16) dX11_sight_16 rfl (QX.no 0 (-1) (by decide) hX hA hR FrX.rf FrX.rf (by omega) (by rw [s_sight, if_neg qa]; rfl))
  · have qd := bi_ne.mp h4
    refine V.iload_n (pc := 7) dX11_sight_7 rfl ?_
    refine V.if_ge 17 (pc := 8) dX11_sight_8 (by decide) (fun h8 => ?_) (fun h8 => ?_)
    · have qa : (0 ≤ dy.toInt ∧ dy.toInt ≤ 1000000) ∧ 0 ≤ z.toInt := ⟨qd, by rw [le32] at h8; exact h8⟩
      refine V.aload_n (pc := 17) dX11_sight_17 rfl ?_
      refine V.getR (pc := 18) dX11_sight_18 fX11_10_10 rfl hX.o hX.f0 ?_
      refine V.iload_n (pc := 21) dX11_sight_21 rfl ?_
      by_cases q : 0 ≤ v.toInt ∧ v.toInt < (hds (cor A)).length
      · obtain ⟨y, hy, ey⟩ := hdAt_yes q
        have h6 := hA.1.1
        have hY := hA.1.2.1 y (List.mem_of_getElem? hy)
        have hW := hR.2.2.1.2.1 _ y hy
        have hN := hX.s.n (h := v.toInt.toNat) (by omega)
        have hTa := hN.o
        have hTb := hN.t4
        have hFb := hN.f4
        refine V.pV (as := [_]) (pc := 22) dX11_sight_22 lX11_95 bX8_handAt nX8_handAt (ci := 7) rfl eX8_handAt (by assumption) (x_handAtY (d := d + 3) (k := (hds (cor A)).length) _ hX.s hR.h2 hA.1.1 q) (by omega) rfl (Nat.le_of_ble_eq_true rfl) ?_
        refine V.as (pc := 25) dX11_sight_25 (by decide) (st1_4 rfl) ?_
        refine V.aload (pc := 27) dX11_sight_27 rfl ?_
        refine V.ifnonnull 39 (pc := 29) dX11_sight_29 (by decide) ?_
        refine V.iload_n (pc := 39) dX11_sight_39 rfl ?_
        refine V.aload (pc := 40) dX11_sight_40 rfl ?_
        refine V.getI (pc := 42) dX11_sight_42 fX11_104_1 rfl (by assumption) ?_
        rw [hW.1]
        refine V.icmp_lt 54 (pc := 45) dX11_sight_45 (by decide) (fun h45 => ?_) (fun h45 => ?_)
        · have v1 : z.toInt < y.1 := by
            rw [lt32, nI_toInt (by have := hY.2.1; omega)] at h45
            exact h45
          refine V.aload_n (pc := 54) dX11_sight_54 rfl ?_
          refine V.getR (pc := 55) dX11_sight_55 fX11_10_10 rfl hX.o hX.f0 ?_
          refine V.iload_n (pc := 58) dX11_sight_58 rfl ?_
          refine V.iload_n (pc := 59) dX11_sight_59 rfl ?_
          refine V.iload_n (pc := 60) dX11_sight_60 rfl ?_
          by_cases q4 : (sgs (cor A)).length = 10
          · refine V.pV (as := [_, _, _]) (pc := 61) dX11_sight_61 lX11_233 bX8_newSight nX8_newSight (ci := 7) rfl eX8_newSight (by assumption) (x_newSightN (d := d + 3) _ _ _ hX.s (by rw [hR.h12, q4])) (by omega) rfl (Nat.le_of_ble_eq_true rfl) ?_
            refine V.if_eq 81 (pc := 64) dX11_sight_64 (by decide) (fun h64 => ?_) (fun h64 => absurd rfl h64)
            refine V.aload_n (pc := 81) dX11_sight_81 rfl ?_
            refine V.bipush (v := (-5)) (pc := 82) dX11_sight_82 (by decide) ?_
            refine V.invV0 (as := [_]) (pc := 84) dX11_sight_84 lX11_85 bX11_refuse nX11_refuse (ci := 10) rfl eX11_refuse hX.o (x_refuse5 (d := d + 3) hX) (by omega) rfl (Nat.le_of_ble_eq_true rfl) ?_
            rintro _ _ _ _ _ _ ⟨rfl, rfl, rfl, rfl, rfl, rfl⟩
            exact V.iret (pc := 87) dX11_sight_87 rfl (QX.no 2 (-5) (by decide) hX hA hR FrX.rf FrX.rf (by omega) (by rw [s_sight, if_pos qa]; simp only [ey]; rw [if_pos v1, if_pos q4]; rfl))
          · refine V.invV0 (as := [_, _, _]) (pc := 61) dX11_sight_61 lX11_233 bX8_newSight nX8_newSight (ci := 7) rfl eX8_newSight (by assumption) (x_newSightY (d := d + 3) (k := (sgs (cor A)).length) _ _ _ hX.s hR.h12 (by omega)) (by omega) rfl (Nat.le_of_ble_eq_true rfl) ?_
            rintro _ _ _ _ _ _ ⟨rfl, rfl, rfl, rfl, rfl, rfl⟩
            refine V.if_eq 81 (pc := 64) dX11_sight_64 (by decide) (fun h64 => absurd h64 (by decide)) (fun h64 => ?_)
            refine V.aload_n (pc := 67) dX11_sight_67 rfl ?_
            refine V.aload_n (pc := 68) dX11_sight_68 rfl ?_
            refine V.getR (pc := 69) dX11_sight_69 fX11_10_10 rfl hX.o hX.f0 ?_
            refine V.getI (pc := 72) dX11_sight_72 fX11_237_7 rfl (by assumption) ?_
            rw [up2_same]
            refine V.invV0 (as := [_]) (pc := 75) dX11_sight_75 lX11_92 bX11_accept nX11_accept (ci := 10) rfl eX11_accept hX.o (x_accept (d := d + 3) _ hX) (by omega) rfl (Nat.le_of_ble_eq_true rfl) ?_
            rintro _ _ _ _ _ _ ⟨rfl, rfl, rfl, rfl, rfl, rfl⟩
            refine V.goto 87 (pc := 78) dX11_sight_78 (by decide) ?_
            exact V.iret (pc := 87) dX11_sight_87 rfl (QX.yes (c := sgsC (cor A) (sgs (cor A) ++ [(v.toInt.toNat, dy.toInt.toNat, z.toInt.toNat)])) hX hA (ok_cor hA (ok_sight hA.1 (by omega) ⟨by show v.toInt.toNat < _; omega, by show dy.toInt.toNat ≤ _; omega, fun r hr => by have hr2 : (hds (cor A))[v.toInt.toNat]? = some r := hr; rw [hy] at hr2; cases hr2; show z.toInt.toNat < y.1; omega⟩)) (hR.core hA (fun b hb => by rw [up2_off (by omega), up2_off (by omega), up2_off (by omega), up2_off (by omega)]) (StX.sight (by omega) hA.1 hR.2.2.1 (fun b h1 h2 h3 h4 => by rw [up2_off h1, up2_off h4, up2_off h3, up2_off h2]) (fun k hk => by rw [up2_ne (by omega), up2_off (by omega), up2_off (by omega), up2_off (by omega)]) up2_same ⟨by rw [up2_off (by omega), up2_off (by omega), up2_off (by omega), up2_same]; exact nIx (by omega) rfl, by rw [up2_off (by omega), up2_off (by omega), up2_same]; exact nIx (by omega) rfl, by rw [up2_off (by omega), up2_same]; exact nIx (by omega) rfl⟩ (fun j hj => ⟨by rw [up2_off (by omega), up2_off (by omega), up2_off (by omega), up2_ne (by omega)], by rw [up2_off (by omega), up2_off (by omega), up2_ne (by omega), up2_off (by omega)], by rw [up2_off (by omega), up2_ne (by omega), up2_off (by omega), up2_off (by omega)]⟩)) (fun _ _ => rfl)) ((((FrX.rf.up (by omega)).up (by omega)).up (by omega)).up (by omega)) FrX.rf (by rw [s_sight, if_pos qa]; simp only [ey]; rw [if_pos v1, if_neg q4]; simp only [okYes]; rw [← iI_nat]; rfl) (by rw [s_sight, if_pos qa]; simp only [ey]; rw [if_pos v1, if_neg q4]; rfl))
        · have v1 : ¬ z.toInt < y.1 := by
            rw [lt32, nI_toInt (by have := hY.2.1; omega)] at h45
            exact h45
          refine V.aload_n (pc := 48) dX11_sight_48 rfl ?_
          refine V.iconst (v := (-1)) (pc := 49) dX11_sight_49 (by decide) ?_
          refine V.invV0 (as := [_]) (pc := 50) dX11_sight_50 lX11_85 bX11_refuse nX11_refuse (ci := 10) rfl eX11_refuse hX.o (x_refuse1 (d := d + 3) hX) (by omega) rfl (Nat.le_of_ble_eq_true rfl) ?_
          rintro _ _ _ _ _ _ ⟨rfl, rfl, rfl, rfl, rfl, rfl⟩
          exact V.iret (pc := 53) dX11_sight_53 rfl (QX.no 0 (-1) (by decide) hX hA hR FrX.rf FrX.rf (by omega) (by rw [s_sight, if_pos qa]; simp only [ey]; rw [if_neg v1]; rfl))
      · have ey := hdAt_no q
        refine V.pV (as := [_]) (pc := 22) dX11_sight_22 lX11_95 bX8_handAt nX8_handAt (ci := 7) rfl eX8_handAt (by assumption) (x_handAtN (d := d + 3) (k := (hds (cor A)).length) _ hX.s hR.h2 hA.1.1 q) (by omega) rfl (Nat.le_of_ble_eq_true rfl) ?_
        refine V.ns (pc := 25) dX11_sight_25 (by decide) (st1_4 rfl) ?_
        refine V.nload (pc := 27) dX11_sight_27 rfl ?_
        refine V.ifnonnullN (pc := 29) dX11_sight_29 ?_
        refine V.aload_n (pc := 32) dX11_sight_32 rfl ?_
        refine V.bipush (v := (-2)) (pc := 33) dX11_sight_33 (by decide) ?_
        refine V.invV0 (as := [_]) (pc := 35) dX11_sight_35 lX11_85 bX11_refuse nX11_refuse (ci := 10) rfl eX11_refuse hX.o (x_refuse2 (d := d + 3) hX) (by omega) rfl (Nat.le_of_ble_eq_true rfl) ?_
        rintro _ _ _ _ _ _ ⟨rfl, rfl, rfl, rfl, rfl, rfl⟩
        exact V.iret (pc := 38) dX11_sight_38 rfl (QX.no 1 (-2) (by decide) hX hA hR FrX.rf FrX.rf (by omega) (by rw [s_sight, if_pos qa]; simp only [ey]; rfl))
    · have qa : ¬ ((0 ≤ dy.toInt ∧ dy.toInt ≤ 1000000) ∧ 0 ≤ z.toInt) := fun w => h8 ((le32 _ _).mpr w.2)
      refine V.aload_n (pc := 11) dX11_sight_11 rfl ?_
      refine V.iconst (v := (-1)) (pc := 12) dX11_sight_12 (by decide) ?_
      refine V.invV0 (as := [_]) (pc := 13) dX11_sight_13 lX11_85 bX11_refuse nX11_refuse (ci := 10) rfl eX11_refuse hX.o (x_refuse1 (d := d + 3) hX) (by omega) rfl (Nat.le_of_ble_eq_true rfl) ?_
      rintro _ _ _ _ _ _ ⟨rfl, rfl, rfl, rfl, rfl, rfl⟩
      exact V.iret (pc := 16) dX11_sight_16 rfl (QX.no 0 (-1) (by decide) hX hA hR FrX.rf FrX.rf (by omega) (by rw [s_sight, if_neg qa]; rfl))
