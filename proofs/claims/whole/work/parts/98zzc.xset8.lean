theorem V.lc1 {g : gG} {M : mD} {d : Nat} {Q : mQ} {bc bs pc : Nat} {a0 : Option Value} {x x' : Int32} {L : List (Option Value)} {st : List Value} {T : mT} {n : Nat} {I : mI} {J : mJ} {F : mF} (h : x = x') (kk : V g M d Q bc bs pc (a0 :: some (.int x') :: L) st T n I J F) : V g M d Q bc bs pc (a0 :: some (.int x) :: L) st T n I J F := by
  subst h
  exact kk
theorem isub_n {x : Int32} {p k : Nat} (h : x = nI p) : x - nI k = iI ((p : Int) - (k : Int)) := by rw [h, ← iI_nat, ← iI_nat, iI_sub]
theorem y_set {g : gG} {d : Nat} {T : mT} {n : Nat} {I : mI} {J : mJ} {F : mF} {x k0 : Nat} {A : Ab} (v m1 z m2 dd w : Int32) (hX : XS T F x) (hA : AbOK A) (hR : RepX T I J F x A) (hk0 : LKn T F x k0) (hn : x + 111 ≤ n) : Ct g mX11_set (d + 4) [.ref x, .int v, .int m1, .int z, .int m2, .int dd, .int w] 1 (lkM k0 (setSz A v.toInt m1.toInt z.toInt m2.toInt dd.toInt w.toInt)) T n I J F (fun r' T' n' I' J' F' => ∃ r : Int, SetS A v.toInt m1.toInt z.toInt m2.toInt dd.toInt w.toInt r ∧ QS x T n I J F (some (.int (iI r))) A (lkN k0 (setSz A v.toInt m1.toInt z.toInt m2.toInt dd.toInt w.toInt)) r' T' n' I' J' F') := by
  refine Ct.ofV (k := 3) (by decide) (Nat.le_of_ble_eq_true rfl) ?_
  show V g mX11_set (d + 4) _ 1 (lkM k0 (setSz A v.toInt m1.toInt z.toInt m2.toInt dd.toInt w.toInt)) 0 [some (.ref x), some (.int v), some (.int m1), some (.int z), some (.int m2), some (.int dd), some (.int w), none, none, none] [] T n I J F
  refine V.dom (fun hD => ?_)
  have hTo := hX.s.o
  have hT12 := hX.o12
  have h6 := hA.1.1
  refine V.aload_n (pc := 0) dX11_set_0 rfl ?_
  refine V.getR (pc := 1) dX11_set_1 fX11_10_10 rfl hX.o hX.f0 ?_
  refine V.iload_n (pc := 4) dX11_set_4 rfl ?_
  by_cases q1 : 0 ≤ v.toInt ∧ v.toInt < (hds (cor A)).length
  · obtain ⟨y1, hy1, e1y⟩ := hdAt_yes q1
    have h6 := hA.1.1
    have hY1 := hA.1.2.1 y1 (List.mem_of_getElem? hy1)
    have hW1 := hR.hd hy1
    have hN1 := hX.s.n (h := v.toInt.toNat) (by omega)
    have hTa1 := hN1.o
    have hv1 := nIx q1.1 rfl
    refine V.pV (as := [_]) (pc := 5) dX11_set_5 lX11_95 bX8_handAt nX8_handAt (ci := 7) rfl eX8_handAt (by assumption) (x_handAtY (d := d + 3) (k := (hds (cor A)).length) _ hX.s hR.h2 hA.1.1 q1) (by omega) rfl (Nat.le_of_ble_eq_true rfl) ?_
    refine V.as (pc := 8) dX11_set_8 (by decide) (st1_7 rfl) ?_
    refine V.aload_n (pc := 10) dX11_set_10 rfl ?_
    refine V.getR (pc := 11) dX11_set_11 fX11_10_10 rfl hX.o hX.f0 ?_
    refine V.iload_n (pc := 14) dX11_set_14 rfl ?_
    by_cases q2 : 0 ≤ z.toInt ∧ z.toInt < (hds (cor A)).length
    · obtain ⟨y2, hy2, e2y⟩ := hdAt_yes q2
      have h6 := hA.1.1
      have hY2 := hA.1.2.1 y2 (List.mem_of_getElem? hy2)
      have hW2 := hR.hd hy2
      have hN2 := hX.s.n (h := z.toInt.toNat) (by omega)
      have hTa2 := hN2.o
      have hv2 := nIx q2.1 rfl
      refine V.pV (as := [_]) (pc := 15) dX11_set_15 lX11_95 bX8_handAt nX8_handAt (ci := 7) rfl eX8_handAt (by assumption) (x_handAtY (d := d + 3) (k := (hds (cor A)).length) _ hX.s hR.h2 hA.1.1 q2) (by omega) rfl (Nat.le_of_ble_eq_true rfl) ?_
      refine V.as (pc := 18) dX11_set_18 (by decide) (st1_8 rfl) ?_
      refine V.aload (pc := 20) dX11_set_20 rfl ?_
      refine V.ifnull (pc := 22) dX11_set_22 ?_
      refine V.aload (pc := 25) dX11_set_25 rfl ?_
      refine V.ifnull (pc := 27) dX11_set_27 ?_
      refine V.iload_n (pc := 30) dX11_set_30 rfl ?_
      refine V.iload_n (pc := 31) dX11_set_31 rfl ?_
      refine V.icmp_eq 43 (pc := 32) dX11_set_32 (by decide) (fun h32 => ?_) (fun h32 => ?_)
      · 
        refine V.iconst (v := (-1)) (pc := 43) dX11_set_43 (by decide) ?_
        exact V.iret (pc := 44) dX11_set_44 rfl ⟨-1, by rw [SetS]; simp only [e1y, e2y]; rw [if_neg (show ¬ ((v.toInt ≠ z.toInt ∧ (0 ≤ dd.toInt ∧ dd.toInt ≤ 1000000)) ∧ (0 ≤ w.toInt ∧ w.toInt ≤ (kns (cor A)).length) ∧ (0 ≤ m1.toInt ∧ m1.toInt < y1.1) ∧ (0 ≤ m2.toInt ∧ m2.toInt < y2.1)) from fun q => q.1.1 (by rw [h32]))]; trivial, by rw [show setSz A v.toInt m1.toInt z.toInt m2.toInt dd.toInt w.toInt = 0 from by rw [setSz]; simp only [e1y, e2y]; rw [if_neg (show ¬ ((v.toInt ≠ z.toInt ∧ (0 ≤ dd.toInt ∧ dd.toInt ≤ 1000000)) ∧ (0 ≤ w.toInt ∧ w.toInt ≤ (kns (cor A)).length) ∧ (0 ≤ m1.toInt ∧ m1.toInt < y1.1) ∧ (0 ≤ m2.toInt ∧ m2.toInt < y2.1)) from fun q => q.1.1 (by rw [h32]))], lkN_0]; exact (QX.q hX hR rfl).qs hk0⟩
      · have qne : v.toInt ≠ z.toInt := fun q => h32 ((eq32 _ _).mpr q)
        refine V.iload (pc := 35) dX11_set_35 rfl ?_
        refine V.pS (as := [_]) (pc := 37) dX11_set_37 lX11_173 bX11_isDay sX11_isDay (x_isDay (d := d + 3) _) (by omega) rfl (Nat.le_of_ble_eq_true rfl) ?_
        refine V.if_ne 45 (pc := 40) dX11_set_40 (by decide) (fun h40 => ?_) (fun h40 => ?_)
        · have qd := bi_ne.mp h40
          refine V.iload_n (pc := 45) dX11_set_45 rfl ?_
          refine V.if_lt 73 (pc := 46) dX11_set_46 (by decide) (fun h46 => ?_) (fun h46 => ?_)
          · have m1n : m1.toInt < 0 := (lt32 _ _).mp h46
            refine V.iconst (v := (-1)) (pc := 73) dX11_set_73 (by decide) ?_
            exact V.iret (pc := 74) dX11_set_74 rfl ⟨-1, by rw [SetS]; simp only [e1y, e2y]; rw [if_neg (show ¬ ((v.toInt ≠ z.toInt ∧ (0 ≤ dd.toInt ∧ dd.toInt ≤ 1000000)) ∧ (0 ≤ w.toInt ∧ w.toInt ≤ (kns (cor A)).length) ∧ (0 ≤ m1.toInt ∧ m1.toInt < y1.1) ∧ (0 ≤ m2.toInt ∧ m2.toInt < y2.1)) from fun q => absurd q.2.2.1.1 (by omega))]; trivial, by rw [show setSz A v.toInt m1.toInt z.toInt m2.toInt dd.toInt w.toInt = 0 from by rw [setSz]; simp only [e1y, e2y]; rw [if_neg (show ¬ ((v.toInt ≠ z.toInt ∧ (0 ≤ dd.toInt ∧ dd.toInt ≤ 1000000)) ∧ (0 ≤ w.toInt ∧ w.toInt ≤ (kns (cor A)).length) ∧ (0 ≤ m1.toInt ∧ m1.toInt < y1.1) ∧ (0 ≤ m2.toInt ∧ m2.toInt < y2.1)) from fun q => absurd q.2.2.1.1 (by omega))], lkN_0]; exact (QX.q hX hR rfl).qs hk0⟩
          · have m1p : 0 ≤ m1.toInt := by
              rw [lt32] at h46
              have e0 : (0 : Int32).toInt = 0 := rfl
              omega
            refine V.iload_n (pc := 49) dX11_set_49 rfl ?_
            refine V.aload (pc := 50) dX11_set_50 rfl ?_
            refine V.getI (pc := 52) dX11_set_52 fX11_104_1 rfl (by assumption) ?_
            rw [hW1.1]
            refine V.icmp_ge 73 (pc := 55) dX11_set_55 (by decide) (fun h55 => ?_) (fun h55 => ?_)
            · rw [le32, nI_toInt (by have := hY1.2.1; omega)] at h55
              refine V.iconst (v := (-1)) (pc := 73) dX11_set_73 (by decide) ?_
              exact V.iret (pc := 74) dX11_set_74 rfl ⟨-1, by rw [SetS]; simp only [e1y, e2y]; rw [if_neg (show ¬ ((v.toInt ≠ z.toInt ∧ (0 ≤ dd.toInt ∧ dd.toInt ≤ 1000000)) ∧ (0 ≤ w.toInt ∧ w.toInt ≤ (kns (cor A)).length) ∧ (0 ≤ m1.toInt ∧ m1.toInt < y1.1) ∧ (0 ≤ m2.toInt ∧ m2.toInt < y2.1)) from fun q => absurd q.2.2.1.2 (by omega))]; trivial, by rw [show setSz A v.toInt m1.toInt z.toInt m2.toInt dd.toInt w.toInt = 0 from by rw [setSz]; simp only [e1y, e2y]; rw [if_neg (show ¬ ((v.toInt ≠ z.toInt ∧ (0 ≤ dd.toInt ∧ dd.toInt ≤ 1000000)) ∧ (0 ≤ w.toInt ∧ w.toInt ≤ (kns (cor A)).length) ∧ (0 ≤ m1.toInt ∧ m1.toInt < y1.1) ∧ (0 ≤ m2.toInt ∧ m2.toInt < y2.1)) from fun q => absurd q.2.2.1.2 (by omega))], lkN_0]; exact (QX.q hX hR rfl).qs hk0⟩
            · rw [le32, nI_toInt (by have := hY1.2.1; omega)] at h55
              refine V.iload (pc := 58) dX11_set_58 rfl ?_
              refine V.if_lt 73 (pc := 60) dX11_set_60 (by decide) (fun h60 => ?_) (fun h60 => ?_)
              · have m2n : m2.toInt < 0 := (lt32 _ _).mp h60
                refine V.iconst (v := (-1)) (pc := 73) dX11_set_73 (by decide) ?_
                exact V.iret (pc := 74) dX11_set_74 rfl ⟨-1, by rw [SetS]; simp only [e1y, e2y]; rw [if_neg (show ¬ ((v.toInt ≠ z.toInt ∧ (0 ≤ dd.toInt ∧ dd.toInt ≤ 1000000)) ∧ (0 ≤ w.toInt ∧ w.toInt ≤ (kns (cor A)).length) ∧ (0 ≤ m1.toInt ∧ m1.toInt < y1.1) ∧ (0 ≤ m2.toInt ∧ m2.toInt < y2.1)) from fun q => absurd q.2.2.2.1 (by omega))]; trivial, by rw [show setSz A v.toInt m1.toInt z.toInt m2.toInt dd.toInt w.toInt = 0 from by rw [setSz]; simp only [e1y, e2y]; rw [if_neg (show ¬ ((v.toInt ≠ z.toInt ∧ (0 ≤ dd.toInt ∧ dd.toInt ≤ 1000000)) ∧ (0 ≤ w.toInt ∧ w.toInt ≤ (kns (cor A)).length) ∧ (0 ≤ m1.toInt ∧ m1.toInt < y1.1) ∧ (0 ≤ m2.toInt ∧ m2.toInt < y2.1)) from fun q => absurd q.2.2.2.1 (by omega))], lkN_0]; exact (QX.q hX hR rfl).qs hk0⟩
              · have m2p : 0 ≤ m2.toInt := by
                  rw [lt32] at h60
                  have e0 : (0 : Int32).toInt = 0 := rfl
                  omega
                refine V.iload (pc := 63) dX11_set_63 rfl ?_
                refine V.aload (pc := 65) dX11_set_65 rfl ?_
                refine V.getI (pc := 67) dX11_set_67 fX11_104_1 rfl (by assumption) ?_
                rw [hW2.1]
                refine V.icmp_lt 75 (pc := 70) dX11_set_70 (by decide) (fun h70 => ?_) (fun h70 => ?_)
                · rw [lt32, nI_toInt (by have := hY2.2.1; omega)] at h70
                  refine V.iload (pc := 75) dX11_set_75 rfl ?_
                  refine V.if_lt 92 (pc := 77) dX11_set_77 (by decide) (fun h77 => ?_) (fun h77 => ?_)
                  · have wn : w.toInt < 0 := (lt32 _ _).mp h77
                    refine V.iconst (v := (-1)) (pc := 92) dX11_set_92 (by decide) ?_
                    exact V.iret (pc := 93) dX11_set_93 rfl ⟨-1, by rw [SetS]; simp only [e1y, e2y]; rw [if_neg (show ¬ ((v.toInt ≠ z.toInt ∧ (0 ≤ dd.toInt ∧ dd.toInt ≤ 1000000)) ∧ (0 ≤ w.toInt ∧ w.toInt ≤ (kns (cor A)).length) ∧ (0 ≤ m1.toInt ∧ m1.toInt < y1.1) ∧ (0 ≤ m2.toInt ∧ m2.toInt < y2.1)) from fun q => absurd q.2.1.1 (by omega))]; trivial, by rw [show setSz A v.toInt m1.toInt z.toInt m2.toInt dd.toInt w.toInt = 0 from by rw [setSz]; simp only [e1y, e2y]; rw [if_neg (show ¬ ((v.toInt ≠ z.toInt ∧ (0 ≤ dd.toInt ∧ dd.toInt ≤ 1000000)) ∧ (0 ≤ w.toInt ∧ w.toInt ≤ (kns (cor A)).length) ∧ (0 ≤ m1.toInt ∧ m1.toInt < y1.1) ∧ (0 ≤ m2.toInt ∧ m2.toInt < y2.1)) from fun q => absurd q.2.1.1 (by omega))], lkN_0]; exact (QX.q hX hR rfl).qs hk0⟩
                  · have wp : 0 ≤ w.toInt := by
                      rw [lt32] at h77
                      have e0 : (0 : Int32).toInt = 0 := rfl
                      omega
                    refine V.iload (pc := 80) dX11_set_80 rfl ?_
                    refine V.aload_n (pc := 82) dX11_set_82 rfl ?_
                    refine V.getR (pc := 83) dX11_set_83 fX11_10_10 rfl hX.o hX.f0 ?_
                    refine V.getI (pc := 86) dX11_set_86 fX11_258_7 rfl (by assumption) ?_
                    rw [hR.h14]
                    refine V.icmp_le 94 (pc := 89) dX11_set_89 (by decide) (fun h89 => ?_) (fun h89 => ?_)
                    · have hK4x := (kn_ab hA.1 (h1 := 0) (h2 := 0)).1
                      rw [le32, nI_toInt (by omega)] at h89
                      have qw := h89
                      have hSQ : ((v.toInt ≠ z.toInt ∧ (0 ≤ dd.toInt ∧ dd.toInt ≤ 1000000)) ∧ (0 ≤ w.toInt ∧ w.toInt ≤ (kns (cor A)).length) ∧ (0 ≤ m1.toInt ∧ m1.toInt < y1.1) ∧ (0 ≤ m2.toInt ∧ m2.toInt < y2.1)) := ⟨⟨qne, qd⟩, ⟨wp, qw⟩, ⟨m1p, by omega⟩, ⟨m2p, by omega⟩⟩
                      have eSz : setSz A v.toInt m1.toInt z.toInt m2.toInt dd.toInt w.toInt = y1.1 * y2.1 := by rw [setSz]; simp only [e1y, e2y]; rw [if_pos (show ((v.toInt ≠ z.toInt ∧ (0 ≤ dd.toInt ∧ dd.toInt ≤ 1000000)) ∧ (0 ≤ w.toInt ∧ w.toInt ≤ (kns (cor A)).length) ∧ (0 ≤ m1.toInt ∧ m1.toInt < y1.1) ∧ (0 ≤ m2.toInt ∧ m2.toInt < y2.1)) from hSQ)]
                      have hdx := nIx (x := dd) qd.1 rfl
                      have hwx := nIx (x := w) wp rfl
                      have hm1 := nIx (x := m1) m1p rfl
                      have hm2 := nIx (x := m2) m2p rfl
                      have k1 : markD y1 dd.toInt.toNat < y1.1 := Nat.mod_lt _ hY1.1
                      have k2 : markD y2 dd.toInt.toNat < y2.1 := Nat.mod_lt _ hY2.1
                      obtain ⟨l, hSt, hl2⟩ := hX.set hk0
                      have hlf := hSt.f7
                      have hln := hD _ _ hSt.t7
                      have y11 := hY1.1
                      have y12 := hY1.2.1
                      have y21 := hY2.1
                      have y22 := hY2.2.1
                      obtain ⟨hK4, hKab⟩ := kn_ab hA.1 (h1 := v.toInt.toNat) (h2 := z.toInt.toNat)
                      rw [eSz]
                      refine V.aload_n (pc := 94) dX11_set_94 rfl ?_
                      refine V.getR (pc := 95) dX11_set_95 fX11_71_10 rfl hX.o hX.f12 ?_
                      refine V.aload (pc := 98) dX11_set_98 rfl ?_
                      refine V.getI (pc := 100) dX11_set_100 fX11_104_1 rfl (by assumption) ?_
                      rw [hW1.1]
                      refine V.aload (pc := 103) dX11_set_103 rfl ?_
                      refine V.getI (pc := 105) dX11_set_105 fX11_104_1 rfl (by assumption) ?_
                      rw [hW2.1]
                      refine V.room (bc := 0 + 1) (bs := 0 + lkM k0 (y1.1 * y2.1)) (by omega) (by omega) ?_
                      refine V.invV (bc := 0) (bs := 0) (mc := 1) (ms := lkM k0 (y1.1 * y2.1)) (as := [_, _]) (pc := 108) dX11_set_108 lX11_268 bX6_begin nX6_begin (ci := 5) rfl eX6_begin (by assumption) (x_sbegin (d := d + 2) (l := l) (k0 := k0) hSt ⟨y11, y12⟩ ⟨y21, y22⟩ (by omega) hln) (by omega) rfl (Nat.le_of_ble_eq_true rfl) ?_
                      rintro _ T2 n2 I2 J2 F2 ⟨rfl, b1, b2, b3, l2, s1, s2, b4, b5, b6, b7, b8, b9, b10, b11⟩
                      have f0 : SeF x n l (lkN k0 (y1.1 * y2.1)) T I J F T2 I2 J2 F2 := ⟨b1, b2, ⟨l2, s1, s2⟩, fun c c1 c2 c3 => b5 c c1 (by omega) c3, b6, b7, b8⟩
                      have hXo := hX
                      have hRo := hR
                      replace hX := f0.xs hXo hlf hl2 hD hn
                      replace hR := f0.rep hXo hlf hl2 hD hn hRo hA
                      have hTo2 := hX.s.o
                      have hT122 := hX.o12
                      have hN1b := hX.s.n (h := v.toInt.toNat) (by omega)
                      have hN2b := hX.s.n (h := z.toInt.toNat) (by omega)
                      have hTa1b := hN1b.o
                      have hTa2b := hN2b.o
                      have hl2o : x + 44 < l2 := by omega
                      refine V.iconst (v := 0) (pc := 111) dX11_set_111 (by decide) ?_
                      refine V.is (pc := 112) dX11_set_112 (by decide) (st1_9 rfl) ?_
                      conv => arg 8; rw [L0]
                      refine V.lc1 hv1 ?_
                      refine V.lc3 hv2 ?_
                      refine l_ak (I := I2) (W := y1.1) (H := y2.1) (h1 := v.toInt.toNat) (h2 := z.toInt.toNat) hX hA hR s1 hl2o ⟨by omega, by omega, by omega⟩ ⟨y11, y12⟩ ⟨y21, y22⟩ ⟨by omega, by omega⟩ b9 b10 b11 (fun I3 g1 g2 => ?_) (kns (cor A)).length 0 I2 (by omega) ⟨fun _ _ _ _ => rfl, b9, b10, b11, fun k hk => absurd hk (by omega)⟩
                      have f1 : SeF x n l (lkN k0 (y1.1 * y2.1)) T I J F T2 I3 J2 F2 := f0.put (fun c c1 c2 c3 => g1 c (by omega) (by omega) (by omega))
                      have hR3 := f1.rep hXo hlf hl2 hD hn hRo hA
                      refine V.aload_n (pc := 159) dX11_set_159 rfl ?_
                      refine V.getR (pc := 160) dX11_set_160 fX11_71_10 rfl hX.o hX.f12 ?_
                      refine V.iload_n (pc := 163) dX11_set_163 rfl ?_
                      refine V.aload (pc := 164) dX11_set_164 rfl ?_
                      refine V.iload (pc := 166) dX11_set_166 rfl ?_
                      refine V.pV (as := [_]) (pc := 168) dX11_set_168 lX11_176 bX1_markOn nX1_markOn (ci := 1) rfl eX1_markOn (by assumption) (x_markOn (d := d + 1) (dd := dd.toInt.toNat) (y := y1) _ hN1b hY1 (hR3.hd hy1) hdx (by omega)) (by omega) rfl (Nat.le_of_ble_eq_true rfl) ?_
                      refine V.isub (pc := 171) dX11_set_171 ?_
                      rw [isub_n hm1]
                      refine V.iload (pc := 172) dX11_set_172 rfl ?_
                      refine V.aload (pc := 174) dX11_set_174 rfl ?_
                      refine V.iload (pc := 176) dX11_set_176 rfl ?_
                      refine V.pV (as := [_]) (pc := 178) dX11_set_178 lX11_176 bX1_markOn nX1_markOn (ci := 1) rfl eX1_markOn (by assumption) (x_markOn (d := d + 1) (dd := dd.toInt.toNat) (y := y2) _ hN2b hY2 (hR3.hd hy2) hdx (by omega)) (by omega) rfl (Nat.le_of_ble_eq_true rfl) ?_
                      refine V.isub (pc := 181) dX11_set_181 ?_
                      rw [isub_n hm2]
                      refine V.invV0 (as := [_, _]) (pc := 182) dX11_set_182 lX11_275 bX6_reaches nX6_reaches (ci := 5) rfl eX6_reaches (by assumption) (x_reaches (d := d + 0) (W := y1.1) (H := y2.1) (K := (kns (cor A)).length) (a := (knA (kns (cor A)) v.toInt.toNat)) (b := (knA (kns (cor A)) z.toInt.toNat)) _ _ s1 ⟨y11, y12⟩ ⟨y21, y22⟩ hK4 (lk_le (Nat.le_trans (Nat.mul_le_mul y12 y22) (by decide)) hSt.kb).1 g2 (fun p hp => by rw [g1 l2 (by omega) (by omega) (by omega)]; exact b4 p hp)) (by omega) rfl (Nat.le_of_ble_eq_true rfl) ?_
                      rintro r4 _ _ I4 _ _ ⟨rfl, rfl, rfl, rfl, ⟨c1, c2⟩, ⟨rfl, t, d1, d2, d3⟩ | ⟨rfl, d1⟩⟩
                      · have f4 := f1.put (I2 := I4) (fun c e1 e2 e3 => c1 c (by omega) (by omega) (by omega))
                        rw [iI_toInt (by omega) (by omega), iI_toInt (by omega) (by omega)] at d1
                        have hL := d1.sh k1 k2 (show m1.toInt.toNat < y1.1 by omega) (show m2.toInt.toNat < y2.1 by omega)
                        refine V.if_ne 190 (pc := 185) dX11_set_185 (by decide) (fun h185 => ?_) (fun h185 => absurd h185 (by decide))
                        refine V.iload (pc := 190) dX11_set_190 rfl ?_
                        refine V.if_ne 205 (pc := 192) dX11_set_192 (by decide) (fun h192 => ?_) (fun h192 => ?_)
                        · have w0 : ¬ w.toInt = 0 := fun q => h192 ((eq32 _ _).mpr q)
                          refine V.aload_n (pc := 205) dX11_set_205 rfl ?_
                          refine V.getR (pc := 206) dX11_set_206 fX11_71_10 rfl hX.o hX.f12 ?_
                          refine V.iload (pc := 209) dX11_set_209 rfl ?_
                          refine V.iconst (v := 1) (pc := 211) dX11_set_211 (by decide) ?_
                          refine V.isub (pc := 212) dX11_set_212 ?_
                          rw [i_pred (by omega)]
                          refine V.pV (as := [_]) (pc := 213) dX11_set_213 lX11_281 bX6_pushesOf nX6_pushesOf (ci := 5) rfl eX6_pushesOf (by assumption) (x_pushesOf (d := d + 3) (K := (kns (cor A)).length) s1 (by rw [c2 2 (by omega) (by omega)]; exact g2.2.2.1) (by omega) hK4) (by omega) rfl (Nat.le_of_ble_eq_true rfl) ?_
                          rw [d2 _ (by omega)]
                          exact V.iret (pc := 216) dX11_set_216 rfl ⟨(v4g t (w.toInt.toNat - 1) : Int), by rw [SetS]; simp only [e1y, e2y]; rw [if_pos (show ((v.toInt ≠ z.toInt ∧ (0 ≤ dd.toInt ∧ dd.toInt ≤ 1000000)) ∧ (0 ≤ w.toInt ∧ w.toInt ≤ (kns (cor A)).length) ∧ (0 ≤ m1.toInt ∧ m1.toInt < y1.1) ∧ (0 ≤ m2.toInt ∧ m2.toInt < y2.1)) from hSQ)]; exact Or.inl ⟨t, hL, by rw [if_neg (by omega)]⟩, f4.qs hXo hlf hl2 hD hn b3 hA hRo (by rw [iI_nat])⟩
                        · have w0 : w.toInt = 0 := by rw [h192]; rfl
                          refine V.aload_n (pc := 195) dX11_set_195 rfl ?_
                          refine V.getR (pc := 196) dX11_set_196 fX11_71_10 rfl hX.o hX.f12 ?_
                          refine V.getI (pc := 199) dX11_set_199 fX11_278_5 rfl (by assumption) ?_
                          rw [d3]
                          refine V.goto 216 (pc := 202) dX11_set_202 (by decide) ?_
                          exact V.iret (pc := 216) dX11_set_216 rfl ⟨(tot t : Int), by rw [SetS]; simp only [e1y, e2y]; rw [if_pos (show ((v.toInt ≠ z.toInt ∧ (0 ≤ dd.toInt ∧ dd.toInt ≤ 1000000)) ∧ (0 ≤ w.toInt ∧ w.toInt ≤ (kns (cor A)).length) ∧ (0 ≤ m1.toInt ∧ m1.toInt < y1.1) ∧ (0 ≤ m2.toInt ∧ m2.toInt < y2.1)) from hSQ)]; exact Or.inl ⟨t, hL, by rw [if_pos (by omega)]⟩, f4.qs hXo hlf hl2 hD hn b3 hA hRo (by rw [iI_nat])⟩
                      · have f4 := f1.put (I2 := I4) (fun c e1 e2 e3 => c1 c (by omega) (by omega) (by omega))
                        rw [iI_toInt (by omega) (by omega), iI_toInt (by omega) (by omega)] at d1
                        refine V.if_ne 190 (pc := 185) dX11_set_185 (by decide) (fun h185 => absurd rfl h185) (fun h185 => ?_)
                        refine V.iconst (v := (-1)) (pc := 188) dX11_set_188 (by decide) ?_
                        exact V.iret (pc := 189) dX11_set_189 rfl ⟨-1, by rw [SetS]; simp only [e1y, e2y]; rw [if_pos (show ((v.toInt ≠ z.toInt ∧ (0 ≤ dd.toInt ∧ dd.toInt ≤ 1000000)) ∧ (0 ≤ w.toInt ∧ w.toInt ≤ (kns (cor A)).length) ∧ (0 ≤ m1.toInt ∧ m1.toInt < y1.1) ∧ (0 ≤ m2.toInt ∧ m2.toInt < y2.1)) from hSQ)]; exact Or.inr ⟨fun u hu q => d1 u hu ((sh_plc k1 k2 (by omega) (by omega) u).mp q), rfl⟩, f4.qs hXo hlf hl2 hD hn b3 hA hRo (by rfl)⟩
                    · have hK4x := (kn_ab hA.1 (h1 := 0) (h2 := 0)).1
                      rw [le32, nI_toInt (by omega)] at h89
                      refine V.iconst (v := (-1)) (pc := 92) dX11_set_92 (by decide) ?_
                      exact V.iret (pc := 93) dX11_set_93 rfl ⟨-1, by rw [SetS]; simp only [e1y, e2y]; rw [if_neg (show ¬ ((v.toInt ≠ z.toInt ∧ (0 ≤ dd.toInt ∧ dd.toInt ≤ 1000000)) ∧ (0 ≤ w.toInt ∧ w.toInt ≤ (kns (cor A)).length) ∧ (0 ≤ m1.toInt ∧ m1.toInt < y1.1) ∧ (0 ≤ m2.toInt ∧ m2.toInt < y2.1)) from fun q => absurd q.2.1.2 (by omega))]; trivial, by rw [show setSz A v.toInt m1.toInt z.toInt m2.toInt dd.toInt w.toInt = 0 from by rw [setSz]; simp only [e1y, e2y]; rw [if_neg (show ¬ ((v.toInt ≠ z.toInt ∧ (0 ≤ dd.toInt ∧ dd.toInt ≤ 1000000)) ∧ (0 ≤ w.toInt ∧ w.toInt ≤ (kns (cor A)).length) ∧ (0 ≤ m1.toInt ∧ m1.toInt < y1.1) ∧ (0 ≤ m2.toInt ∧ m2.toInt < y2.1)) from fun q => absurd q.2.1.2 (by omega))], lkN_0]; exact (QX.q hX hR rfl).qs hk0⟩
                · rw [lt32, nI_toInt (by have := hY2.2.1; omega)] at h70
                  refine V.iconst (v := (-1)) (pc := 73) dX11_set_73 (by decide) ?_
                  exact V.iret (pc := 74) dX11_set_74 rfl ⟨-1, by rw [SetS]; simp only [e1y, e2y]; rw [if_neg (show ¬ ((v.toInt ≠ z.toInt ∧ (0 ≤ dd.toInt ∧ dd.toInt ≤ 1000000)) ∧ (0 ≤ w.toInt ∧ w.toInt ≤ (kns (cor A)).length) ∧ (0 ≤ m1.toInt ∧ m1.toInt < y1.1) ∧ (0 ≤ m2.toInt ∧ m2.toInt < y2.1)) from fun q => absurd q.2.2.2.2 (by omega))]; trivial, by rw [show setSz A v.toInt m1.toInt z.toInt m2.toInt dd.toInt w.toInt = 0 from by rw [setSz]; simp only [e1y, e2y]; rw [if_neg (show ¬ ((v.toInt ≠ z.toInt ∧ (0 ≤ dd.toInt ∧ dd.toInt ≤ 1000000)) ∧ (0 ≤ w.toInt ∧ w.toInt ≤ (kns (cor A)).length) ∧ (0 ≤ m1.toInt ∧ m1.toInt < y1.1) ∧ (0 ≤ m2.toInt ∧ m2.toInt < y2.1)) from fun q => absurd q.2.2.2.2 (by omega))], lkN_0]; exact (QX.q hX hR rfl).qs hk0⟩
        · have qd := bi_eq.mp h40
          refine V.iconst (v := (-1)) (pc := 43) dX11_set_43 (by decide) ?_
          exact V.iret (pc := 44) dX11_set_44 rfl ⟨-1, by rw [SetS]; simp only [e1y, e2y]; rw [if_neg (show ¬ ((v.toInt ≠ z.toInt ∧ (0 ≤ dd.toInt ∧ dd.toInt ≤ 1000000)) ∧ (0 ≤ w.toInt ∧ w.toInt ≤ (kns (cor A)).length) ∧ (0 ≤ m1.toInt ∧ m1.toInt < y1.1) ∧ (0 ≤ m2.toInt ∧ m2.toInt < y2.1)) from fun q => qd q.1.2)]; trivial, by rw [show setSz A v.toInt m1.toInt z.toInt m2.toInt dd.toInt w.toInt = 0 from by rw [setSz]; simp only [e1y, e2y]; rw [if_neg (show ¬ ((v.toInt ≠ z.toInt ∧ (0 ≤ dd.toInt ∧ dd.toInt ≤ 1000000)) ∧ (0 ≤ w.toInt ∧ w.toInt ≤ (kns (cor A)).length) ∧ (0 ≤ m1.toInt ∧ m1.toInt < y1.1) ∧ (0 ≤ m2.toInt ∧ m2.toInt < y2.1)) from fun q => qd q.1.2)], lkN_0]; exact (QX.q hX hR rfl).qs hk0⟩
    · have e2y := hdAt_no q2
      refine V.pV (as := [_]) (pc := 15) dX11_set_15 lX11_95 bX8_handAt nX8_handAt (ci := 7) rfl eX8_handAt (by assumption) (x_handAtN (d := d + 3) (k := (hds (cor A)).length) _ hX.s hR.h2 hA.1.1 q2) (by omega) rfl (Nat.le_of_ble_eq_true rfl) ?_
      refine V.ns (pc := 18) dX11_set_18 (by decide) (st1_8 rfl) ?_
      refine V.aload (pc := 20) dX11_set_20 rfl ?_
      refine V.ifnull (pc := 22) dX11_set_22 ?_
      refine V.nload (pc := 25) dX11_set_25 rfl ?_
      refine V.ifnullN 43 (pc := 27) dX11_set_27 (by decide) ?_
      refine V.iconst (v := (-1)) (pc := 43) dX11_set_43 (by decide) ?_
      exact V.iret (pc := 44) dX11_set_44 rfl ⟨-1, by rw [SetS]; simp only [e1y, e2y], by rw [show setSz A v.toInt m1.toInt z.toInt m2.toInt dd.toInt w.toInt = 0 from by rw [setSz]; simp only [e1y, e2y], lkN_0]; exact (QX.q hX hR rfl).qs hk0⟩
  · have e1y := hdAt_no q1
    refine V.pV (as := [_]) (pc := 5) dX11_set_5 lX11_95 bX8_handAt nX8_handAt (ci := 7) rfl eX8_handAt (by assumption) (x_handAtN (d := d + 3) (k := (hds (cor A)).length) _ hX.s hR.h2 hA.1.1 q1) (by omega) rfl (Nat.le_of_ble_eq_true rfl) ?_
    refine V.ns (pc := 8) dX11_set_8 (by decide) (st1_7 rfl) ?_
    refine V.aload_n (pc := 10) dX11_set_10 rfl ?_
    refine V.getR (pc := 11) dX11_set_11 fX11_10_10 rfl hX.o hX.f0 ?_
    refine V.iload_n (pc := 14) dX11_set_14 rfl ?_
    by_cases q2 : 0 ≤ z.toInt ∧ z.toInt < (hds (cor A)).length
    · obtain ⟨y2, hy2, e2y⟩ := hdAt_yes q2
      have h6 := hA.1.1
      have hY2 := hA.1.2.1 y2 (List.mem_of_getElem? hy2)
      have hW2 := hR.hd hy2
      have hN2 := hX.s.n (h := z.toInt.toNat) (by omega)
      have hTa2 := hN2.o
      have hv2 := nIx q2.1 rfl
      refine V.pV (as := [_]) (pc := 15) dX11_set_15 lX11_95 bX8_handAt nX8_handAt (ci := 7) rfl eX8_handAt (by assumption) (x_handAtY (d := d + 3) (k := (hds (cor A)).length) _ hX.s hR.h2 hA.1.1 q2) (by omega) rfl (Nat.le_of_ble_eq_true rfl) ?_
      refine V.as (pc := 18) dX11_set_18 (by decide) (st1_8 rfl) ?_
      refine V.nload (pc := 20) dX11_set_20 rfl ?_
      refine V.ifnullN 43 (pc := 22) dX11_set_22 (by decide) ?_
      refine V.iconst (v := (-1)) (pc := 43) dX11_set_43 (by decide) ?_
      exact V.iret (pc := 44) dX11_set_44 rfl ⟨-1, by rw [SetS]; simp only [e1y], by rw [show setSz A v.toInt m1.toInt z.toInt m2.toInt dd.toInt w.toInt = 0 from by rw [setSz]; simp only [e1y], lkN_0]; exact (QX.q hX hR rfl).qs hk0⟩
    · have e2y := hdAt_no q2
      refine V.pV (as := [_]) (pc := 15) dX11_set_15 lX11_95 bX8_handAt nX8_handAt (ci := 7) rfl eX8_handAt (by assumption) (x_handAtN (d := d + 3) (k := (hds (cor A)).length) _ hX.s hR.h2 hA.1.1 q2) (by omega) rfl (Nat.le_of_ble_eq_true rfl) ?_
      refine V.ns (pc := 18) dX11_set_18 (by decide) (st1_8 rfl) ?_
      refine V.nload (pc := 20) dX11_set_20 rfl ?_
      refine V.ifnullN 43 (pc := 22) dX11_set_22 (by decide) ?_
      refine V.iconst (v := (-1)) (pc := 43) dX11_set_43 (by decide) ?_
      exact V.iret (pc := 44) dX11_set_44 rfl ⟨-1, by rw [SetS]; simp only [e1y], by rw [show setSz A v.toInt m1.toInt z.toInt m2.toInt dd.toInt w.toInt = 0 from by rw [setSz]; simp only [e1y], lkN_0]; exact (QX.q hX hR rfl).qs hk0⟩
