theorem l_togX {g : gG} {d : Nat} {T : mT} {n : Nat} {I : mI} {J : mJ} {F : mF} {Q : mQ} {x a1 a2 f sp : Nat} {y1 y2 : Hd} {v1 m1 v2 m2 : Int32} (hN1 : HN T F a1) (hN2 : HN T F a2) (hY1 : HdOK y1) (hY2 : HdOK y2) (hW1 : HdX I J a1 y1) (hW2 : HdX I J a2 y2) (hf : f ≤ 1000000) (hsp : (f + 5000 ≤ 1000000 ∧ sp = 5001) ∨ (1000000 < f + 5000 ∧ f + sp = 1000001)) : ∀ (t j : Nat) , j + t = f + sp → (Q (some (.int (iI (fstD (togP y1 y2 m1.toInt m2.toInt) j t)))) T n I J F) → V g mX11_together (d + 4) Q 0 0 57 [some (.ref x), some (.int v1), some (.int m1), some (.int v2), some (.int m2), some (.int (nI f)), some (.ref a1), some (.ref a2), some (.int (nI (f + sp - 1))), some (.int (nI j))] [] T n I J F := by
  intro t
  induction t with
  | zero =>
    intro j  hj hi
    obtain rfl : j = f + sp := by omega
    have hTa1 := hN1.o
    have hTa2 := hN2.o
    refine V.iload (pc := 57) dX11_together_57 rfl ?_
    refine V.iload (pc := 59) dX11_together_59 rfl ?_
    refine V.icmp_gt 96 (pc := 61) dX11_together_61 (by decide) (fun h61 => ?_) (fun h61 => absurd (by rw [nI_ltI (by omega) (by omega)]; omega) h61)
    refine V.iconst (v := (-1)) (pc := 96) dX11_together_96 (by decide) ?_
    exact V.iret (pc := 97) dX11_together_97 rfl hi
  | succ t ih =>
    intro j  hj hi
    have hTa1 := hN1.o
    have hTa2 := hN2.o
    have hl1 := markD_lt hY1 j
    have hl2 := markD_lt hY2 j
    refine V.iload (pc := 57) dX11_together_57 rfl ?_
    refine V.iload (pc := 59) dX11_together_59 rfl ?_
    refine V.icmp_gt 96 (pc := 61) dX11_together_61 (by decide) (fun h61 => absurd h61 (by rw [nI_ltI (by omega) (by omega)]; omega)) (fun h61 => ?_)
    refine V.aload (pc := 64) dX11_together_64 rfl ?_
    refine V.iload (pc := 66) dX11_together_66 rfl ?_
    refine V.pV (as := [_]) (pc := 68) dX11_together_68 lX11_176 bX1_markOn nX1_markOn (ci := 1) rfl eX1_markOn (by assumption) (x_markOn (d := d + 1) (dd := j) (y := y1) _ hN1 hY1 hW1 rfl (by omega)) (by omega) rfl (Nat.le_of_ble_eq_true rfl) ?_
    refine V.iload_n (pc := 71) dX11_together_71 rfl ?_
    refine V.icmp_ne 90 (pc := 72) dX11_together_72 (by decide) (fun h72 => ?_) (fun h72 => ?_)
    · rw [nI_eqI (by omega)] at h72
      refine V.iinc1 (pc := 90) dX11_together_90 (by decide) rfl (st1_9 rfl) ?_
      refine V.goto 57 (pc := 93) dX11_together_93 (by decide) ?_
      rw [nI_1]
      rw [fstD_n (togP_n1 h72)] at hi
      exact ih (j + 1) (by omega) hi
    · rw [nI_eqI (by omega)] at h72
      refine V.aload (pc := 75) dX11_together_75 rfl ?_
      refine V.iload (pc := 77) dX11_together_77 rfl ?_
      refine V.pV (as := [_]) (pc := 79) dX11_together_79 lX11_176 bX1_markOn nX1_markOn (ci := 1) rfl eX1_markOn (by assumption) (x_markOn (d := d + 1) (dd := j) (y := y2) _ hN2 hY2 hW2 rfl (by omega)) (by omega) rfl (Nat.le_of_ble_eq_true rfl) ?_
      refine V.iload (pc := 82) dX11_together_82 rfl ?_
      refine V.icmp_ne 90 (pc := 84) dX11_together_84 (by decide) (fun h84 => ?_) (fun h84 => ?_)
      · rw [nI_eqI (by omega)] at h84
        refine V.iinc1 (pc := 90) dX11_together_90 (by decide) rfl (st1_9 rfl) ?_
        refine V.goto 57 (pc := 93) dX11_together_93 (by decide) ?_
        rw [nI_1]
        rw [fstD_n (togP_n2 h84)] at hi
        exact ih (j + 1) (by omega) hi
      · rw [nI_eqI (by omega)] at h84
        refine V.iload (pc := 87) dX11_together_87 rfl ?_
        exact V.iret (pc := 89) dX11_together_89 rfl (by rw [fstD_y (togP_y h72 h84), iI_nat] at hi; exact hi)
theorem y_together {g : gG} {d : Nat} {T : mT} {n : Nat} {I : mI} {J : mJ} {F : mF} {x : Nat} {A : Ab} (v1 m1 v2 m2 f : Int32) (hX : XS T F x) (hA : AbOK A) (hR : RepX T I J F x A)  : Ct g mX11_together (d + 4) [.ref x, .int v1, .int m1, .int v2, .int m2, .int f] 0 0 T n I J F (QX x T n I J F (some (.int (iI (s_together A v1.toInt m1.toInt v2.toInt m2.toInt f.toInt)))) A) := by
  refine Ct.ofV (k := 4) (by decide) (Nat.le_of_ble_eq_true rfl) ?_
  show V g mX11_together (d + 4) _ 0 0 0 [some (.ref x), some (.int v1), some (.int m1), some (.int v2), some (.int m2), some (.int f), none, none, none, none] [] T n I J F
  have hTo := hX.s.o
  refine V.aload_n (pc := 0) dX11_together_0 rfl ?_
  refine V.getR (pc := 1) dX11_together_1 fX11_10_10 rfl hX.o hX.f0 ?_
  refine V.iload_n (pc := 4) dX11_together_4 rfl ?_
  by_cases q1 : 0 ≤ v1.toInt ∧ v1.toInt < (hds (cor A)).length
  · obtain ⟨y1, hy1, e1y⟩ := hdAt_yes q1
    have h6 := hA.1.1
    have hY1 := hA.1.2.1 y1 (List.mem_of_getElem? hy1)
    have hW1 := hR.hd hy1
    have hN1 := hX.s.n (h := v1.toInt.toNat) (by omega)
    have hTa1 := hN1.o
    refine V.pV (as := [_]) (pc := 5) dX11_together_5 lX11_95 bX8_handAt nX8_handAt (ci := 7) rfl eX8_handAt (by assumption) (x_handAtY (d := d + 3) (k := (hds (cor A)).length) _ hX.s hR.h2 hA.1.1 q1) (by omega) rfl (Nat.le_of_ble_eq_true rfl) ?_
    refine V.as (pc := 8) dX11_together_8 (by decide) (st1_6 rfl) ?_
    refine V.aload_n (pc := 10) dX11_together_10 rfl ?_
    refine V.getR (pc := 11) dX11_together_11 fX11_10_10 rfl hX.o hX.f0 ?_
    refine V.iload_n (pc := 14) dX11_together_14 rfl ?_
    by_cases q2 : 0 ≤ v2.toInt ∧ v2.toInt < (hds (cor A)).length
    · obtain ⟨y2, hy2, e2y⟩ := hdAt_yes q2
      have h6 := hA.1.1
      have hY2 := hA.1.2.1 y2 (List.mem_of_getElem? hy2)
      have hW2 := hR.hd hy2
      have hN2 := hX.s.n (h := v2.toInt.toNat) (by omega)
      have hTa2 := hN2.o
      refine V.pV (as := [_]) (pc := 15) dX11_together_15 lX11_95 bX8_handAt nX8_handAt (ci := 7) rfl eX8_handAt (by assumption) (x_handAtY (d := d + 3) (k := (hds (cor A)).length) _ hX.s hR.h2 hA.1.1 q2) (by omega) rfl (Nat.le_of_ble_eq_true rfl) ?_
      refine V.as (pc := 18) dX11_together_18 (by decide) (st1_7 rfl) ?_
      refine V.aload (pc := 20) dX11_together_20 rfl ?_
      refine V.ifnull (pc := 22) dX11_together_22 ?_
      refine V.aload (pc := 25) dX11_together_25 rfl ?_
      refine V.ifnull (pc := 27) dX11_together_27 ?_
      refine V.iload (pc := 30) dX11_together_30 rfl ?_
      refine V.pS (as := [_]) (pc := 32) dX11_together_32 lX11_173 bX11_isDay sX11_isDay (x_isDay (d := d + 3) _) (by omega) rfl (Nat.le_of_ble_eq_true rfl) ?_
      refine V.if_ne 40 (pc := 35) dX11_together_35 (by decide) (fun h35 => ?_) (fun h35 => ?_)
      · have qd := bi_ne.mp h35
        refine V.iload (pc := 40) dX11_together_40 rfl ?_
        refine V.sipush (v := 5000) (pc := 42) dX11_together_42 (by decide) ?_
        have hfx := nIx (x := f) qd.1 rfl
        have hsp := spanN_or (f := f.toInt.toNat) (by omega)
        refine V.iadd (pc := 45) dX11_together_45 ?_
        refine V.ldc (pc := 46) dX11_together_46 qX11_139 ?_
        refine V.mmin (pc := 48) dX11_together_48 lX11_254 (by omega) (Nat.le_of_ble_eq_true rfl) ?_
        rw [show (if (1000000 : Int32) < f + 5000 then (1000000 : Int32) else f + 5000) = nI (f.toInt.toNat + spanN f.toInt.toNat - 1) from by
            rw [show f + 5000 = nI (f.toInt.toNat + 5000) from by rw [← nI_add, ← hfx]; rfl, L1000000]
            rcases hsp with ⟨s1, s2⟩ | ⟨s1, s2⟩
            · rw [if_neg (by rw [nI_ltI (by omega) (by omega)]; omega), s2]; rfl
            · rw [if_pos (by rw [nI_ltI (by omega) (by omega)]; omega), s2]]
        refine V.is (pc := 51) dX11_together_51 (by decide) (st1_8 rfl) ?_
        refine V.iload (pc := 53) dX11_together_53 rfl ?_
        refine V.is (pc := 55) dX11_together_55 (by decide) (st1_9 rfl) ?_
        conv => arg 8; rw [hfx]
        refine Eq.mp (by rw [nI_toInt (by omega), Int.toNat_natCast]) (l_togX (d := d) (x := x) (v1 := v1) (v2 := v2) (y1 := y1) (y2 := y2) (m1 := m1) (m2 := m2) (f := f.toInt.toNat) hN1 hN2 hY1 hY2 hW1 hW2 (by omega) hsp (spanN f.toInt.toNat) f.toInt.toNat rfl (QX.q hX hR (by rw [s_together]; simp only [e1y, e2y]; rw [if_pos qd])))
      · have qd := bi_eq.mp h35
        refine V.iconst (v := (-1)) (pc := 38) dX11_together_38 (by decide) ?_
        exact V.iret (pc := 39) dX11_together_39 rfl (QX.q hX hR (by rw [s_together]; simp only [e1y, e2y]; rw [if_neg qd]; rfl))
    · have e2y := hdAt_no q2
      refine V.pV (as := [_]) (pc := 15) dX11_together_15 lX11_95 bX8_handAt nX8_handAt (ci := 7) rfl eX8_handAt (by assumption) (x_handAtN (d := d + 3) (k := (hds (cor A)).length) _ hX.s hR.h2 hA.1.1 q2) (by omega) rfl (Nat.le_of_ble_eq_true rfl) ?_
      refine V.ns (pc := 18) dX11_together_18 (by decide) (st1_7 rfl) ?_
      refine V.aload (pc := 20) dX11_together_20 rfl ?_
      refine V.ifnull (pc := 22) dX11_together_22 ?_
      refine V.nload (pc := 25) dX11_together_25 rfl ?_
      refine V.ifnullN 38 (pc := 27) dX11_together_27 (by decide) ?_
      refine V.iconst (v := (-1)) (pc := 38) dX11_together_38 (by decide) ?_
      exact V.iret (pc := 39) dX11_together_39 rfl (QX.q hX hR (by rw [s_together]; simp only [e1y, e2y]; rfl))
  · have e1y := hdAt_no q1
    refine V.pV (as := [_]) (pc := 5) dX11_together_5 lX11_95 bX8_handAt nX8_handAt (ci := 7) rfl eX8_handAt (by assumption) (x_handAtN (d := d + 3) (k := (hds (cor A)).length) _ hX.s hR.h2 hA.1.1 q1) (by omega) rfl (Nat.le_of_ble_eq_true rfl) ?_
    refine V.ns (pc := 8) dX11_together_8 (by decide) (st1_6 rfl) ?_
    refine V.aload_n (pc := 10) dX11_together_10 rfl ?_
    refine V.getR (pc := 11) dX11_together_11 fX11_10_10 rfl hX.o hX.f0 ?_
    refine V.iload_n (pc := 14) dX11_together_14 rfl ?_
    by_cases q2 : 0 ≤ v2.toInt ∧ v2.toInt < (hds (cor A)).length
    · obtain ⟨y2, hy2, e2y⟩ := hdAt_yes q2
      have h6 := hA.1.1
      have hY2 := hA.1.2.1 y2 (List.mem_of_getElem? hy2)
      have hW2 := hR.hd hy2
      have hN2 := hX.s.n (h := v2.toInt.toNat) (by omega)
      have hTa2 := hN2.o
      refine V.pV (as := [_]) (pc := 15) dX11_together_15 lX11_95 bX8_handAt nX8_handAt (ci := 7) rfl eX8_handAt (by assumption) (x_handAtY (d := d + 3) (k := (hds (cor A)).length) _ hX.s hR.h2 hA.1.1 q2) (by omega) rfl (Nat.le_of_ble_eq_true rfl) ?_
      refine V.as (pc := 18) dX11_together_18 (by decide) (st1_7 rfl) ?_
      refine V.nload (pc := 20) dX11_together_20 rfl ?_
      refine V.ifnullN 38 (pc := 22) dX11_together_22 (by decide) ?_
      refine V.iconst (v := (-1)) (pc := 38) dX11_together_38 (by decide) ?_
      exact V.iret (pc := 39) dX11_together_39 rfl (QX.q hX hR (by rw [s_together]; simp only [e1y]; rfl))
    · have e2y := hdAt_no q2
      refine V.pV (as := [_]) (pc := 15) dX11_together_15 lX11_95 bX8_handAt nX8_handAt (ci := 7) rfl eX8_handAt (by assumption) (x_handAtN (d := d + 3) (k := (hds (cor A)).length) _ hX.s hR.h2 hA.1.1 q2) (by omega) rfl (Nat.le_of_ble_eq_true rfl) ?_
      refine V.ns (pc := 18) dX11_together_18 (by decide) (st1_7 rfl) ?_
      refine V.nload (pc := 20) dX11_together_20 rfl ?_
      refine V.ifnullN 38 (pc := 22) dX11_together_22 (by decide) ?_
      refine V.iconst (v := (-1)) (pc := 38) dX11_together_38 (by decide) ?_
      exact V.iret (pc := 39) dX11_together_39 rfl (QX.q hX hR (by rw [s_together]; simp only [e1y]; rfl))
