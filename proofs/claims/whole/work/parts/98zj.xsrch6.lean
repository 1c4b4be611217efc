theorem trN_ok {s : List Nat} {B : NSt} (hs : StkOK s) (hB : B.1 = 1 ∨ B.1 = 2) (hv : vld s.length (2 * B.1) B.2.2.2 = true) {p : Nat} {r : Nat × Nat} (h : (trN s B)[p]? = some r) : 6 ≤ r.1 ∧ r.1 ≤ 120 ∧ 6 ≤ r.2 ∧ r.2 ≤ 120 := by
  obtain ⟨h1, h2⟩ := trN_get hB h
  have a := stT_bd hs (vld_dg (by omega) hv (show 2 * p < 2 * B.1 by omega))
  have b := stT_bd hs (vld_dg (by omega) hv (show 2 * p + 1 < 2 * B.1 by omega))
  rw [h2]
  exact ⟨a.1, a.2, b.1, b.2⟩
theorem trN_hd {s : List Nat} {B : NSt} {y : Hd} (hY : HdOK y) (hs : StkOK s) (hB : B.1 = 1 ∨ B.1 = 2) (hv : vld s.length (2 * B.1) B.2.2.2 = true) (j : Nat) : HdOK (y.1, y.2.1, y.2.2.1, (trN s B).take j) := by
  refine ⟨hY.1, hY.2.1, hY.2.2.1, hY.2.2.2.1, ?_, fun r hr => ?_⟩
  · have := trN_len (s := s) hB
    show ((trN s B).take j).length ≤ 4
    rw [List.length_take]
    omega
  · obtain ⟨p, hp⟩ := List.getElem?_of_mem (List.mem_of_mem_take hr)
    exact trN_ok hs hB hv hp
theorem l_mnt {g : gG} {d : Nat} {T : mT} {n : Nat} {I : mI} {J : mJ} {F : mF} {Q : mQ} {x h : Nat} {s : List Nat} {B : NSt} {y : Hd} {v1 v2 v3 : Int32} (hX : XS T F x) (hh : h < 6) (hs : StkU I (x + 1) s) (hB : B.1 = 1 ∨ B.1 = 2) (hv : vld s.length (2 * B.1) B.2.2.2 = true) (hY : HdOK y) (w4 : I (x + 33) 2 = nI B.1) (w3 : ∀ i, i < 2 * B.1 → I (x + 33 + 2) i = nI (dg (2 * B.1) B.2.2.2 i)) (kk : ∀ (I' : mI) (J' : mJ), (∀ b, b ≠ (x + 1 + 8 + 2 * h) → b ≠ (x + 1 + 8 + 2 * h) + 1 → I' b = I b) → (∀ b, b ≠ (x + 1 + 8 + 2 * h) → J' b = J b) → HdX I' J' (x + 1 + 8 + 2 * h) (y.1, y.2.1, y.2.2.1, trN s B) → V g mX11_mount (d + 6) Q 0 0 130 [some (.ref x), some (.int v1), some (.int v2), some (.int v3), some (.ref (x + 1 + 8 + 2 * h)), some (.int (nI B.1)), none, none] [] T n I' J' F) : ∀ (t j : Nat) (I' : mI) (J' : mJ), j + t = B.1 → ((∀ b, b ≠ (x + 1 + 8 + 2 * h) → b ≠ (x + 1 + 8 + 2 * h) + 1 → I' b = I b) ∧ (∀ b, b ≠ (x + 1 + 8 + 2 * h) → J' b = J b) ∧ HdX I' J' (x + 1 + 8 + 2 * h) (y.1, y.2.1, y.2.2.1, (trN s B).take j)) → V g mX11_mount (d + 6) Q 0 0 60 [some (.ref x), some (.int v1), some (.int v2), some (.int v3), some (.ref (x + 1 + 8 + 2 * h)), some (.int (nI j)), none, none] [] T n I' J' F := by
  intro t
  induction t with
  | zero =>
    intro j I' J' hj hi
    obtain rfl : j = B.1 := by omega
    have hTo := hX.s.o
    have hT10 := hX.o10
    have w4b : I' (x + 33) 2 = nI B.1 := by rw [hi.1 _ (by omega) (by omega)]; exact w4
    refine V.iload (pc := 60) dX11_mount_60 rfl ?_
    refine V.aload_n (pc := 62) dX11_mount_62 rfl ?_
    refine V.getR (pc := 63) dX11_mount_63 fX11_57_10 rfl hX.o hX.f10 ?_
    refine V.getI (pc := 66) dX11_mount_66 fX11_218_3 rfl (by assumption) ?_
    rw [w4b]
    refine V.icmp_ge 130 (pc := 69) dX11_mount_69 (by decide) (fun h69 => ?_) (fun h69 => absurd (nI_le (Nat.le_refl _) (by omega)) h69)
    refine kk I' J' hi.1 hi.2.1 ?_
    have z := hi.2.2
    rw [← trN_len (s := s) hB, List.take_length] at z
    exact z
  | succ t ih =>
    intro j I' J' hj hi
    have hTo := hX.s.o
    have hT10 := hX.o10
    have hN := hX.s.n (h := h) hh
    have hTa := hN.o
    have h12 := hs.1.1
    have w4b : I' (x + 33) 2 = nI B.1 := by rw [hi.1 _ (by omega) (by omega)]; exact w4
    have w3b : ∀ i, i < 2 * B.1 → I' (x + 33 + 2) i = nI (dg (2 * B.1) B.2.2.2 i) := fun i hi2 => by rw [hi.1 _ (by omega) (by omega)]; exact w3 i hi2
    have hsb := hs.congr (hi.1 (x + 1) (by omega) (by omega)) (hi.1 (x + 1 + 2) (by omega) (by omega))
    have d1 := vld_dg (by omega) hv (show 2 * j < 2 * B.1 by omega)
    have d2 := vld_dg (by omega) hv (show 2 * j + 1 < 2 * B.1 by omega)
    obtain ⟨r, hq⟩ : ∃ r, (trN s B)[j]? = some r := ⟨_, List.getElem?_eq_getElem (by rw [trN_len hB]; omega)⟩
    have hr2 := (trN_get hB hq).2
    have ho := trN_ok hs.1 hB hv hq
    have hY2 := trN_hd hY hs.1 hB hv j
    have hl : ((trN s B).take j).length < 4 := by
      have := List.length_take_le j (trN s B)
      omega
    refine V.iload (pc := 60) dX11_mount_60 rfl ?_
    refine V.aload_n (pc := 62) dX11_mount_62 rfl ?_
    refine V.getR (pc := 63) dX11_mount_63 fX11_57_10 rfl hX.o hX.f10 ?_
    refine V.getI (pc := 66) dX11_mount_66 fX11_218_3 rfl (by assumption) ?_
    rw [w4b]
    refine V.icmp_ge 130 (pc := 69) dX11_mount_69 (by decide) (fun h69 => absurd h69 (nI_ge (by omega) (by omega))) (fun h69 => ?_)
    refine V.aload_n (pc := 72) dX11_mount_72 rfl ?_
    refine V.getR (pc := 73) dX11_mount_73 fX11_10_10 rfl hX.o hX.f0 ?_
    refine V.aload_n (pc := 76) dX11_mount_76 rfl ?_
    refine V.getR (pc := 77) dX11_mount_77 fX11_57_10 rfl hX.o hX.f10 ?_
    refine V.iconst (v := 2) (pc := 80) dX11_mount_80 (by decide) ?_
    refine V.iload (pc := 81) dX11_mount_81 rfl ?_
    refine V.imul (pc := 83) dX11_mount_83 ?_
    rw [L2, pk_mul]
    refine V.pU (as := [_]) (pc := 84) dX11_mount_84 (ci := 3) rfl uX11_221_X3 bX5_bestWheel nX5_bestWheel (by assumption) (x_best3 (d := d + 5) (k := B.1) _ hX.near w4b (by omega)) (by omega) rfl (Nat.le_of_ble_eq_true rfl) ?_
    rw [nI_toInt (by omega), Int.toNat_natCast, if_pos (by omega), w3b _ (by omega)]
    refine V.pV (as := [_]) (pc := 87) dX11_mount_87 lX11_136 bX8_wheelAt nX8_wheelAt (ci := 7) rfl eX8_wheelAt (by assumption) (x_wAt (d := d + 5) (u := x + 1) (a := dg (2 * B.1) B.2.2.2 (2 * j)) (s := s) _ hX.s hsb rfl (by omega)) (by omega) rfl (Nat.le_of_ble_eq_true rfl) ?_
    refine V.is (pc := 90) dX11_mount_90 (by decide) (st1_6 rfl) ?_
    refine V.aload_n (pc := 92) dX11_mount_92 rfl ?_
    refine V.getR (pc := 93) dX11_mount_93 fX11_10_10 rfl hX.o hX.f0 ?_
    refine V.aload_n (pc := 96) dX11_mount_96 rfl ?_
    refine V.getR (pc := 97) dX11_mount_97 fX11_57_10 rfl hX.o hX.f10 ?_
    refine V.iconst (v := 2) (pc := 100) dX11_mount_100 (by decide) ?_
    refine V.iload (pc := 101) dX11_mount_101 rfl ?_
    refine V.imul (pc := 103) dX11_mount_103 ?_
    rw [L2, pk_mul]
    refine V.iconst (v := 1) (pc := 104) dX11_mount_104 (by decide) ?_
    refine V.iadd (pc := 105) dX11_mount_105 ?_
    rw [nI_1]
    refine V.pU (as := [_]) (pc := 106) dX11_mount_106 (ci := 3) rfl uX11_221_X3 bX5_bestWheel nX5_bestWheel (by assumption) (x_best3 (d := d + 5) (k := B.1) _ hX.near w4b (by omega)) (by omega) rfl (Nat.le_of_ble_eq_true rfl) ?_
    rw [nI_toInt (by omega), Int.toNat_natCast, if_pos (by omega), w3b _ (by omega)]
    refine V.pV (as := [_]) (pc := 109) dX11_mount_109 lX11_136 bX8_wheelAt nX8_wheelAt (ci := 7) rfl eX8_wheelAt (by assumption) (x_wAt (d := d + 5) (u := x + 1) (a := dg (2 * B.1) B.2.2.2 (2 * j + 1)) (s := s) _ hX.s hsb rfl (by omega)) (by omega) rfl (Nat.le_of_ble_eq_true rfl) ?_
    refine V.is (pc := 112) dX11_mount_112 (by decide) (st1_7 rfl) ?_
    refine V.aload (pc := 114) dX11_mount_114 rfl ?_
    refine V.iload (pc := 116) dX11_mount_116 rfl ?_
    refine V.iload (pc := 118) dX11_mount_118 rfl ?_
    refine V.invV0 (as := [_, _]) (pc := 120) dX11_mount_120 lX11_114 bX1_addPair nX1_addPair (ci := 1) rfl eX1_addPair (by assumption) (x_addPairY (d := d + 3) (da := r.1) (db := r.2) (y := (y.1, y.2.1, y.2.2.1, (trN s B).take j)) _ _ hN hY2 hi.2.2 hl (by rw [hr2]) (by rw [hr2]) (by omega) (by omega)) (by omega) rfl (Nat.le_of_ble_eq_true rfl) ?_
    rintro _ _ _ I2 J2 _ ⟨rfl, rfl, rfl, rfl, g1, g2, g3⟩
    refine V.pop (pc := 123) dX11_mount_123 rfl ?_
    refine V.iinc1 (pc := 124) dX11_mount_124 (by decide) rfl (st1_5 rfl) ?_
    refine V.goto 60 (pc := 127) dX11_mount_127 (by decide) ?_
    refine V.weak wk_6 ?_
    refine V.weak wk_7 ?_
    rw [nI_1]
    refine ih (j + 1) I2 J2 (by omega) ⟨fun b h1 h2 => (g1 b h1 h2).trans (hi.1 b h1 h2), fun b h1 => (g2 b h1).trans (hi.2.1 b h1), ?_⟩
    rw [List.take_succ, hq]
    exact g3
theorem y_mount {g : gG} {d : Nat} {T : mT} {n : Nat} {I : mI} {J : mJ} {F : mF} {x : Nat} {A : Ab} (v p q : Int32) (hX : XS T F x) (hA : AbOK A) (hR : RepX T I J F x A) : Ct g mX11_mount (d + 6) [.ref x, .int v, .int p, .int q] 0 0 T n I J F (QX x T n I J F (some (.int (iI (s_mount A v.toInt p.toInt q.toInt).1))) (s_mount A v.toInt p.toInt q.toInt).2) := by
  refine Ct.ofV (k := 4) (by decide) (Nat.le_of_ble_eq_true rfl) ?_
  show V g mX11_mount (d + 6) _ 0 0 0 [some (.ref x), some (.int v), some (.int p), some (.int q), none, none, none, none] [] T n I J F
  have hTo := hX.s.o
  have hT10 := hX.o10
  refine V.iload_n (pc := 0) dX11_mount_0 rfl ?_
  refine V.iload_n (pc := 1) dX11_mount_1 rfl ?_
  refine V.pS (as := [_, _]) (pc := 2) dX11_mount_2 lX11_195 bX11_isRate sX11_isRate (x_isRate (d := d + 5) _ _) (by omega) rfl (Nat.le_of_ble_eq_true rfl) ?_
  refine V.if_ne 14 (pc := 5) dX11_mount_5 (by decide) (fun h5 => ?_) (fun h5 => ?_)
  · have qr := bi_ne.mp h5
    have hp1 := nIx (x := p) (by omega) rfl
    have hq1 := nIx (x := q) (by omega) rfl
    refine V.aload_n (pc := 14) dX11_mount_14 rfl ?_
    refine V.getR (pc := 15) dX11_mount_15 fX11_10_10 rfl hX.o hX.f0 ?_
    refine V.iload_n (pc := 18) dX11_mount_18 rfl ?_
    by_cases q1 : 0 ≤ v.toInt ∧ v.toInt < (hds (cor A)).length
    · obtain ⟨y1, hy1, e1y⟩ := hdAt_yes q1
      have h6 := hA.1.1
      have hY1 := hA.1.2.1 y1 (List.mem_of_getElem? hy1)
      have hW1 := hR.hd hy1
      have hN1 := hX.s.n (h := v.toInt.toNat) (by omega)
      have hTa1 := hN1.o
      have hv1 := nIx q1.1 rfl
      refine V.pV (as := [_]) (pc := 19) dX11_mount_19 lX11_95 bX8_handAt nX8_handAt (ci := 7) rfl eX8_handAt (by assumption) (x_handAtY (d := d + 5) (k := (hds (cor A)).length) _ hX.s hR.h2 hA.1.1 q1) (by omega) rfl (Nat.le_of_ble_eq_true rfl) ?_
      refine V.as (pc := 22) dX11_mount_22 (by decide) (st1_4 rfl) ?_
      refine V.aload (pc := 24) dX11_mount_24 rfl ?_
      refine V.ifnull (pc := 26) dX11_mount_26 ?_
      refine V.aload_n (pc := 29) dX11_mount_29 rfl ?_
      refine V.getR (pc := 30) dX11_mount_30 fX11_57_10 rfl hX.o hX.f10 ?_
      refine V.aload_n (pc := 33) dX11_mount_33 rfl ?_
      refine V.getR (pc := 34) dX11_mount_34 fX11_10_10 rfl hX.o hX.f0 ?_
      refine V.iload_n (pc := 37) dX11_mount_37 rfl ?_
      refine V.iload_n (pc := 38) dX11_mount_38 rfl ?_
      refine V.invV0 (as := [_, _, _]) (pc := 39) dX11_mount_39 lX11_214 bX3_findFor nX3_findFor (ci := 3) rfl eX3_findFor (by assumption) (x_find3 (d := d + 0) (u := x + 1) (p := p.toInt.toNat) (q := q.toInt.toNat) (s := stk (cor A)) _ _ hX.near hX.s (hR.stkU hA) (by omega) hp1 hq1 (by omega) (by omega)) (by omega) rfl (Nat.le_of_ble_eq_true rfl) ?_
      rintro _ _ _ I2 J2 _ ⟨rfl, rfl, rfl, rfl, w1⟩
      have f2 := w1.srf
      refine V.if_ne 52 (pc := 42) dX11_mount_42 (by decide) (fun h42 => ?_) (fun h42 => ?_)
      · have qn := bi_ne.mp h42
        have hS2 : 1 < (stk (cor A)).length := Nat.lt_of_not_le (fun z => qn (nearF_0 (by omega)))
        have hnk := w1.2.2.2.2.2
        have hnv := nearV (s := stk (cor A)) (p := p.toInt.toNat) (q := q.toInt.toNat)
        obtain ⟨w2, w3⟩ := w1.2.2.2.2.1 qn
        have w4 := w1.2.2.2.1
        generalize hgB : (nearF (stk (cor A)) p.toInt.toNat q.toInt.toNat) = B at hnk hnv w2 w3 w4 qn
        obtain ⟨k1, k2, k3, k4⟩ := hnk
        have hB : B.1 = 1 ∨ B.1 = 2 := by omega
        refine V.aload (pc := 52) dX11_mount_52 rfl ?_
        have hBv : vld (stk (cor A)).length (2 * B.1) B.2.2.2 = true := by
          rcases hnv with z | z
          · exact absurd z qn
          · exact z.2
        refine V.invV0 (as := []) (pc := 54) dX11_mount_54 lX11_121 bX1_clearTrain nX1_clearTrain (ci := 1) rfl eX1_clearTrain (by assumption) (x_clear (d := d + 5) hN1) (by omega) rfl (Nat.le_of_ble_eq_true rfl) ?_
        rintro _ _ _ _ _ _ ⟨rfl, rfl, rfl, rfl, rfl, rfl⟩
        refine V.iconst (v := 0) (pc := 57) dX11_mount_57 (by decide) ?_
        refine V.is (pc := 58) dX11_mount_58 (by decide) (st1_5 rfl) ?_
        conv => arg 8; rw [L0]
        refine l_mnt (h := v.toInt.toNat) (s := stk (cor A)) (B := B) (y := y1) hX (by omega) (((f2.rep hR hA).stkU hA).congr (up2_off (by omega)) (up2_off (by omega))) hB hBv hY1 (by rw [up2_off (by omega)]; exact w4) (fun i hi => by rw [up2_off (by omega)]; exact w3.2 i hi) (fun I3 J3 g1 g2 g3 => ?_) B.1 0 _ _ (by omega) ⟨fun _ _ _ => rfl, fun _ _ => rfl, ((f2.rep hR hA).hd hy1).clear⟩
        refine V.aload_n (pc := 130) dX11_mount_130 rfl ?_
        refine V.aload (pc := 131) dX11_mount_131 rfl ?_
        refine V.getI (pc := 133) dX11_mount_133 fX11_118_1 rfl (by assumption) ?_
        refine V.invV0 (as := [_]) (pc := 136) dX11_mount_136 lX11_92 bX11_accept nX11_accept (ci := 10) rfl eX11_accept hX.o (x_accept (d := d + 5) _ hX) (by omega) rfl (Nat.le_of_ble_eq_true rfl) ?_
        rintro _ _ _ _ _ _ ⟨rfl, rfl, rfl, rfl, rfl, rfl⟩
        exact V.iret (pc := 139) dX11_mount_139 rfl (QX.yes (c := setHd (cor A) v.toInt (y1.1, y1.2.1, y1.2.2.1, trN (stk (cor A)) B)) hX hA (ok_cor hA (ok_hand hA.1 hy1 rfl (by have z := trN_hd hY1 (hR.stkU hA).1 hB hBv (trN (stk (cor A)) B).length; rw [List.take_length] at z; exact z))) ((f2.rep hR hA).core hA (fun b hb => by rw [g1 b (by omega) (by omega), up2_off (by omega)]) (StX.hand (by omega) hA.1 (f2.rep hR hA).2.2.1 (by omega) (fun b h1 h2 => by rw [g1 b h1 (by omega), up2_off h1]) (fun b h1 => by rw [g2 b h1, up2_off h1, up2_off h1]) g3) (fun b hb => by rw [g2 b (by omega), up2_off (by omega), up2_off (by omega)])) (fun b h1 h2 => by rw [g1 b (by omega) (by omega), up2_off (by omega)]; exact f2.frx.1 b h1 h2) (fun b h1 h2 => by rw [g2 b (by omega), up2_off (by omega), up2_off (by omega)]; exact f2.frx.2 b h1 h2) (by rw [s_mount, if_pos qr]; simp only [e1y]; rw [if_pos hS2, hgB]; simp only [okYes]; rw [iI_nat, g3.2.2.2.1]; show nI (trN (stk (cor A)) B).length = _; rw [trN_len hB]) (by rw [s_mount, if_pos qr]; simp only [e1y]; rw [if_pos hS2, hgB]; rfl))
      · have qn := bi_eq.mp h42
        have hS2 : ¬ 1 < (stk (cor A)).length := fun z => qn (nearF_1 z)
        refine V.aload_n (pc := 45) dX11_mount_45 rfl ?_
        refine V.bipush (v := (-2)) (pc := 46) dX11_mount_46 (by decide) ?_
        refine V.invV0 (as := [_]) (pc := 48) dX11_mount_48 lX11_85 bX11_refuse nX11_refuse (ci := 10) rfl eX11_refuse hX.o (x_refuse2 (d := d + 5) hX) (by omega) rfl (Nat.le_of_ble_eq_true rfl) ?_
        rintro _ _ _ _ _ _ ⟨rfl, rfl, rfl, rfl, rfl, rfl⟩
        exact V.iret (pc := 51) dX11_mount_51 rfl (QX.no 1 (-2) (by decide) hX hA (f2.rep hR hA) f2.frx.1 f2.frx.2 (by omega) (by rw [s_mount, if_pos qr]; simp only [e1y]; rw [if_neg hS2]; rfl))
    · have e1y := hdAt_no q1
      refine V.pV (as := [_]) (pc := 19) dX11_mount_19 lX11_95 bX8_handAt nX8_handAt (ci := 7) rfl eX8_handAt (by assumption) (x_handAtN (d := d + 5) (k := (hds (cor A)).length) _ hX.s hR.h2 hA.1.1 q1) (by omega) rfl (Nat.le_of_ble_eq_true rfl) ?_
      refine V.ns (pc := 22) dX11_mount_22 (by decide) (st1_4 rfl) ?_
      refine V.nload (pc := 24) dX11_mount_24 rfl ?_
      refine V.ifnullN 45 (pc := 26) dX11_mount_26 (by decide) ?_
      refine V.aload_n (pc := 45) dX11_mount_45 rfl ?_
      refine V.bipush (v := (-2)) (pc := 46) dX11_mount_46 (by decide) ?_
      refine V.invV0 (as := [_]) (pc := 48) dX11_mount_48 lX11_85 bX11_refuse nX11_refuse (ci := 10) rfl eX11_refuse hX.o (x_refuse2 (d := d + 5) hX) (by omega) rfl (Nat.le_of_ble_eq_true rfl) ?_
      rintro _ _ _ _ _ _ ⟨rfl, rfl, rfl, rfl, rfl, rfl⟩
      exact V.iret (pc := 51) dX11_mount_51 rfl (QX.no 1 (-2) (by decide) hX hA hR FrX.rf FrX.rf (by omega) (by rw [s_mount, if_pos qr]; simp only [e1y]; rfl))
  · have qr := bi_eq.mp h5
    refine V.aload_n (pc := 8) dX11_mount_8 rfl ?_
    refine V.iconst (v := (-1)) (pc := 9) dX11_mount_9 (by decide) ?_
    refine V.invV0 (as := [_]) (pc := 10) dX11_mount_10 lX11_85 bX11_refuse nX11_refuse (ci := 10) rfl eX11_refuse hX.o (x_refuse1 (d := d + 5) hX) (by omega) rfl (Nat.le_of_ble_eq_true rfl) ?_
    rintro _ _ _ _ _ _ ⟨rfl, rfl, rfl, rfl, rfl, rfl⟩
    exact V.iret (pc := 13) dX11_mount_13 rfl (QX.no 0 (-1) (by decide) hX hA hR FrX.rf FrX.rf (by omega) (by rw [s_mount, if_neg qr]; rfl))
