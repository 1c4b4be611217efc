theorem PuF.rep {m : Nat} {I I' : mI} {J : mJ} {A : Ab} (f : ∀ a, a ≠ m + 17 → a ≠ m + 18 → I' a = I a) (h : RepM I J m A) : RepM I' J m A := by
  obtain ⟨h1, h2, h3, h4, h5, h6, h7⟩ := h
  refine ⟨by rw [f _ (by omega) (by omega)]; exact h1, by rw [f _ (by omega) (by omega)]; exact h2, by rw [f _ (by omega) (by omega)]; exact h3, fun k hk => ?_, fun i t hi => ?_, fun h x hx => ?_, h7⟩
  · rw [f _ (by omega) (by omega), f (m + 3) (by omega) (by omega)]; exact h4 k hk
  · rw [f _ (by omega) (by omega)]; exact h5 i t hi
  · rw [f _ (by omega) (by omega), f (m + 19) (by omega) (by omega)]; exact h6 h x hx
theorem PFm.keep {W H K : Nat} {a b : Nat → Nat} {m i kf aim : Nat} {I I' : mI} (h : PFm W H K a b m i aim I) (hne : i ≠ kf) (hWH : W * H ≤ 160000) (f : ∀ i, (i < 160000 * kf ∨ 160000 * kf + W * H ≤ i) → I' (m + 17) i = I (m + 17) i) : PFm W H K a b m i aim I' := by
  intro p hp
  rw [f _ (by omega)]
  exact h p hp
theorem RepM.kn {I : mI} {J : mJ} {m : Nat} {A : Ab} (hR : RepM I J m A) (hA : AbOK A) {h : Nat} (hh : h < 6) : ∀ k, k < (kns (cor A)).length → I (m + 2) (124 + 6 * k + h) = nI (knA (kns (cor A)) h k) := by
  intro k hk
  unfold knA
  rw [List.getElem?_eq_getElem hk]
  exact hR.2.2.1.2.2.2.2.1 k _ (List.getElem?_eq_getElem hk) h hh
theorem kn_ab {c : Core} (hc : CoreOK c) {h1 h2 : Nat} : (kns c).length ≤ 4 ∧ ∀ k, k < (kns c).length → knA (kns c) h1 k ≤ 9 ∧ knA (kns c) h2 k ≤ 9 := by
  refine ⟨hc.2.2.2.2.2.2.2.2.2.1, fun k hk => ?_⟩
  unfold knA
  rw [List.getElem?_eq_getElem hk]
  exact ⟨hc.2.2.2.2.2.2.2.2.2.2.1 _ (List.getElem_mem hk) _, hc.2.2.2.2.2.2.2.2.2.2.1 _ (List.getElem_mem hk) _⟩
theorem l_wa {g : gG} {d : Nat} {T : mT} {n : Nat} {I : mI} {J : mJ} {F : mF} {Q : mQ} {m h1 h2 W H K n1 n2 : Nat} {a b : Nat → Nat} {v5 v6 : Int32} (hM : MS T F m) (hW : 0 < W ∧ W ≤ 400) (hH : 0 < H ∧ H ≤ 400) (hK : K ≤ 4) (hh : h1 < 6 ∧ h2 < 6) (hk5 : I (m + 2) 5 = nI K) (hab : ∀ k, k < K → a k ≤ 9 ∧ b k ≤ 9) (hkn : ∀ k, k < K → I (m + 2) (124 + 6 * k + h1) = nI (a k) ∧ I (m + 2) (124 + 6 * k + h2) = nI (b k)) (e1 : I (m + 2) (10 + 12 * h1 + 0) = nI W) (e2 : I (m + 2) (10 + 12 * h2 + 0) = nI H) (hn : n1 < W ∧ n2 < H) (kk : ∀ I' : mI, (∀ a, a ≠ m + 17 → a ≠ m + 18 → I' a = I a) → (∀ i, i ≤ K → PFm W H K a b m i (n1 * H + n2) I') → V g mX12_set (d + 4) Q 0 0 135 [some (.ref m), some (.int (nI h1)), some (.int (nI n1)), some (.int (nI h2)), some (.int (nI n2)), some (.int v5), some (.int v6), some (.int (nI W)), some (.int (nI H)), some (.int (nI (K + 1))), none, none, none, none, none] [] T n I' J F) : ∀ (t j : Nat) (I' : mI), j + t = K + 1 → ((∀ a, a ≠ m + 17 → a ≠ m + 18 → I' a = I a) ∧ ∀ i, i < j → PFm W H K a b m i (n1 * H + n2) I') → V g mX12_set (d + 4) Q 0 0 103 [some (.ref m), some (.int (nI h1)), some (.int (nI n1)), some (.int (nI h2)), some (.int (nI n2)), some (.int v5), some (.int v6), some (.int (nI W)), some (.int (nI H)), some (.int (nI j)), none, none, none, none, none] [] T n I' J F := by
  intro t
  induction t with
  | zero =>
    intro j I' hj hi
    obtain rfl : j = K + 1 := by omega
    have r2 := hi.1 (m + 2) (by omega) (by omega)
    refine V.iload (pc := 103) dX12_set_103 rfl ?_
    refine V.aload_n (pc := 105) dX12_set_105 rfl ?_
    refine V.getR (pc := 106) dX12_set_106 fX12_13_11 rfl hM.o hM.f3 ?_
    refine V.iconst (v := 5) (pc := 109) dX12_set_109 (by decide) ?_
    refine V.iald' (k := 5) (pc := 110) dX12_set_110 hM.t3 rfl (by decide) (by decide) ?_
    rw [r2, hk5]
    refine V.icmp_gt 135 (pc := 111) dX12_set_111 (by decide) (fun h111 => ?_) (fun h111 => absurd (by rw [lt32, nI_toInt (by omega), nI_toInt (by omega)]; omega) h111)
    exact kk I' hi.1 (fun i h => hi.2 i (by omega))
  | succ t ih =>
    intro j I' hj hi
    have r2 := hi.1 (m + 2) (by omega) (by omega)
    have hWH : W * H ≤ 400 * 400 := Nat.mul_le_mul hW.2 hH.2
    refine V.iload (pc := 103) dX12_set_103 rfl ?_
    refine V.aload_n (pc := 105) dX12_set_105 rfl ?_
    refine V.getR (pc := 106) dX12_set_106 fX12_13_11 rfl hM.o hM.f3 ?_
    refine V.iconst (v := 5) (pc := 109) dX12_set_109 (by decide) ?_
    refine V.iald' (k := 5) (pc := 110) dX12_set_110 hM.t3 rfl (by decide) (by decide) ?_
    rw [r2, hk5]
    refine V.icmp_gt 135 (pc := 111) dX12_set_111 (by decide) (fun h111 => absurd h111 (by rw [lt32, nI_toInt (by omega), nI_toInt (by omega)]; omega)) (fun h111 => ?_)
    refine V.aload_n (pc := 114) dX12_set_114 rfl ?_
    refine V.iload (pc := 115) dX12_set_115 rfl ?_
    refine V.iload_n (pc := 117) dX12_set_117 rfl ?_
    refine V.iload_n (pc := 118) dX12_set_118 rfl ?_
    refine V.iload_n (pc := 119) dX12_set_119 rfl ?_
    refine V.iload (pc := 120) dX12_set_120 rfl ?_
    refine V.imul (pc := 122) dX12_set_122 ?_
    rw [pk_mul]
    refine V.iload (pc := 123) dX12_set_123 rfl ?_
    refine V.iadd (pc := 125) dX12_set_125 ?_
    rw [nI_add]
    refine V.invV0 (as := [_, _, _, _]) (pc := 126) dX12_set_126 lX12_432 bX12_findPushes nX12_findPushes (ci := 11) rfl eX12_findPushes hM.o (c_findPushes (d := d + 2) (kf := j) (h1 := h1) (h2 := h2) (aim := n1 * H + n2) (W := W) (H := H) (K := K) (a := a) (b := b) hM hW hH hK (by omega) hh (by rw [r2]; exact hk5) hab (by rw [r2]; exact hkn) (pl_lt hn.1 hn.2) (by rw [r2]; exact e1) (by rw [r2]; exact e2)) (by omega) rfl (Nat.le_of_ble_eq_true rfl) ?_
    rintro _ _ _ I2 _ _ ⟨rfl, rfl, rfl, rfl, rfl, g1, g2, g3⟩
    refine V.iinc1 (pc := 129) dX12_set_129 (by decide) rfl (st1_9 rfl) ?_
    refine V.goto 103 (pc := 132) dX12_set_132 (by decide) ?_
    rw [nI_1]
    refine ih (j + 1) I2 (by omega) ⟨fun a a1 a2 => (g1 a a1 a2).trans (hi.1 a a1 a2), fun i h => ?_⟩
    by_cases q : i = j
    · subst q; exact g3
    · exact (hi.2 i (by omega)).keep q (by omega) g2
theorem p_set {g : gG} {d : Nat} {T : mT} {n : Nat} {I : mI} {J : mJ} {F : mF} {m : Nat} {A : Ab} (x m1 z m2 dd w : Int32) (hM : MS T F m) (hA : AbOK A) (hR : RepM I J m A) : Ct g mX12_set (d + 4) [.ref m, .int x, .int m1, .int z, .int m2, .int dd, .int w] 0 0 T n I J F (fun r' T' n' I' J' F' => ∃ r : Int, SetS A x.toInt m1.toInt z.toInt m2.toInt dd.toInt w.toInt r ∧ QM m T n I J F (some (.int (iI r))) A r' T' n' I' J' F') := by
  refine Ct.ofV (k := 8) (by decide) (Nat.le_of_ble_eq_true rfl) ?_
  show V g mX12_set (d + 4) _ 0 0 0 [some (.ref m), some (.int x), some (.int m1), some (.int z), some (.int m2), some (.int dd), some (.int w), none, none, none, none, none, none, none, none] [] T n I J F
  have h6 := hA.1.1
  obtain ⟨hK4, hKab⟩ := kn_ab hA.1 (h1 := x.toInt.toNat) (h2 := z.toInt.toNat)
  refine V.aload_n (pc := 0) dX12_set_0 rfl ?_
  refine V.iconst (v := 0) (pc := 1) dX12_set_1 (by decide) ?_
  refine V.putI (pc := 2) dX12_set_2 fX12_88_11 (fun r h => by cases h; exact Or.inl rfl) rfl hM.o ?_
  refine V.thr hR (fun I1 hR1 hf => ?_)
  clear hR
  have hR := hR1
  clear hR1
  refine V.aload_n (pc := 5) dX12_set_5 rfl ?_
  refine V.iload_n (pc := 6) dX12_set_6 rfl ?_
  refine V.pV (as := [_]) (pc := 7) dX12_set_7 lX12_111 bX12_isHand nX12_isHand (ci := 11) rfl eX12_isHand hM.o (c_isHand (d := d + 2) _ hM (by have := hA.1.1; omega) hR.h0) (by omega) rfl (Nat.le_of_ble_eq_true rfl) ?_
  refine V.if_eq 51 (pc := 10) dX12_set_10 (by decide) (fun h10 => ?_) (fun h10 => ?_)
  · have q1 := bi_eq.mp h10
    have e1y := hdAt_no q1
    refine V.iconst (v := (-1)) (pc := 51) dX12_set_51 (by decide) ?_
    exact V.iret (pc := 52) dX12_set_52 rfl ⟨-1, by rw [SetS]; simp only [e1y], rfl, rfl, rfl, rfl, hf, Frm.rf, hR⟩
  · have q1 := bi_ne.mp h10
    obtain ⟨y1, h1y, e1y⟩ := hdAt_yes q1
    have h1x := nIx q1.1 rfl
    have h1H := hR.hd hA h1y
    refine V.aload_n (pc := 13) dX12_set_13 rfl ?_
    refine V.iload_n (pc := 14) dX12_set_14 rfl ?_
    refine V.pV (as := [_]) (pc := 15) dX12_set_15 lX12_111 bX12_isHand nX12_isHand (ci := 11) rfl eX12_isHand hM.o (c_isHand (d := d + 2) _ hM (by have := hA.1.1; omega) hR.h0) (by omega) rfl (Nat.le_of_ble_eq_true rfl) ?_
    refine V.if_eq 51 (pc := 18) dX12_set_18 (by decide) (fun h18 => ?_) (fun h18 => ?_)
    · have q2 := bi_eq.mp h18
      have e2y := hdAt_no q2
      refine V.iconst (v := (-1)) (pc := 51) dX12_set_51 (by decide) ?_
      exact V.iret (pc := 52) dX12_set_52 rfl ⟨-1, by rw [SetS]; simp only [e1y, e2y], rfl, rfl, rfl, rfl, hf, Frm.rf, hR⟩
    · have q2 := bi_ne.mp h18
      obtain ⟨y2, h2y, e2y⟩ := hdAt_yes q2
      have h2x := nIx q2.1 rfl
      have h2H := hR.hd hA h2y
      refine V.iload_n (pc := 21) dX12_set_21 rfl ?_
      refine V.iload_n (pc := 22) dX12_set_22 rfl ?_
      refine V.icmp_eq 51 (pc := 23) dX12_set_23 (by decide) (fun h23 => ?_) (fun h23 => ?_)
      · 
        refine V.iconst (v := (-1)) (pc := 51) dX12_set_51 (by decide) ?_
        exact V.iret (pc := 52) dX12_set_52 rfl ⟨-1, by rw [SetS]; simp only [e1y, e2y]; rw [if_neg (show ¬ ((x.toInt ≠ z.toInt ∧ (0 ≤ dd.toInt ∧ dd.toInt ≤ 1000000)) ∧ (0 ≤ w.toInt ∧ w.toInt ≤ (kns (cor A)).length) ∧ (0 ≤ m1.toInt ∧ m1.toInt < y1.1) ∧ (0 ≤ m2.toInt ∧ m2.toInt < y2.1)) from fun q => q.1.1 (by rw [h23]))]; trivial, rfl, rfl, rfl, rfl, hf, Frm.rf, hR⟩
      · have qne : x.toInt ≠ z.toInt := fun q => h23 ((eq32 _ _).mpr q)
        refine V.iload (pc := 26) dX12_set_26 rfl ?_
        refine V.pS (as := [_]) (pc := 28) dX12_set_28 lX12_318 bX12_isDay sX12_isDay (c_isDay (d := d + 2) _) (by omega) rfl (Nat.le_of_ble_eq_true rfl) ?_
        refine V.if_eq 51 (pc := 31) dX12_set_31 (by decide) (fun h31 => ?_) (fun h31 => ?_)
        · have qd := bi_eq.mp h31
          refine V.iconst (v := (-1)) (pc := 51) dX12_set_51 (by decide) ?_
          exact V.iret (pc := 52) dX12_set_52 rfl ⟨-1, by rw [SetS]; simp only [e1y, e2y]; rw [if_neg (show ¬ ((x.toInt ≠ z.toInt ∧ (0 ≤ dd.toInt ∧ dd.toInt ≤ 1000000)) ∧ (0 ≤ w.toInt ∧ w.toInt ≤ (kns (cor A)).length) ∧ (0 ≤ m1.toInt ∧ m1.toInt < y1.1) ∧ (0 ≤ m2.toInt ∧ m2.toInt < y2.1)) from fun q => qd q.1.2)]; trivial, rfl, rfl, rfl, rfl, hf, Frm.rf, hR⟩
        · have qd := bi_ne.mp h31
          refine V.iload (pc := 34) dX12_set_34 rfl ?_
          refine V.i2l (pc := 36) dX12_set_36 ?_
          refine V.lconst (v := 0) (pc := 37) dX12_set_37 (by decide) ?_
          refine V.aload_n (pc := 38) dX12_set_38 rfl ?_
          refine V.getR (pc := 39) dX12_set_39 fX12_13_11 rfl hM.o hM.f3 ?_
          refine V.iconst (v := 5) (pc := 42) dX12_set_42 (by decide) ?_
          refine V.iald' (k := 5) (pc := 43) dX12_set_43 hM.t3 rfl (by decide) (by decide) ?_
          rw [hR.h5]
          refine V.i2l (pc := 44) dX12_set_44 ?_
          refine V.pS (as := [_, _, _]) (pc := 45) dX12_set_45 lX12_98 bX12_in sX12_in (c_in (d := d + 3) _ _ _) (by omega) rfl (Nat.le_of_ble_eq_true rfl) ?_
          rw [bi_c (show ((0 : Int64) ≤ w.toInt64 ∧ w.toInt64 ≤ (nI (kns (cor A)).length).toInt64) ↔ (0 ≤ w.toInt ∧ w.toInt ≤ (kns (cor A)).length) from by rw [Int64.le_iff_toInt_le, Int64.le_iff_toInt_le, toI64, toI64, nI_toInt (by omega)]; exact Iff.rfl)]
          refine V.if_ne 53 (pc := 48) dX12_set_48 (by decide) (fun h48 => ?_) (fun h48 => ?_)
          · have qw := bi_ne.mp h48
            refine V.aload_n (pc := 53) dX12_set_53 rfl ?_
            refine V.iload_n (pc := 54) dX12_set_54 rfl ?_
            refine V.iconst (v := 0) (pc := 55) dX12_set_55 (by decide) ?_
            refine V.pV (as := [_, _]) (pc := 56) dX12_set_56 lX12_115 bX12_ofHand nX12_ofHand (ci := 11) rfl eX12_ofHand hM.o (c_ofHand (d := d + 3) (h := x.toInt.toNat) (w := 0) _ _ hM h1x rfl (by omega)) (by omega) rfl (Nat.le_of_ble_eq_true rfl) ?_
            rw [show I1 (m + 2) (10 + 12 * x.toInt.toNat + 0) = nI y1.1 from h1H.2.1.1]
            refine V.is (pc := 59) dX12_set_59 (by decide) (st1_7 rfl) ?_
            refine V.aload_n (pc := 61) dX12_set_61 rfl ?_
            refine V.iload_n (pc := 62) dX12_set_62 rfl ?_
            refine V.iconst (v := 0) (pc := 63) dX12_set_63 (by decide) ?_
            refine V.pV (as := [_, _]) (pc := 64) dX12_set_64 lX12_115 bX12_ofHand nX12_ofHand (ci := 11) rfl eX12_ofHand hM.o (c_ofHand (d := d + 3) (h := z.toInt.toNat) (w := 0) _ _ hM h2x rfl (by omega)) (by omega) rfl (Nat.le_of_ble_eq_true rfl) ?_
            rw [show I1 (m + 2) (10 + 12 * z.toInt.toNat + 0) = nI y2.1 from h2H.2.1.1]
            refine V.is (pc := 67) dX12_set_67 (by decide) (st1_8 rfl) ?_
            refine V.iload_n (pc := 69) dX12_set_69 rfl ?_
            refine V.i2l (pc := 70) dX12_set_70 ?_
            refine V.lconst (v := 0) (pc := 71) dX12_set_71 (by decide) ?_
            refine V.iload (pc := 72) dX12_set_72 rfl ?_
            refine V.i2l (pc := 74) dX12_set_74 ?_
            refine V.lconst (v := 1) (pc := 75) dX12_set_75 (by decide) ?_
            refine V.lsub (pc := 76) dX12_set_76 ?_
            have hY1 := h1H.2.2
            have hY2 := h2H.2.2
            have y11 := hY1.1
            have y12 := hY1.2.1
            have y21 := hY2.1
            have y22 := hY2.2.1
            refine V.pS (as := [_, _, _]) (pc := 77) dX12_set_77 lX12_98 bX12_in sX12_in (c_in (d := d + 3) _ _ _) (by omega) rfl (Nat.le_of_ble_eq_true rfl) ?_
            rw [bi_c (in0 m1 y1.1 (by omega))]
            refine V.if_eq 98 (pc := 80) dX12_set_80 (by decide) (fun h80 => ?_) (fun h80 => ?_)
            · have qa := bi_eq.mp h80
              refine V.iconst (v := (-1)) (pc := 98) dX12_set_98 (by decide) ?_
              exact V.iret (pc := 99) dX12_set_99 rfl ⟨-1, by rw [SetS]; simp only [e1y, e2y]; rw [if_neg (show ¬ ((x.toInt ≠ z.toInt ∧ (0 ≤ dd.toInt ∧ dd.toInt ≤ 1000000)) ∧ (0 ≤ w.toInt ∧ w.toInt ≤ (kns (cor A)).length) ∧ (0 ≤ m1.toInt ∧ m1.toInt < y1.1) ∧ (0 ≤ m2.toInt ∧ m2.toInt < y2.1)) from fun q => qa q.2.2.1)]; trivial, rfl, rfl, rfl, rfl, hf, Frm.rf, hR⟩
            · have qa := bi_ne.mp h80
              refine V.iload (pc := 83) dX12_set_83 rfl ?_
              refine V.i2l (pc := 85) dX12_set_85 ?_
              refine V.lconst (v := 0) (pc := 86) dX12_set_86 (by decide) ?_
              refine V.iload (pc := 87) dX12_set_87 rfl ?_
              refine V.i2l (pc := 89) dX12_set_89 ?_
              refine V.lconst (v := 1) (pc := 90) dX12_set_90 (by decide) ?_
              refine V.lsub (pc := 91) dX12_set_91 ?_
              refine V.pS (as := [_, _, _]) (pc := 92) dX12_set_92 lX12_98 bX12_in sX12_in (c_in (d := d + 3) _ _ _) (by omega) rfl (Nat.le_of_ble_eq_true rfl) ?_
              rw [bi_c (in0 m2 y2.1 (by omega))]
              refine V.if_ne 100 (pc := 95) dX12_set_95 (by decide) (fun h95 => ?_) (fun h95 => ?_)
              · have qb := bi_ne.mp h95
                have hSQ : ((x.toInt ≠ z.toInt ∧ (0 ≤ dd.toInt ∧ dd.toInt ≤ 1000000)) ∧ (0 ≤ w.toInt ∧ w.toInt ≤ (kns (cor A)).length) ∧ (0 ≤ m1.toInt ∧ m1.toInt < y1.1) ∧ (0 ≤ m2.toInt ∧ m2.toInt < y2.1)) := ⟨⟨qne, qd⟩, qw, qa, qb⟩
                have hdx := nIx (x := dd) qd.1 rfl
                have hwx := nIx (x := w) qw.1 rfl
                have hm1 := nIx (x := m1) qa.1 rfl
                have hm2 := nIx (x := m2) qb.1 rfl
                have hWH : y1.1 * y2.1 ≤ 400 * 400 := Nat.mul_le_mul y12 y22
                have k1 : markD y1 dd.toInt.toNat < y1.1 := Nat.mod_lt _ y11
                have k2 : markD y2 dd.toInt.toNat < y2.1 := Nat.mod_lt _ y21
                have hst := pl_lt k1 k2
                refine V.iconst (v := 0) (pc := 100) dX12_set_100 (by decide) ?_
                refine V.is (pc := 101) dX12_set_101 (by decide) (st1_9 rfl) ?_
                conv => arg 8; rw [L0, h1x, h2x, hm1, hm2]
                refine l_wa (I := I1) (a := (knA (kns (cor A)) x.toInt.toNat)) (b := (knA (kns (cor A)) z.toInt.toNat)) hM ⟨y11, y12⟩ ⟨y21, y22⟩ hK4 ⟨by omega, by omega⟩ hR.h5 hKab (fun k hk => ⟨hR.kn hA (by omega) k hk, hR.kn hA (by omega) k hk⟩) h1H.2.1.1 h2H.2.1.1 ⟨by omega, by omega⟩ (fun I2 g1 hP => ?_) ((kns (cor A)).length + 1) 0 I1 (by omega) ⟨fun _ _ _ => rfl, fun i hi => absurd hi (by omega)⟩
                have r2 := g1 (m + 2) (by omega) (by omega)
                have h1H2 := h1H.congr r2
                have h2H2 := h2H.congr r2
                refine V.aload_n (pc := 135) dX12_set_135 rfl ?_
                refine V.iload_n (pc := 136) dX12_set_136 rfl ?_
                refine V.aload_n (pc := 137) dX12_set_137 rfl ?_
                refine V.iload_n (pc := 138) dX12_set_138 rfl ?_
                refine V.iload (pc := 139) dX12_set_139 rfl ?_
                refine V.pV (as := [_, _]) (pc := 141) dX12_set_141 lX12_307 bX12_gone2 nX12_gone2 (ci := 11) rfl eX12_gone2 hM.o (c_gone2 (d := d + 2) (h := x.toInt.toNat) (dd := dd.toInt.toNat) (y := y1) _ _ hM rfl h1H2 hdx (by omega)) (by omega) rfl (Nat.le_of_ble_eq_true rfl) ?_
                refine V.pV (as := [_, _]) (pc := 144) dX12_set_144 lX12_349 bX12_markAt nX12_markAt (ci := 11) rfl eX12_markAt hM.o (c_markAt (d := d + 0) (h := x.toInt.toNat) (go := goN dd.toInt.toNat y1.2.2.1) (y := y1) _ _ hM rfl h1H2 rfl (Nat.le_trans (goN_le _ _) (by omega))) (by omega) rfl (Nat.le_of_ble_eq_true rfl) ?_
                rw [show mkN (goN dd.toInt.toNat y1.2.2.1) (upN y1.2.2.2) (loN y1.2.2.2) y1.1 y1.2.1 = markD y1 dd.toInt.toNat from rfl]
                refine V.is (pc := 147) dX12_set_147 (by decide) (st1_9 rfl) ?_
                refine V.aload_n (pc := 149) dX12_set_149 rfl ?_
                refine V.iload_n (pc := 150) dX12_set_150 rfl ?_
                refine V.aload_n (pc := 151) dX12_set_151 rfl ?_
                refine V.iload_n (pc := 152) dX12_set_152 rfl ?_
                refine V.iload (pc := 153) dX12_set_153 rfl ?_
                refine V.pV (as := [_, _]) (pc := 155) dX12_set_155 lX12_307 bX12_gone2 nX12_gone2 (ci := 11) rfl eX12_gone2 hM.o (c_gone2 (d := d + 2) (h := z.toInt.toNat) (dd := dd.toInt.toNat) (y := y2) _ _ hM rfl h2H2 hdx (by omega)) (by omega) rfl (Nat.le_of_ble_eq_true rfl) ?_
                refine V.pV (as := [_, _]) (pc := 158) dX12_set_158 lX12_349 bX12_markAt nX12_markAt (ci := 11) rfl eX12_markAt hM.o (c_markAt (d := d + 0) (h := z.toInt.toNat) (go := goN dd.toInt.toNat y2.2.2.1) (y := y2) _ _ hM rfl h2H2 rfl (Nat.le_trans (goN_le _ _) (by omega))) (by omega) rfl (Nat.le_of_ble_eq_true rfl) ?_
                rw [show mkN (goN dd.toInt.toNat y2.2.2.1) (upN y2.2.2.2) (loN y2.2.2.2) y2.1 y2.2.1 = markD y2 dd.toInt.toNat from rfl]
                refine V.is (pc := 161) dX12_set_161 (by decide) (st1_10 rfl) ?_
                refine V.aload_n (pc := 163) dX12_set_163 rfl ?_
                refine V.getR (pc := 164) dX12_set_164 fX12_75_11 rfl hM.o hM.f38 ?_
                refine V.iload (pc := 167) dX12_set_167 rfl ?_
                refine V.iload (pc := 169) dX12_set_169 rfl ?_
                refine V.imul (pc := 171) dX12_set_171 ?_
                refine V.iload (pc := 172) dX12_set_172 rfl ?_
                refine V.iadd (pc := 174) dX12_set_174 ?_
                rcases hP 0 (Nat.zero_le _) _ hst with ⟨n0, v1, v2, v3⟩ | ⟨v1, v2⟩
                · refine V.iald' (k := 160000 * 0 + (markD y1 dd.toInt.toNat * y2.1 + markD y2 dd.toInt.toNat)) (pc := 175) dX12_set_175 hM.t38 (by rw [pk_mul, nI_add]; congr 1; omega) (by omega) (by decide) ?_
                  rw [v1]
                  obtain ⟨L, hL, hLt⟩ := v3.fin
                  refine V.is (pc := 176) dX12_set_176 (by decide) (st1_11 rfl) ?_
                  refine V.iload (pc := 178) dX12_set_178 rfl ?_
                  refine V.ldcw (pc := 180) dX12_set_180 qX12_431 ?_
                  refine V.icmp_eq 191 (pc := 183) dX12_set_183 (by decide) (fun h183 => absurd h183 (fun q => by have q2 := congrArg Int32.toInt q; rw [nI_toInt (by omega)] at q2; have e1 : (1000000000 : Int32).toInt = 1000000000 := rfl; omega)) (fun h183 => ?_)
                  refine V.iload (pc := 186) dX12_set_186 rfl ?_
                  refine V.if_ne 206 (pc := 188) dX12_set_188 (by decide) (fun h188 => ?_) (fun h188 => ?_)
                  · have w0 : ¬ w.toInt = 0 := fun q => h188 ((eq32 _ _).mpr q)
                    refine V.iload (pc := 206) dX12_set_206 rfl ?_
                    refine V.is (pc := 208) dX12_set_208 (by decide) (st1_12 rfl) ?_
                    refine V.iconst (v := 0) (pc := 210) dX12_set_210 (by decide) ?_
                    refine V.is (pc := 211) dX12_set_211 (by decide) (st1_13 rfl) ?_
                    refine V.iconst (v := 0) (pc := 213) dX12_set_213 (by decide) ?_
                    refine V.is (pc := 214) dX12_set_214 (by decide) (st1_14 rfl) ?_
                    obtain ⟨dv1, dv2⟩ := dvH (x := markD y1 dd.toInt.toNat) k2
                    have pz := plc_0 (a := (knA (kns (cor A)) x.toInt.toNat)) (b := (knA (kns (cor A)) z.toInt.toNat)) hst
                    have p0 : preV L 0 0 = (0, 0, 0, 0) := rfl
                    conv => arg 8; rw [L0, hwx]
                    have zz := l_wb (g := g) (d := d) (n := n) (J := J) (Q := fun r' T' n' I' J' F' => ∃ r : Int, SetS A x.toInt m1.toInt z.toInt m2.toInt dd.toInt w.toInt r ∧ QM m T n I J F (some (.int (iI r))) A r' T' n' I' J' F') (v2 := nI m1.toInt.toNat) (v4 := nI m2.toInt.toNat) (v5 := dd) (v11 := nI n0) (h1 := x.toInt.toNat) (h2 := z.toInt.toNat) (aim := (m1.toInt.toNat * y2.1 + m2.toInt.toNat)) (st := (markD y1 dd.toInt.toNat * y2.1 + markD y2 dd.toInt.toNat)) (w := w.toInt.toNat) (a := (knA (kns (cor A)) x.toInt.toNat)) (b := (knA (kns (cor A)) z.toInt.toNat)) (L := L) hM ⟨y11, y12⟩ ⟨y21, y22⟩ hK4 ⟨by omega, by omega⟩ hKab (fun k hk => ⟨by rw [r2]; exact hR.kn hA (by omega) k hk, by rw [r2]; exact hR.kn hA (by omega) k hk⟩) hP hL (by omega) (by omega) (by omega) ⟨(v4g L (w.toInt.toNat - 1) : Int), by rw [SetS]; simp only [e1y, e2y]; rw [if_pos (show ((x.toInt ≠ z.toInt ∧ (0 ≤ dd.toInt ∧ dd.toInt ≤ 1000000)) ∧ (0 ≤ w.toInt ∧ w.toInt ≤ (kns (cor A)).length) ∧ (0 ≤ m1.toInt ∧ m1.toInt < y1.1) ∧ (0 ≤ m2.toInt ∧ m2.toInt < y2.1)) from hSQ)]; exact Or.inl ⟨L, hL, by rw [if_neg (by omega)]⟩, by rw [iI_nat], rfl, rfl, rfl, hf.trans (fun b hb => g1 b (by omega) (by omega)), Frm.rf, PuF.rep g1 hR⟩ w.toInt.toNat 0 (markD y1 dd.toInt.toNat * y2.1 + markD y2 dd.toInt.toNat) n0 (nI 0) (by omega) (fun _ => ⟨by rw [p0, pz], by rw [p0, hLt]; rfl⟩) (fun q => absurd q (by omega))
                    rw [dv1, dv2] at zz
                    exact zz
                  · have w0 : w.toInt = 0 := by rw [h188]; rfl
                    refine V.iload (pc := 191) dX12_set_191 rfl ?_
                    refine V.ldcw (pc := 193) dX12_set_193 qX12_431 ?_
                    refine V.icmp_ne 203 (pc := 196) dX12_set_196 (by decide) (fun h196 => ?_) (fun h196 => absurd h196 (fun q => by have q2 := congrArg Int32.toInt q; rw [nI_toInt (by omega)] at q2; have e1 : (1000000000 : Int32).toInt = 1000000000 := rfl; omega))
                    refine V.iload (pc := 203) dX12_set_203 rfl ?_
                    exact V.iret (pc := 205) dX12_set_205 rfl ⟨(n0 : Int), by rw [SetS]; simp only [e1y, e2y]; rw [if_pos (show ((x.toInt ≠ z.toInt ∧ (0 ≤ dd.toInt ∧ dd.toInt ≤ 1000000)) ∧ (0 ≤ w.toInt ∧ w.toInt ≤ (kns (cor A)).length) ∧ (0 ≤ m1.toInt ∧ m1.toInt < y1.1) ∧ (0 ≤ m2.toInt ∧ m2.toInt < y2.1)) from hSQ)]; exact Or.inl ⟨L, hL, by rw [if_pos (by omega), hLt]⟩, by rw [iI_nat], rfl, rfl, rfl, hf.trans (fun b hb => g1 b (by omega) (by omega)), Frm.rf, PuF.rep g1 hR⟩
                · refine V.iald' (k := 160000 * 0 + (markD y1 dd.toInt.toNat * y2.1 + markD y2 dd.toInt.toNat)) (pc := 175) dX12_set_175 hM.t38 (by rw [pk_mul, nI_add]; congr 1; omega) (by omega) (by decide) ?_
                  rw [v1]
                  refine V.is (pc := 176) dX12_set_176 (by decide) (st1_11 rfl) ?_
                  refine V.iload (pc := 178) dX12_set_178 rfl ?_
                  refine V.ldcw (pc := 180) dX12_set_180 qX12_431 ?_
                  refine V.icmp_eq 191 (pc := 183) dX12_set_183 (by decide) (fun h183 => ?_) (fun h183 => absurd rfl h183)
                  refine V.iload (pc := 191) dX12_set_191 rfl ?_
                  refine V.ldcw (pc := 193) dX12_set_193 qX12_431 ?_
                  refine V.icmp_ne 203 (pc := 196) dX12_set_196 (by decide) (fun h196 => absurd rfl h196) (fun h196 => ?_)
                  refine V.iconst (v := (-1)) (pc := 199) dX12_set_199 (by decide) ?_
                  refine V.goto 205 (pc := 200) dX12_set_200 (by decide) ?_
                  exact V.iret (pc := 205) dX12_set_205 rfl ⟨-1, by rw [SetS]; simp only [e1y, e2y]; rw [if_pos (show ((x.toInt ≠ z.toInt ∧ (0 ≤ dd.toInt ∧ dd.toInt ≤ 1000000)) ∧ (0 ≤ w.toInt ∧ w.toInt ≤ (kns (cor A)).length) ∧ (0 ≤ m1.toInt ∧ m1.toInt < y1.1) ∧ (0 ≤ m2.toInt ∧ m2.toInt < y2.1)) from hSQ)]; exact Or.inr ⟨v2, rfl⟩, rfl, rfl, rfl, rfl, hf.trans (fun b hb => g1 b (by omega) (by omega)), Frm.rf, PuF.rep g1 hR⟩
              · have qb := bi_eq.mp h95
                refine V.iconst (v := (-1)) (pc := 98) dX12_set_98 (by decide) ?_
                exact V.iret (pc := 99) dX12_set_99 rfl ⟨-1, by rw [SetS]; simp only [e1y, e2y]; rw [if_neg (show ¬ ((x.toInt ≠ z.toInt ∧ (0 ≤ dd.toInt ∧ dd.toInt ≤ 1000000)) ∧ (0 ≤ w.toInt ∧ w.toInt ≤ (kns (cor A)).length) ∧ (0 ≤ m1.toInt ∧ m1.toInt < y1.1) ∧ (0 ≤ m2.toInt ∧ m2.toInt < y2.1)) from fun q => qb q.2.2.2)]; trivial, rfl, rfl, rfl, rfl, hf, Frm.rf, hR⟩
          · have qw := bi_eq.mp h48
            refine V.iconst (v := (-1)) (pc := 51) dX12_set_51 (by decide) ?_
            exact V.iret (pc := 52) dX12_set_52 rfl ⟨-1, by rw [SetS]; simp only [e1y, e2y]; rw [if_neg (show ¬ ((x.toInt ≠ z.toInt ∧ (0 ≤ dd.toInt ∧ dd.toInt ≤ 1000000)) ∧ (0 ≤ w.toInt ∧ w.toInt ≤ (kns (cor A)).length) ∧ (0 ≤ m1.toInt ∧ m1.toInt < y1.1) ∧ (0 ≤ m2.toInt ∧ m2.toInt < y2.1)) from fun q => qw q.2.1)]; trivial, rfl, rfl, rfl, rfl, hf, Frm.rf, hR⟩
