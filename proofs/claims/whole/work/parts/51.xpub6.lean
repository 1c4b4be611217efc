theorem y_count {g : gG} {d : Nat} {T : mT} {n : Nat} {I : mI} {J : mJ} {F : mF} {x : Nat} {A : Ab} (v : Int32) (hX : XS T F x) (hA : AbOK A) (hR : RepX T I J F x A)  : Ct g mX11_count (d + 4) [.ref x, .int v] 0 0 T n I J F (QX x T n I J F (some (.int (iI (s_count A v.toInt).1))) (s_count A v.toInt).2) := by
  refine Ct.ofV (k := 0) (by decide) (Nat.le_of_ble_eq_true rfl) ?_
  show V g mX11_count (d + 4) _ 0 0 0 [some (.ref x), some (.int v)] [] T n I J F
  have hTo := hX.s.o
  refine V.iload_n (pc := 0) dX11_count_0 rfl ?_
  refine V.gen (fun y1 ey1 => ?_)
  by_cases c1_0 : y1 = 0
  · rw [c1_0] at ey1 ⊢
    refine V.tIn 64 (pc := 1) dX11_count_1 (by decide) (by decide) (off := 63) (by decide) (by decide) ?_
    refine V.aload_n (pc := 64) dX11_count_64 rfl ?_
    refine V.getR (pc := 65) dX11_count_65 fX11_10_10 rfl hX.o hX.f0 ?_
    refine V.getI (pc := 68) dX11_count_68 fX11_287_7 rfl (by assumption) ?_
    exact V.iret (pc := 71) dX11_count_71 rfl (QX.pure hX hR (by rw [cnt_v 0 (by rw [← ey1]; rfl), show (s_count A 0).1 = _ from rfl]; rw [hR.h2]; exact (iI_nat _).symm) rfl)
  by_cases c1_1 : y1 = 1
  · rw [c1_1] at ey1 ⊢
    refine V.tIn 72 (pc := 1) dX11_count_1 (by decide) (by decide) (off := 71) (by decide) (by decide) ?_
    refine V.aload_n (pc := 72) dX11_count_72 rfl ?_
    refine V.getR (pc := 73) dX11_count_73 fX11_10_10 rfl hX.o hX.f0 ?_
    refine V.getI (pc := 76) dX11_count_76 fX11_133_7 rfl (by assumption) ?_
    exact V.iret (pc := 79) dX11_count_79 rfl (QX.pure hX hR (by rw [cnt_v 1 (by rw [← ey1]; rfl), show (s_count A 1).1 = _ from rfl]; rw [hR.h4]; exact (iI_nat _).symm) rfl)
  by_cases c1_2 : y1 = 2
  · rw [c1_2] at ey1 ⊢
    refine V.tIn 80 (pc := 1) dX11_count_1 (by decide) (by decide) (off := 79) (by decide) (by decide) ?_
    refine V.aload_n (pc := 80) dX11_count_80 rfl ?_
    refine V.getR (pc := 81) dX11_count_81 fX11_10_10 rfl hX.o hX.f0 ?_
    refine V.getI (pc := 84) dX11_count_84 fX11_147_7 rfl (by assumption) ?_
    exact V.iret (pc := 87) dX11_count_87 rfl (QX.pure hX hR (by rw [cnt_v 2 (by rw [← ey1]; rfl), show (s_count A 2).1 = _ from rfl]; rw [hR.h7]; exact (iI_nat _).symm) rfl)
  by_cases c1_3 : y1 = 3
  · rw [c1_3] at ey1 ⊢
    refine V.tIn 88 (pc := 1) dX11_count_1 (by decide) (by decide) (off := 87) (by decide) (by decide) ?_
    refine V.aload_n (pc := 88) dX11_count_88 rfl ?_
    refine V.getR (pc := 89) dX11_count_89 fX11_10_10 rfl hX.o hX.f0 ?_
    refine V.getI (pc := 92) dX11_count_92 fX11_237_7 rfl (by assumption) ?_
    exact V.iret (pc := 95) dX11_count_95 rfl (QX.pure hX hR (by rw [cnt_v 3 (by rw [← ey1]; rfl), show (s_count A 3).1 = _ from rfl]; rw [hR.h12]; exact (iI_nat _).symm) rfl)
  by_cases c1_4 : y1 = 4
  · rw [c1_4] at ey1 ⊢
    refine V.tIn 96 (pc := 1) dX11_count_1 (by decide) (by decide) (off := 95) (by decide) (by decide) ?_
    refine V.aload_n (pc := 96) dX11_count_96 rfl ?_
    refine V.getR (pc := 97) dX11_count_97 fX11_10_10 rfl hX.o hX.f0 ?_
    refine V.getI (pc := 100) dX11_count_100 fX11_258_7 rfl (by assumption) ?_
    exact V.iret (pc := 103) dX11_count_103 rfl (QX.pure hX hR (by rw [cnt_v 4 (by rw [← ey1]; rfl), show (s_count A 4).1 = _ from rfl]; rw [hR.h14]; exact (iI_nat _).symm) rfl)
  by_cases c1_5 : y1 = 5
  · rw [c1_5] at ey1 ⊢
    refine V.tIn 104 (pc := 1) dX11_count_1 (by decide) (by decide) (off := 103) (by decide) (by decide) ?_
    refine V.aload_n (pc := 104) dX11_count_104 rfl ?_
    refine V.getI (pc := 105) dX11_count_105 fX11_24_10 rfl hX.o ?_
    exact V.iret (pc := 108) dX11_count_108 rfl (QX.pure hX hR (by rw [cnt_v 5 (by rw [← ey1]; rfl), show (s_count A 5).1 = _ from rfl]; rw [hR.1.1]; exact (iI_nat _).symm) rfl)
  by_cases c1_6 : y1 = 6
  · rw [c1_6] at ey1 ⊢
    refine V.tIn 109 (pc := 1) dX11_count_1 (by decide) (by decide) (off := 108) (by decide) (by decide) ?_
    refine V.aload_n (pc := 109) dX11_count_109 rfl ?_
    refine V.getR (pc := 110) dX11_count_110 fX11_34_10 rfl hX.o hX.f6 ?_
    refine V.iload_n (pc := 113) dX11_count_113 rfl ?_
    refine V.bipush (v := 6) (pc := 114) dX11_count_114 (by decide) ?_
    refine V.isub (pc := 116) dX11_count_116 ?_
    refine V.iald' (k := 0) (pc := 117) dX11_count_117 hX.t6 (by rw [← ey1]; rfl) (by omega) (by decide) ?_
    exact V.iret (pc := 118) dX11_count_118 rfl (QX.pure hX hR (by rw [cnt_v 6 (by rw [← ey1]; rfl), show (s_count A 6).1 = _ from rfl]; rw [hR.2.1.1]; exact (iI_nat _).symm) rfl)
  by_cases c1_7 : y1 = 7
  · rw [c1_7] at ey1 ⊢
    refine V.tIn 109 (pc := 1) dX11_count_1 (by decide) (by decide) (off := 108) (by decide) (by decide) ?_
    refine V.aload_n (pc := 109) dX11_count_109 rfl ?_
    refine V.getR (pc := 110) dX11_count_110 fX11_34_10 rfl hX.o hX.f6 ?_
    refine V.iload_n (pc := 113) dX11_count_113 rfl ?_
    refine V.bipush (v := 6) (pc := 114) dX11_count_114 (by decide) ?_
    refine V.isub (pc := 116) dX11_count_116 ?_
    refine V.iald' (k := 1) (pc := 117) dX11_count_117 hX.t6 (by rw [← ey1]; rfl) (by omega) (by decide) ?_
    exact V.iret (pc := 118) dX11_count_118 rfl (QX.pure hX hR (by rw [cnt_v 7 (by rw [← ey1]; rfl), show (s_count A 7).1 = _ from rfl]; rw [hR.2.1.2.1]; exact (iI_nat _).symm) rfl)
  by_cases c1_8 : y1 = 8
  · rw [c1_8] at ey1 ⊢
    refine V.tIn 109 (pc := 1) dX11_count_1 (by decide) (by decide) (off := 108) (by decide) (by decide) ?_
    refine V.aload_n (pc := 109) dX11_count_109 rfl ?_
    refine V.getR (pc := 110) dX11_count_110 fX11_34_10 rfl hX.o hX.f6 ?_
    refine V.iload_n (pc := 113) dX11_count_113 rfl ?_
    refine V.bipush (v := 6) (pc := 114) dX11_count_114 (by decide) ?_
    refine V.isub (pc := 116) dX11_count_116 ?_
    refine V.iald' (k := 2) (pc := 117) dX11_count_117 hX.t6 (by rw [← ey1]; rfl) (by omega) (by decide) ?_
    exact V.iret (pc := 118) dX11_count_118 rfl (QX.pure hX hR (by rw [cnt_v 8 (by rw [← ey1]; rfl), show (s_count A 8).1 = _ from rfl]; rw [hR.2.1.2.2.1]; exact (iI_nat _).symm) rfl)
  by_cases c1_9 : y1 = 9
  · rw [c1_9] at ey1 ⊢
    refine V.tIn 109 (pc := 1) dX11_count_1 (by decide) (by decide) (off := 108) (by decide) (by decide) ?_
    refine V.aload_n (pc := 109) dX11_count_109 rfl ?_
    refine V.getR (pc := 110) dX11_count_110 fX11_34_10 rfl hX.o hX.f6 ?_
    refine V.iload_n (pc := 113) dX11_count_113 rfl ?_
    refine V.bipush (v := 6) (pc := 114) dX11_count_114 (by decide) ?_
    refine V.isub (pc := 116) dX11_count_116 ?_
    refine V.iald' (k := 3) (pc := 117) dX11_count_117 hX.t6 (by rw [← ey1]; rfl) (by omega) (by decide) ?_
    exact V.iret (pc := 118) dX11_count_118 rfl (QX.pure hX hR (by rw [cnt_v 9 (by rw [← ey1]; rfl), show (s_count A 9).1 = _ from rfl]; rw [hR.2.1.2.2.2]; exact (iI_nat _).symm) rfl)
  by_cases c1_10 : y1 = 10
  · rw [c1_10] at ey1 ⊢
    refine V.tIn 119 (pc := 1) dX11_count_1 (by decide) (by decide) (off := 118) (by decide) (by decide) ?_
    refine V.aload_n (pc := 119) dX11_count_119 rfl ?_
    refine V.getR (pc := 120) dX11_count_120 fX11_10_10 rfl hX.o hX.f0 ?_
    refine V.getI (pc := 123) dX11_count_123 fX11_161_7 rfl (by assumption) ?_
    exact V.iret (pc := 126) dX11_count_126 rfl (QX.pure hX hR (by rw [cnt_v 10 (by rw [← ey1]; rfl), show (s_count A 10).1 = _ from rfl]; rw [hR.h8]; rfl) rfl)
  by_cases c1_11 : y1 = 11
  · rw [c1_11] at ey1 ⊢
    refine V.tIn 127 (pc := 1) dX11_count_1 (by decide) (by decide) (off := 126) (by decide) (by decide) ?_
    refine V.aload_n (pc := 127) dX11_count_127 rfl ?_
    refine V.getR (pc := 128) dX11_count_128 fX11_10_10 rfl hX.o hX.f0 ?_
    refine V.getI (pc := 131) dX11_count_131 fX11_140_7 rfl (by assumption) ?_
    exact V.iret (pc := 134) dX11_count_134 rfl (QX.pure hX hR (by rw [cnt_v 11 (by rw [← ey1]; rfl), show (s_count A 11).1 = _ from rfl]; rw [hR.h5]; exact (iI_nat _).symm) rfl)
  have q0 : ¬ y1.toInt = 0 := fun e => c1_0 ((eq32 _ _).mpr (e.trans (by decide)))
  have q1 : ¬ y1.toInt = 1 := fun e => c1_1 ((eq32 _ _).mpr (e.trans (by decide)))
  have q2 : ¬ y1.toInt = 2 := fun e => c1_2 ((eq32 _ _).mpr (e.trans (by decide)))
  have q3 : ¬ y1.toInt = 3 := fun e => c1_3 ((eq32 _ _).mpr (e.trans (by decide)))
  have q4 : ¬ y1.toInt = 4 := fun e => c1_4 ((eq32 _ _).mpr (e.trans (by decide)))
  have q5 : ¬ y1.toInt = 5 := fun e => c1_5 ((eq32 _ _).mpr (e.trans (by decide)))
  have q6 : ¬ y1.toInt = 6 := fun e => c1_6 ((eq32 _ _).mpr (e.trans (by decide)))
  have q7 : ¬ y1.toInt = 7 := fun e => c1_7 ((eq32 _ _).mpr (e.trans (by decide)))
  have q8 : ¬ y1.toInt = 8 := fun e => c1_8 ((eq32 _ _).mpr (e.trans (by decide)))
  have q9 : ¬ y1.toInt = 9 := fun e => c1_9 ((eq32 _ _).mpr (e.trans (by decide)))
  have q10 : ¬ y1.toInt = 10 := fun e => c1_10 ((eq32 _ _).mpr (e.trans (by decide)))
  have q11 : ¬ y1.toInt = 11 := fun e => c1_11 ((eq32 _ _).mpr (e.trans (by decide)))
  refine V.tOut 135 (pc := 1) dX11_count_1 (by skip; omega) (by decide) ?_
  refine V.iconst (v := (-1)) (pc := 135) dX11_count_135 (by decide) ?_
  exact V.iret (pc := 136) dX11_count_136 rfl (QX.pure hX hR (by rw [s_count]; simp only [← ey1]; rw [if_neg q0, if_neg q1, if_neg q2, if_neg q3, if_neg q4, if_neg q5, if_neg q6, if_neg q7, if_neg q8, if_neg q9, if_neg q10, if_neg q11]; rfl) rfl)
theorem x_begin {g : gG} {d : Nat} {T : mT} {n : Nat} {I : mI} {J : mJ} {F : mF} {a : Nat} (v : Int32) (hN : HN T F a) : Ct g mX1_begin (d + 1) [.ref a, .int v] 0 0 T n I J F (fun r' T' n' I' J' F' => r' = none ∧ T' = T ∧ n' = n ∧ I' = up2 (up2 (up2 (up2 I a 0 v) a 1 0) a 2 0) a 3 0 ∧ J' = up2 (up2 J a 5 1) a 6 1 ∧ F' = F) := by
  refine Ct.ofV (k := 0) (by decide) (Nat.le_of_ble_eq_true rfl) ?_
  show V g mX1_begin (d + 1) _ 0 0 0 [some (.ref a), some (.int v)] [] T n I J F
  refine V.aload_n (pc := 0) dX1_begin_0 rfl ?_
  refine V.iload_n (pc := 1) dX1_begin_1 rfl ?_
  refine V.putI (pc := 2) dX1_begin_2 fX1_9_1 (fun r h => by cases h; exact Or.inl rfl) rfl hN.o ?_
  refine V.aload_n (pc := 5) dX1_begin_5 rfl ?_
  refine V.iconst (v := 0) (pc := 6) dX1_begin_6 (by decide) ?_
  refine V.putI (pc := 7) dX1_begin_7 fX1_15_1 (fun r h => by cases h; exact Or.inl rfl) rfl hN.o ?_
  refine V.aload_n (pc := 10) dX1_begin_10 rfl ?_
  refine V.iconst (v := 0) (pc := 11) dX1_begin_11 (by decide) ?_
  refine V.putI (pc := 12) dX1_begin_12 fX1_18_1 (fun r h => by cases h; exact Or.inl rfl) rfl hN.o ?_
  refine V.aload_n (pc := 15) dX1_begin_15 rfl ?_
  refine V.invV0 (as := []) (pc := 16) dX1_begin_16 lX1_35 bX1_clearTrain nX1_clearTrain (ci := 1) rfl eX1_clearTrain hN.o (x_clear (d := d + 0) hN) (by omega) rfl (Nat.le_of_ble_eq_true rfl) ?_
  rintro _ _ _ _ _ _ ⟨rfl, rfl, rfl, rfl, rfl, rfl⟩
  exact V.vret (pc := 19) dX1_begin_19 rfl ⟨rfl, rfl, rfl, rfl, rfl, rfl⟩
theorem x_newHandN {g : gG} {d : Nat} {T : mT} {n : Nat} {I : mI} {J : mJ} {F : mF} {u : Nat} (v : Int32) (hS : SS T F u) (hq : I u 2 = nI 6) : Ct g mX8_newHand (d + 0) [.ref u, .int v] 0 0 T n I J F (pureQ T n I J F (some (.int (-1)))) := by
  refine Ct.ofV (k := 1) (by decide) (Nat.le_of_ble_eq_true rfl) ?_
  show V g mX8_newHand (d + 0) _ 0 0 0 [some (.ref u), some (.int v), none] [] T n I J F
  refine V.aload_n (pc := 0) dX8_newHand_0 rfl ?_
  refine V.getI (pc := 1) dX8_newHand_1 fX8_21_7 rfl hS.o ?_
  rw [hq]
  refine V.if_lt 31 (pc := 4) dX8_newHand_4 (by decide) (fun h4 => absurd h4 (by decide)) (fun h4 => ?_)
  refine V.aload_n (pc := 7) dX8_newHand_7 rfl ?_
  refine V.getI (pc := 8) dX8_newHand_8 fX8_21_7 rfl hS.o ?_
  refine V.aload_n (pc := 11) dX8_newHand_11 rfl ?_
  refine V.getR (pc := 12) dX8_newHand_12 fX8_17_7 rfl hS.o hS.f1 ?_
  refine V.alen (pc := 15) dX8_newHand_15 hS.t1 ty_H (by rfl) ?_
  rw [hq]
  refine V.icmp_ge 31 (pc := 16) dX8_newHand_16 (by decide) (fun h16 => ?_) (fun h16 => absurd (by decide) h16)
  refine V.anull (pc := 31) dX8_newHand_31 ?_
  refine V.nsn (pc := 32) dX8_newHand_32 (by decide) (st1_2 rfl) ?_
  refine V.nload_n (pc := 33) dX8_newHand_33 rfl ?_
  refine V.ifnonnullN (pc := 34) dX8_newHand_34 ?_
  refine V.iconst (v := (-1)) (pc := 37) dX8_newHand_37 (by decide) ?_
  exact V.iret (pc := 38) dX8_newHand_38 rfl ⟨rfl, rfl, rfl, rfl, rfl, rfl⟩
theorem x_newHandY {g : gG} {d : Nat} {T : mT} {n : Nat} {I : mI} {J : mJ} {F : mF} {u k : Nat} (v : Int32) (hS : SS T F u) (hq : I u 2 = nI k) (hk : k < 6) : Ct g mX8_newHand (d + 2) [.ref u, .int v] 0 0 T n I J F (fun r' T' n' I' J' F' => r' = some (.int (nI k)) ∧ T' = T ∧ n' = n ∧ I' = up2 (up2 (up2 (up2 (up2 I (u + 8 + 2 * k) 0 v) (u + 8 + 2 * k) 1 0) (u + 8 + 2 * k) 2 0) (u + 8 + 2 * k) 3 0) u 2 (nI (k + 1)) ∧ J' = up2 (up2 J (u + 8 + 2 * k) 5 1) (u + 8 + 2 * k) 6 1 ∧ F' = F) := by
  refine Ct.ofV (k := 1) (by decide) (Nat.le_of_ble_eq_true rfl) ?_
  show V g mX8_newHand (d + 2) _ 0 0 0 [some (.ref u), some (.int v), none] [] T n I J F
  have hN := hS.n hk
  have hTa := hN.o
  refine V.aload_n (pc := 0) dX8_newHand_0 rfl ?_
  refine V.getI (pc := 1) dX8_newHand_1 fX8_21_7 rfl hS.o ?_
  rw [hq]
  refine V.if_lt 31 (pc := 4) dX8_newHand_4 (by decide) (fun h4 => absurd h4 (nI_pos (by omega))) (fun h4 => ?_)
  refine V.aload_n (pc := 7) dX8_newHand_7 rfl ?_
  refine V.getI (pc := 8) dX8_newHand_8 fX8_21_7 rfl hS.o ?_
  refine V.aload_n (pc := 11) dX8_newHand_11 rfl ?_
  refine V.getR (pc := 12) dX8_newHand_12 fX8_17_7 rfl hS.o hS.f1 ?_
  refine V.alen (pc := 15) dX8_newHand_15 hS.t1 ty_H (by rfl) ?_
  rw [hq]
  refine V.icmp_ge 31 (pc := 16) dX8_newHand_16 (by decide) (fun h16 => absurd h16 (by rw [show (Int32.ofNat 6) = nI 6 from rfl]; exact nI_ge hk (by omega))) (fun h16 => ?_)
  refine V.aload_n (pc := 19) dX8_newHand_19 rfl ?_
  refine V.getR (pc := 20) dX8_newHand_20 fX8_17_7 rfl hS.o hS.f1 ?_
  refine V.aload_n (pc := 23) dX8_newHand_23 rfl ?_
  refine V.getI (pc := 24) dX8_newHand_24 fX8_21_7 rfl hS.o ?_
  refine V.aald' (k := k) (pc := 27) dX8_newHand_27 hS.t1 ty_H hq (by omega) (by decide) ?_
  rw [hS.h hk]
  refine V.goto 32 (pc := 28) dX8_newHand_28 (by decide) ?_
  refine V.asn (pc := 32) dX8_newHand_32 (by decide) (st1_2 rfl) ?_
  refine V.aload_n (pc := 33) dX8_newHand_33 rfl ?_
  refine V.ifnonnull 39 (pc := 34) dX8_newHand_34 (by decide) ?_
  refine V.aload_n (pc := 39) dX8_newHand_39 rfl ?_
  refine V.iload_n (pc := 40) dX8_newHand_40 rfl ?_
  refine V.invV0 (as := [_]) (pc := 41) dX8_newHand_41 lX8_76 bX1_begin nX1_begin (ci := 1) rfl eX1_begin (by assumption) (x_begin (d := d + 0) _ hN) (by omega) rfl (Nat.le_of_ble_eq_true rfl) ?_
  rintro _ _ _ _ _ _ ⟨rfl, rfl, rfl, rfl, rfl, rfl⟩
  refine V.aload_n (pc := 44) dX8_newHand_44 rfl ?_
  refine V.dup (pc := 45) dX8_newHand_45 rfl ?_
  refine V.getI (pc := 46) dX8_newHand_46 fX8_21_7 rfl hS.o ?_
  rw [up2_off (by omega), up2_off (by omega), up2_off (by omega), up2_off (by omega), hq]
  refine V.iconst (v := 1) (pc := 49) dX8_newHand_49 (by decide) ?_
  refine V.iadd (pc := 50) dX8_newHand_50 ?_
  rw [nI_1]
  refine V.putI (pc := 51) dX8_newHand_51 fX8_21_7 (fun r h => by cases h; exact Or.inl rfl) rfl hS.o ?_
  refine V.aload_n (pc := 54) dX8_newHand_54 rfl ?_
  refine V.getI (pc := 55) dX8_newHand_55 fX8_21_7 rfl hS.o ?_
  rw [up2_same]
  refine V.iconst (v := 1) (pc := 58) dX8_newHand_58 (by decide) ?_
  refine V.isub (pc := 59) dX8_newHand_59 ?_
  rw [nI_pred]
  exact V.iret (pc := 60) dX8_newHand_60 rfl ⟨rfl, rfl, rfl, rfl, rfl, rfl⟩
theorem y_hand {g : gG} {d : Nat} {T : mT} {n : Nat} {I : mI} {J : mJ} {F : mF} {x : Nat} {A : Ab} (v : Int32) (hX : XS T F x) (hA : AbOK A) (hR : RepX T I J F x A)  : Ct g mX11_hand (d + 4) [.ref x, .int v] 0 0 T n I J F (QX x T n I J F (some (.int (iI (s_hand A v.toInt).1))) (s_hand A v.toInt).2) := by
  refine Ct.ofV (k := 1) (by decide) (Nat.le_of_ble_eq_true rfl) ?_
  show V g mX11_hand (d + 4) _ 0 0 0 [some (.ref x), some (.int v), none] [] T n I J F
  have hTo := hX.s.o
  have h66 := hA.1.1
  have e400 : (400 : Int32).toInt = 400 := rfl
  refine V.iload_n (pc := 0) dX11_hand_0 rfl ?_
  refine V.iconst (v := 1) (pc := 1) dX11_hand_1 (by decide) ?_
  refine V.icmp_lt 12 (pc := 2) dX11_hand_2 (by decide) (fun h2 => ?_) (fun h2 => ?_)
  · have q : ¬ (1 ≤ v.toInt ∧ v.toInt ≤ 400) := by
      have e0 : (0 : Int32).toInt = 0 := rfl
      have e1 : (1 : Int32).toInt = 1 := rfl
      have em : (-1 : Int32).toInt = -1 := rfl
      have eM : (1000000 : Int32).toInt = 1000000 := rfl
      have e9 : (9 : Int32).toInt = 9 := rfl
      have e99 : (9999 : Int32).toInt = 9999 := rfl
      rw [lt32] at h2
      omega
    refine V.aload_n (pc := 12) dX11_hand_12 rfl ?_
    refine V.iconst (v := (-1)) (pc := 13) dX11_hand_13 (by decide) ?_
    refine V.invV0 (as := [_]) (pc := 14) dX11_hand_14 lX11_85 bX11_refuse nX11_refuse (ci := 10) rfl eX11_refuse hX.o (x_refuse1 (d := d + 3) hX) (by omega) rfl (Nat.le_of_ble_eq_true rfl) ?_
    rintro _ _ _ _ _ _ ⟨rfl, rfl, rfl, rfl, rfl, rfl⟩
    exact V.iret (pc := 17) dX11_hand_17 rfl (QX.no 0 (-1) (by decide) hX hA hR FrX.rf FrX.rf (by omega) (by rw [s_hand, if_neg q]; rfl))
  · refine V.iload_n (pc := 5) dX11_hand_5 rfl ?_
    refine V.sipush (v := 400) (pc := 6) dX11_hand_6 (by decide) ?_
    refine V.icmp_le 18 (pc := 9) dX11_hand_9 (by decide) (fun h9 => ?_) (fun h9 => ?_)
    · have q : 1 ≤ v.toInt ∧ v.toInt ≤ 400 := by
        have e0 : (0 : Int32).toInt = 0 := rfl
        have e1 : (1 : Int32).toInt = 1 := rfl
        have em : (-1 : Int32).toInt = -1 := rfl
        have eM : (1000000 : Int32).toInt = 1000000 := rfl
        have e9 : (9 : Int32).toInt = 9 := rfl
        have e99 : (9999 : Int32).toInt = 9999 := rfl
        rw [lt32] at h2
        rw [le32] at h9
        omega
      refine V.aload_n (pc := 18) dX11_hand_18 rfl ?_
      refine V.getR (pc := 19) dX11_hand_19 fX11_10_10 rfl hX.o hX.f0 ?_
      refine V.iload_n (pc := 22) dX11_hand_22 rfl ?_
      by_cases q6 : (hds (cor A)).length = 6
      · refine V.pV (as := [_]) (pc := 23) dX11_hand_23 lX11_89 bX8_newHand nX8_newHand (ci := 7) rfl eX8_newHand (by assumption) (x_newHandN (d := d + 3) _ hX.s (by rw [hR.h2, q6])) (by omega) rfl (Nat.le_of_ble_eq_true rfl) ?_
        refine V.isn (pc := 26) dX11_hand_26 (by decide) (st1_2 rfl) ?_
        refine V.iload_n (pc := 27) dX11_hand_27 rfl ?_
        refine V.iconst (v := (-1)) (pc := 28) dX11_hand_28 (by decide) ?_
        refine V.icmp_ne 41 (pc := 29) dX11_hand_29 (by decide) (fun h29 => absurd rfl h29) (fun h29 => ?_)
        refine V.aload_n (pc := 32) dX11_hand_32 rfl ?_
        refine V.bipush (v := (-5)) (pc := 33) dX11_hand_33 (by decide) ?_
        refine V.invV0 (as := [_]) (pc := 35) dX11_hand_35 lX11_85 bX11_refuse nX11_refuse (ci := 10) rfl eX11_refuse hX.o (x_refuse5 (d := d + 3) hX) (by omega) rfl (Nat.le_of_ble_eq_true rfl) ?_
        rintro _ _ _ _ _ _ ⟨rfl, rfl, rfl, rfl, rfl, rfl⟩
        refine V.goto 46 (pc := 38) dX11_hand_38 (by decide) ?_
        exact V.iret (pc := 46) dX11_hand_46 rfl (QX.no 2 (-5) (by decide) hX hA hR FrX.rf FrX.rf (by omega) (by rw [s_hand, if_pos q, if_pos q6]; rfl))
      · refine V.invV0 (as := [_]) (pc := 23) dX11_hand_23 lX11_89 bX8_newHand nX8_newHand (ci := 7) rfl eX8_newHand (by assumption) (x_newHandY (d := d + 1) (k := (hds (cor A)).length) _ hX.s hR.h2 (by omega)) (by omega) rfl (Nat.le_of_ble_eq_true rfl) ?_
        rintro _ _ _ _ _ _ ⟨rfl, rfl, rfl, rfl, rfl, rfl⟩
        refine V.isn (pc := 26) dX11_hand_26 (by decide) (st1_2 rfl) ?_
        refine V.iload_n (pc := 27) dX11_hand_27 rfl ?_
        refine V.iconst (v := (-1)) (pc := 28) dX11_hand_28 (by decide) ?_
        refine V.icmp_ne 41 (pc := 29) dX11_hand_29 (by decide) (fun h29 => ?_) (fun h29 => absurd (show nI (hds (cor A)).length = -1 from h29) (by rw [eq32, nI_toInt (by omega)]; show ¬ _ = (-1 : Int); omega))
        refine V.aload_n (pc := 41) dX11_hand_41 rfl ?_
        refine V.iload_n (pc := 42) dX11_hand_42 rfl ?_
        refine V.invV0 (as := [_]) (pc := 43) dX11_hand_43 lX11_92 bX11_accept nX11_accept (ci := 10) rfl eX11_accept hX.o (x_accept (d := d + 3) _ hX) (by omega) rfl (Nat.le_of_ble_eq_true rfl) ?_
        rintro _ _ _ _ _ _ ⟨rfl, rfl, rfl, rfl, rfl, rfl⟩
        exact V.iret (pc := 46) dX11_hand_46 rfl (QX.yes (c := hdsC (cor A) (hds (cor A) ++ [(v.toInt.toNat, 0, 0, [])])) hX hA (ok_cor hA (ok_handNew hA.1 (by omega) ⟨by show 1 ≤ v.toInt.toNat; omega, by show v.toInt.toNat ≤ 400; omega, by show 0 < v.toInt.toNat; omega, Nat.zero_le _, Nat.zero_le _, fun r hr => by simp at hr⟩)) (hR.core hA (fun b hb => by rw [up2_off (by omega), up2_off (by omega), up2_off (by omega), up2_off (by omega), up2_off (by omega)]) (StX.handNew (by omega) hA.1 hR.2.2.1 (by omega) (fun b h1 h2 => by rw [up2_off h1, up2_off h2, up2_off h2, up2_off h2, up2_off h2]) (fun b h1 => by rw [up2_off h1, up2_off h1]) (fun k hk => by rw [up2_ne (by omega), up2_off (by omega), up2_off (by omega), up2_off (by omega), up2_off (by omega)]) up2_same ⟨by rw [up2_off (by omega), up2_ne (by omega), up2_ne (by omega), up2_ne (by omega), up2_same]; exact nIx (by omega) rfl, by rw [up2_off (by omega), up2_ne (by omega), up2_ne (by omega), up2_same]; rfl, by rw [up2_off (by omega), up2_ne (by omega), up2_same]; rfl, by rw [up2_off (by omega), up2_same]; rfl, fun p qq hp => by have h0 : ([] : List (Nat × Nat))[p]? = some qq := hp; simp at h0, by rw [up2_ne (by omega), up2_same]; exact one_red, by rw [up2_same]; exact one_red⟩) (fun b hb => by rw [up2_off (by omega), up2_off (by omega)])) (((((FrX.rf.up (by omega)).up (by omega)).up (by omega)).up (by omega)).up (by omega)) ((FrX.rf.up (by omega)).up (by omega)) (by rw [s_hand, if_pos q, if_neg q6]; simp only [okYes]; rw [iI_nat]) (by rw [s_hand, if_pos q, if_neg q6]; rfl))
    · have q : ¬ (1 ≤ v.toInt ∧ v.toInt ≤ 400) := by
        have e0 : (0 : Int32).toInt = 0 := rfl
        have e1 : (1 : Int32).toInt = 1 := rfl
        have em : (-1 : Int32).toInt = -1 := rfl
        have eM : (1000000 : Int32).toInt = 1000000 := rfl
        have e9 : (9 : Int32).toInt = 9 := rfl
        have e99 : (9999 : Int32).toInt = 9999 := rfl
        rw [le32] at h9
        omega
      refine V.aload_n (pc := 12) dX11_hand_12 rfl ?_
      refine V.iconst (v := (-1)) (pc := 13) dX11_hand_13 (by decide) ?_
      refine V.invV0 (as := [_]) (pc := 14) dX11_hand_14 lX11_85 bX11_refuse nX11_refuse (ci := 10) rfl eX11_refuse hX.o (x_refuse1 (d := d + 3) hX) (by omega) rfl (Nat.le_of_ble_eq_true rfl) ?_
      rintro _ _ _ _ _ _ ⟨rfl, rfl, rfl, rfl, rfl, rfl⟩
      exact V.iret (pc := 17) dX11_hand_17 rfl (QX.no 0 (-1) (by decide) hX hA hR FrX.rf FrX.rf (by omega) (by rw [s_hand, if_neg q]; rfl))
theorem xl_lose {g : gG} {d : Nat} {T : mT} {n : Nat} {I : mI} {J : mJ} {F : mF} {Q : mQ} {u w k : Nat} {v : Int32} (hS : SS T F u) (h4 : I u 4 = nI k) (hk : 0 < k ∧ k ≤ 12) (kk : ∀ I' : mI, (∀ b, b ≠ u + 2 → I' b = I b) → (∀ i, w ≤ i → i + 1 < k → I' (u + 2) i = I (u + 2) (i + 1)) → (∀ i, i < w → I' (u + 2) i = I (u + 2) i) → V g mX8_loseWheel (d + 0) Q 0 0 57 [some (.ref u), some (.int v), some (.int (nI (k - 1)))] [] T n I' J F) : ∀ (t j : Nat) (I' : mI), j + t = k - 1 → (w ≤ j ∧ (∀ b, b ≠ u + 2 → I' b = I b) ∧ (∀ i, w ≤ i → i < j → I' (u + 2) i = I (u + 2) (i + 1)) ∧ ∀ i, (i < w ∨ j ≤ i) → I' (u + 2) i = I (u + 2) i) → V g mX8_loseWheel (d + 0) Q 0 0 16 [some (.ref u), some (.int v), some (.int (nI j))] [] T n I' J F := by
  intro t
  induction t with
  | zero =>
    intro j I' hj hi
    obtain rfl : j = k - 1 := by omega
    refine V.iload_n (pc := 16) dX8_loseWheel_16 rfl ?_
    refine V.iconst (v := 1) (pc := 17) dX8_loseWheel_17 (by decide) ?_
    refine V.iadd (pc := 18) dX8_loseWheel_18 ?_
    refine V.aload_n (pc := 19) dX8_loseWheel_19 rfl ?_
    refine V.getI (pc := 20) dX8_loseWheel_20 fX8_29_7 rfl hS.o ?_
    rw [hi.2.1 u (by omega), h4, nI_1]
    refine V.icmp_ge 57 (pc := 23) dX8_loseWheel_23 (by decide) (fun h23 => ?_) (fun h23 => absurd (nI_le (by omega) (by omega)) h23)
    exact kk I' hi.2.1 (fun i h1 h2 => hi.2.2.1 i h1 (by omega)) (fun i h1 => hi.2.2.2 i (by omega))
  | succ t ih =>
    intro j I' hj hi
    refine V.iload_n (pc := 16) dX8_loseWheel_16 rfl ?_
    refine V.iconst (v := 1) (pc := 17) dX8_loseWheel_17 (by decide) ?_
    refine V.iadd (pc := 18) dX8_loseWheel_18 ?_
    refine V.aload_n (pc := 19) dX8_loseWheel_19 rfl ?_
    refine V.getI (pc := 20) dX8_loseWheel_20 fX8_29_7 rfl hS.o ?_
    rw [hi.2.1 u (by omega), h4, nI_1]
    refine V.icmp_ge 57 (pc := 23) dX8_loseWheel_23 (by decide) (fun h23 => absurd h23 (nI_ge (by omega) (by omega))) (fun h23 => ?_)
    refine V.iload_n (pc := 26) dX8_loseWheel_26 rfl ?_
    refine V.iconst (v := 1) (pc := 27) dX8_loseWheel_27 (by decide) ?_
    refine V.iadd (pc := 28) dX8_loseWheel_28 ?_
    refine V.aload_n (pc := 29) dX8_loseWheel_29 rfl ?_
    refine V.getR (pc := 30) dX8_loseWheel_30 fX8_25_7 rfl hS.o hS.f3 ?_
    refine V.alen (pc := 33) dX8_loseWheel_33 hS.t3 ty_i (by rfl) ?_
    rw [nI_1]
    refine V.icmp_ge 57 (pc := 34) dX8_loseWheel_34 (by decide) (fun h34 => absurd h34 (by rw [show (Int32.ofNat 12) = nI 12 from rfl]; exact nI_ge (by omega) (by omega))) (fun h34 => ?_)
    refine V.aload_n (pc := 37) dX8_loseWheel_37 rfl ?_
    refine V.getR (pc := 38) dX8_loseWheel_38 fX8_25_7 rfl hS.o hS.f3 ?_
    refine V.iload_n (pc := 41) dX8_loseWheel_41 rfl ?_
    refine V.aload_n (pc := 42) dX8_loseWheel_42 rfl ?_
    refine V.getR (pc := 43) dX8_loseWheel_43 fX8_25_7 rfl hS.o hS.f3 ?_
    refine V.iload_n (pc := 46) dX8_loseWheel_46 rfl ?_
    refine V.iconst (v := 1) (pc := 47) dX8_loseWheel_47 (by decide) ?_
    refine V.iadd (pc := 48) dX8_loseWheel_48 ?_
    rw [nI_1]
    refine V.iald' (k := j + 1) (pc := 49) dX8_loseWheel_49 hS.t3 rfl (by omega) (by decide) ?_
    refine V.iast' (k := j) (pc := 50) dX8_loseWheel_50 hS.t3 rfl (by omega) (by decide) ?_
    refine V.iinc1 (pc := 51) dX8_loseWheel_51 (by decide) rfl (st1_2 rfl) ?_
    refine V.goto 16 (pc := 54) dX8_loseWheel_54 (by decide) ?_
    rw [nI_1]
    refine ih (j + 1) _ (by omega) ⟨by omega, fun b hb => by rw [up2_off hb]; exact hi.2.1 b hb, fun i h1 h2 => ?_, fun i h1 => by rw [up2_ne (by omega)]; exact hi.2.2.2 i (by omega)⟩
    by_cases q : i = j
    · subst q; rw [up2_same]; exact hi.2.2.2 _ (by omega)
    · rw [up2_ne (by omega)]; exact hi.2.2.1 i h1 (by omega)
theorem x_loseN {g : gG} {d : Nat} {T : mT} {n : Nat} {I : mI} {J : mJ} {F : mF} {u k : Nat} (v : Int32) (hS : SS T F u) (h4 : I u 4 = nI k) (hk : k ≤ 12) (q : ¬ (0 ≤ v.toInt ∧ v.toInt < k)) : Ct g mX8_loseWheel (d + 0) [.ref u, .int v] 0 0 T n I J F (pureQ T n I J F (some (.int 0))) := by
  refine Ct.ofV (k := 1) (by decide) (Nat.le_of_ble_eq_true rfl) ?_
  show V g mX8_loseWheel (d + 0) _ 0 0 0 [some (.ref u), some (.int v), none] [] T n I J F
  refine V.iload_n (pc := 0) dX8_loseWheel_0 rfl ?_
  refine V.if_lt 12 (pc := 1) dX8_loseWheel_1 (by decide) (fun h1 => ?_) (fun h1 => ?_)
  · refine V.iconst (v := 0) (pc := 12) dX8_loseWheel_12 (by decide) ?_
    exact V.zret (pc := 13) dX8_loseWheel_13 rfl (by first | exact Or.inl rfl | exact Or.inr rfl | exact bi_or | assumption) ⟨rfl, rfl, rfl, rfl, rfl, rfl⟩
  · have q0 : 0 ≤ v.toInt := by
      rw [lt32] at h1
      have e0 : (0 : Int32).toInt = 0 := rfl
      omega
    refine V.iload_n (pc := 4) dX8_loseWheel_4 rfl ?_
    refine V.aload_n (pc := 5) dX8_loseWheel_5 rfl ?_
    refine V.getI (pc := 6) dX8_loseWheel_6 fX8_29_7 rfl hS.o ?_
    rw [h4]
    refine V.icmp_lt 14 (pc := 9) dX8_loseWheel_9 (by decide) (fun h9 => absurd h9 (by rw [lt32, nI_toInt (by omega)]; omega)) (fun h9 => ?_)
    refine V.iconst (v := 0) (pc := 12) dX8_loseWheel_12 (by decide) ?_
    exact V.zret (pc := 13) dX8_loseWheel_13 rfl (by first | exact Or.inl rfl | exact Or.inr rfl | exact bi_or | assumption) ⟨rfl, rfl, rfl, rfl, rfl, rfl⟩
theorem x_loseY {g : gG} {d : Nat} {T : mT} {n : Nat} {I : mI} {J : mJ} {F : mF} {u k : Nat} (v : Int32) (hS : SS T F u) (h4 : I u 4 = nI k) (hk : k ≤ 12) (q : 0 ≤ v.toInt ∧ v.toInt < k) : Ct g mX8_loseWheel (d + 0) [.ref u, .int v] 0 0 T n I J F (fun r' T' n' I' J' F' => r' = some (.int 1) ∧ T' = T ∧ n' = n ∧ J' = J ∧ F' = F ∧ (∀ b, b ≠ u → b ≠ u + 2 → I' b = I b) ∧ (∀ j, j ≠ 4 → I' u j = I u j) ∧ I' u 4 = nI (k - 1) ∧ (∀ i, v.toInt.toNat ≤ i → i + 1 < k → I' (u + 2) i = I (u + 2) (i + 1)) ∧ (∀ i, i < v.toInt.toNat → I' (u + 2) i = I (u + 2) i)) := by
  refine Ct.ofV (k := 1) (by decide) (Nat.le_of_ble_eq_true rfl) ?_
  show V g mX8_loseWheel (d + 0) _ 0 0 0 [some (.ref u), some (.int v), none] [] T n I J F
  refine V.iload_n (pc := 0) dX8_loseWheel_0 rfl ?_
  refine V.if_lt 12 (pc := 1) dX8_loseWheel_1 (by decide) (fun h1 => absurd h1 (by rw [lt32]; show ¬ _ < (0 : Int); omega)) (fun h1 => ?_)
  refine V.iload_n (pc := 4) dX8_loseWheel_4 rfl ?_
  refine V.aload_n (pc := 5) dX8_loseWheel_5 rfl ?_
  refine V.getI (pc := 6) dX8_loseWheel_6 fX8_29_7 rfl hS.o ?_
  rw [h4]
  refine V.icmp_lt 14 (pc := 9) dX8_loseWheel_9 (by decide) (fun h9 => ?_) (fun h9 => absurd (by rw [lt32, nI_toInt (by omega)]; omega) h9)
  refine V.iload_n (pc := 14) dX8_loseWheel_14 rfl ?_
  refine V.isn (pc := 15) dX8_loseWheel_15 (by decide) (st1_2 rfl) ?_
  have ex : v = nI v.toInt.toNat := nIx q.1 rfl
  conv => arg 8; rw [ex]
  refine xl_lose (k := k) (w := v.toInt.toNat) hS h4 (by omega) (fun I2 g1 g2 g3 => ?_) (k - 1 - v.toInt.toNat) v.toInt.toNat _ (by omega) ⟨Nat.le_refl _, fun _ _ => rfl, fun i h h2 => absurd h (by omega), fun _ _ => rfl⟩
  refine V.aload_n (pc := 57) dX8_loseWheel_57 rfl ?_
  refine V.dup (pc := 58) dX8_loseWheel_58 rfl ?_
  refine V.getI (pc := 59) dX8_loseWheel_59 fX8_29_7 rfl hS.o ?_
  rw [g1 u (by omega), h4]
  refine V.iconst (v := 1) (pc := 62) dX8_loseWheel_62 (by decide) ?_
  refine V.isub (pc := 63) dX8_loseWheel_63 ?_
  rw [L1, pk_sub (by omega)]
  refine V.putI (pc := 64) dX8_loseWheel_64 fX8_29_7 (fun r h => by cases h; exact Or.inl rfl) rfl hS.o ?_
  refine V.iconst (v := 1) (pc := 67) dX8_loseWheel_67 (by decide) ?_
  exact V.zret (pc := 68) dX8_loseWheel_68 rfl (by first | exact Or.inl rfl | exact Or.inr rfl | exact bi_or | assumption) ⟨rfl, rfl, rfl, rfl, rfl, fun b h1 h2 => by rw [up2_off h1]; exact g1 b h2, fun j hj => by rw [up2_ne (by omega), g1 u (by omega)], up2_same, fun i h1 h2 => by rw [up2_off (by omega)]; exact g2 i h1 h2, fun i h1 => by rw [up2_off (by omega)]; exact g3 i h1⟩
theorem y_drop {g : gG} {d : Nat} {T : mT} {n : Nat} {I : mI} {J : mJ} {F : mF} {x : Nat} {A : Ab} (v : Int32) (hX : XS T F x) (hA : AbOK A) (hR : RepX T I J F x A)  : Ct g mX11_drop (d + 4) [.ref x, .int v] 0 0 T n I J F (QX x T n I J F (some (.int (iI (s_drop A v.toInt).1))) (s_drop A v.toInt).2) := by
  refine Ct.ofV (k := 0) (by decide) (Nat.le_of_ble_eq_true rfl) ?_
  show V g mX11_drop (d + 4) _ 0 0 0 [some (.ref x), some (.int v)] [] T n I J F
  have hTo := hX.s.o
  have h12 := hA.1.2.2.1
  refine V.aload_n (pc := 0) dX11_drop_0 rfl ?_
  refine V.getR (pc := 1) dX11_drop_1 fX11_10_10 rfl hX.o hX.f0 ?_
  refine V.iload_n (pc := 4) dX11_drop_4 rfl ?_
  by_cases q : 0 ≤ v.toInt ∧ v.toInt < (stk (cor A)).length
  · refine V.invV0 (as := [_]) (pc := 5) dX11_drop_5 lX11_130 bX8_loseWheel nX8_loseWheel (ci := 7) rfl eX8_loseWheel (by assumption) (x_loseY (d := d + 3) (k := (stk (cor A)).length) _ hX.s hR.h4 h12 q) (by omega) rfl (Nat.le_of_ble_eq_true rfl) ?_
    rintro _ _ _ I2 _ _ ⟨rfl, rfl, rfl, rfl, rfl, g1, g2, g3, g4, g5⟩
    refine V.if_eq 25 (pc := 8) dX11_drop_8 (by decide) (fun h8 => absurd h8 (by decide)) (fun h8 => ?_)
    refine V.aload_n (pc := 11) dX11_drop_11 rfl ?_
    refine V.aload_n (pc := 12) dX11_drop_12 rfl ?_
    refine V.getR (pc := 13) dX11_drop_13 fX11_10_10 rfl hX.o hX.f0 ?_
    refine V.getI (pc := 16) dX11_drop_16 fX11_133_7 rfl (by assumption) ?_
    rw [g3]
    refine V.invV0 (as := [_]) (pc := 19) dX11_drop_19 lX11_92 bX11_accept nX11_accept (ci := 10) rfl eX11_accept hX.o (x_accept (d := d + 3) _ hX) (by omega) rfl (Nat.le_of_ble_eq_true rfl) ?_
    rintro _ _ _ _ _ _ ⟨rfl, rfl, rfl, rfl, rfl, rfl⟩
    refine V.goto 31 (pc := 22) dX11_drop_22 (by decide) ?_
    exact V.iret (pc := 31) dX11_drop_31 rfl (QX.yes (c := stkC (cor A) ((stk (cor A)).eraseIdx v.toInt.toNat)) hX hA (ok_cor hA (ok_drop hA.1)) (hR.core hA (fun b hb => g1 b (by omega) (by omega)) (StX.drop (by omega) hA.1 hR.2.2.1 (by omega) (fun b h1 h2 => g1 b h1 h2) g2 g3 g5 g4) (fun _ _ => rfl)) (fun b h1 h2 => g1 b (by omega) (by omega)) FrX.rf (by rw [s_drop, if_pos q]; simp only [okYes]; rw [iI_nat]) (by rw [s_drop, if_pos q]; rfl))
  · refine V.pV (as := [_]) (pc := 5) dX11_drop_5 lX11_130 bX8_loseWheel nX8_loseWheel (ci := 7) rfl eX8_loseWheel (by assumption) (x_loseN (d := d + 3) (k := (stk (cor A)).length) _ hX.s hR.h4 h12 q) (by omega) rfl (Nat.le_of_ble_eq_true rfl) ?_
    refine V.if_eq 25 (pc := 8) dX11_drop_8 (by decide) (fun h8 => ?_) (fun h8 => absurd rfl h8)
    refine V.aload_n (pc := 25) dX11_drop_25 rfl ?_
    refine V.bipush (v := (-2)) (pc := 26) dX11_drop_26 (by decide) ?_
    refine V.invV0 (as := [_]) (pc := 28) dX11_drop_28 lX11_85 bX11_refuse nX11_refuse (ci := 10) rfl eX11_refuse hX.o (x_refuse2 (d := d + 3) hX) (by omega) rfl (Nat.le_of_ble_eq_true rfl) ?_
    rintro _ _ _ _ _ _ ⟨rfl, rfl, rfl, rfl, rfl, rfl⟩
    exact V.iret (pc := 31) dX11_drop_31 rfl (QX.no 1 (-2) (by decide) hX hA hR FrX.rf FrX.rf (by omega) (by rw [s_drop, if_neg q]; rfl))
