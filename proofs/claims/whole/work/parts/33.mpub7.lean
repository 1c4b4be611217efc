theorem cnt_v {A : Ab} {x : Int32} (k : Int) (hx : x.toInt = k) : (s_count A x.toInt).1 = (s_count A k).1 := by rw [hx]
theorem p_count {g : gG} {d : Nat} {T : mT} {n : Nat} {I : mI} {J : mJ} {F : mF} {m : Nat} {A : Ab} (x : Int32) (hM : MS T F m) (hA : AbOK A) (hR : RepM I J m A)  : Ct g mX12_count (d + 3) [.ref m, .int x] 0 0 T n I J F (QM m T n I J F (some (.int (iI (s_count A x.toInt).1))) (s_count A x.toInt).2) := by
  refine Ct.ofV (k := 0) (by decide) (Nat.le_of_ble_eq_true rfl) ?_
  show V g mX12_count (d + 3) _ 0 0 0 [some (.ref m), some (.int x)] [] T n I J F
  refine V.aload_n (pc := 0) dX12_count_0 rfl ?_
  refine V.iconst (v := 0) (pc := 1) dX12_count_1 (by decide) ?_
  refine V.putI (pc := 2) dX12_count_2 fX12_88_11 (fun r h => by cases h; exact Or.inl rfl) rfl hM.o ?_
  refine V.thr hR (fun I1 hR1 hf => ?_)
  clear hR
  have hR := hR1
  clear hR1
  refine V.iload_n (pc := 5) dX12_count_5 rfl ?_
  refine V.gen (fun y6 ey6 => ?_)
  by_cases c6_0 : y6 = 0
  · rw [c6_0] at ey6 ⊢
    refine V.tIn 68 (pc := 6) dX12_count_6 (by decide) (by decide) (off := 62) (by decide) (by decide) ?_
    refine V.aload_n (pc := 68) dX12_count_68 rfl ?_
    refine V.getR (pc := 69) dX12_count_69 fX12_13_11 rfl hM.o hM.f3 ?_
    refine V.iconst (v := 0) (pc := 72) dX12_count_72 (by decide) ?_
    refine V.iald' (k := 0) (pc := 73) dX12_count_73 hM.t3 rfl (by decide) (by decide) ?_
    exact V.iret (pc := 74) dX12_count_74 rfl ⟨by rw [cnt_v 0 (by rw [← ey6]; rfl), show (s_count A 0).1 = _ from rfl]; rw [hR.h0]; exact congrArg (fun z => some (Value.int z)) (iI_nat _).symm, rfl, rfl, rfl, hf, Frm.rf, hR⟩
  by_cases c6_1 : y6 = 1
  · rw [c6_1] at ey6 ⊢
    refine V.tIn 75 (pc := 6) dX12_count_6 (by decide) (by decide) (off := 69) (by decide) (by decide) ?_
    refine V.aload_n (pc := 75) dX12_count_75 rfl ?_
    refine V.getR (pc := 76) dX12_count_76 fX12_13_11 rfl hM.o hM.f3 ?_
    refine V.iconst (v := 1) (pc := 79) dX12_count_79 (by decide) ?_
    refine V.iald' (k := 1) (pc := 80) dX12_count_80 hM.t3 rfl (by decide) (by decide) ?_
    exact V.iret (pc := 81) dX12_count_81 rfl ⟨by rw [cnt_v 1 (by rw [← ey6]; rfl), show (s_count A 1).1 = _ from rfl]; rw [hR.h1]; exact congrArg (fun z => some (Value.int z)) (iI_nat _).symm, rfl, rfl, rfl, hf, Frm.rf, hR⟩
  by_cases c6_2 : y6 = 2
  · rw [c6_2] at ey6 ⊢
    refine V.tIn 82 (pc := 6) dX12_count_6 (by decide) (by decide) (off := 76) (by decide) (by decide) ?_
    refine V.aload_n (pc := 82) dX12_count_82 rfl ?_
    refine V.getR (pc := 83) dX12_count_83 fX12_13_11 rfl hM.o hM.f3 ?_
    refine V.iconst (v := 2) (pc := 86) dX12_count_86 (by decide) ?_
    refine V.iald' (k := 2) (pc := 87) dX12_count_87 hM.t3 rfl (by decide) (by decide) ?_
    exact V.iret (pc := 88) dX12_count_88 rfl ⟨by rw [cnt_v 2 (by rw [← ey6]; rfl), show (s_count A 2).1 = _ from rfl]; rw [hR.h2]; exact congrArg (fun z => some (Value.int z)) (iI_nat _).symm, rfl, rfl, rfl, hf, Frm.rf, hR⟩
  by_cases c6_3 : y6 = 3
  · rw [c6_3] at ey6 ⊢
    refine V.tIn 89 (pc := 6) dX12_count_6 (by decide) (by decide) (off := 83) (by decide) (by decide) ?_
    refine V.aload_n (pc := 89) dX12_count_89 rfl ?_
    refine V.getR (pc := 90) dX12_count_90 fX12_13_11 rfl hM.o hM.f3 ?_
    refine V.iconst (v := 4) (pc := 93) dX12_count_93 (by decide) ?_
    refine V.iald' (k := 4) (pc := 94) dX12_count_94 hM.t3 rfl (by decide) (by decide) ?_
    exact V.iret (pc := 95) dX12_count_95 rfl ⟨by rw [cnt_v 3 (by rw [← ey6]; rfl), show (s_count A 3).1 = _ from rfl]; rw [hR.h4]; exact congrArg (fun z => some (Value.int z)) (iI_nat _).symm, rfl, rfl, rfl, hf, Frm.rf, hR⟩
  by_cases c6_4 : y6 = 4
  · rw [c6_4] at ey6 ⊢
    refine V.tIn 96 (pc := 6) dX12_count_6 (by decide) (by decide) (off := 90) (by decide) (by decide) ?_
    refine V.aload_n (pc := 96) dX12_count_96 rfl ?_
    refine V.getR (pc := 97) dX12_count_97 fX12_13_11 rfl hM.o hM.f3 ?_
    refine V.iconst (v := 5) (pc := 100) dX12_count_100 (by decide) ?_
    refine V.iald' (k := 5) (pc := 101) dX12_count_101 hM.t3 rfl (by decide) (by decide) ?_
    exact V.iret (pc := 102) dX12_count_102 rfl ⟨by rw [cnt_v 4 (by rw [← ey6]; rfl), show (s_count A 4).1 = _ from rfl]; rw [hR.h5]; exact congrArg (fun z => some (Value.int z)) (iI_nat _).symm, rfl, rfl, rfl, hf, Frm.rf, hR⟩
  by_cases c6_5 : y6 = 5
  · rw [c6_5] at ey6 ⊢
    refine V.tIn 103 (pc := 6) dX12_count_6 (by decide) (by decide) (off := 97) (by decide) (by decide) ?_
    refine V.aload_n (pc := 103) dX12_count_103 rfl ?_
    refine V.getI (pc := 104) dX12_count_104 fX12_138_11 rfl hM.o ?_
    exact V.iret (pc := 107) dX12_count_107 rfl ⟨by rw [cnt_v 5 (by rw [← ey6]; rfl), show (s_count A 5).1 = _ from rfl]; rw [hR.1.2.2.1]; exact congrArg (fun z => some (Value.int z)) (iI_nat _).symm, rfl, rfl, rfl, hf, Frm.rf, hR⟩
  by_cases c6_6 : y6 = 6
  · rw [c6_6] at ey6 ⊢
    refine V.tIn 108 (pc := 6) dX12_count_6 (by decide) (by decide) (off := 102) (by decide) (by decide) ?_
    refine V.aload_n (pc := 108) dX12_count_108 rfl ?_
    refine V.getR (pc := 109) dX12_count_109 fX12_7_11 rfl hM.o hM.f2 ?_
    refine V.iconst (v := 1) (pc := 112) dX12_count_112 (by decide) ?_
    refine V.iald' (k := 1) (pc := 113) dX12_count_113 hM.t2 rfl (by decide) (by decide) ?_
    exact V.iret (pc := 114) dX12_count_114 rfl ⟨by rw [cnt_v 6 (by rw [← ey6]; rfl), show (s_count A 6).1 = _ from rfl]; rw [hR.2.1.1]; exact congrArg (fun z => some (Value.int z)) (iI_nat _).symm, rfl, rfl, rfl, hf, Frm.rf, hR⟩
  by_cases c6_7 : y6 = 7
  · rw [c6_7] at ey6 ⊢
    refine V.tIn 115 (pc := 6) dX12_count_6 (by decide) (by decide) (off := 109) (by decide) (by decide) ?_
    refine V.aload_n (pc := 115) dX12_count_115 rfl ?_
    refine V.getR (pc := 116) dX12_count_116 fX12_7_11 rfl hM.o hM.f2 ?_
    refine V.iconst (v := 2) (pc := 119) dX12_count_119 (by decide) ?_
    refine V.iald' (k := 2) (pc := 120) dX12_count_120 hM.t2 rfl (by decide) (by decide) ?_
    exact V.iret (pc := 121) dX12_count_121 rfl ⟨by rw [cnt_v 7 (by rw [← ey6]; rfl), show (s_count A 7).1 = _ from rfl]; rw [hR.2.1.2.1]; exact congrArg (fun z => some (Value.int z)) (iI_nat _).symm, rfl, rfl, rfl, hf, Frm.rf, hR⟩
  by_cases c6_8 : y6 = 8
  · rw [c6_8] at ey6 ⊢
    refine V.tIn 122 (pc := 6) dX12_count_6 (by decide) (by decide) (off := 116) (by decide) (by decide) ?_
    refine V.aload_n (pc := 122) dX12_count_122 rfl ?_
    refine V.getR (pc := 123) dX12_count_123 fX12_7_11 rfl hM.o hM.f2 ?_
    refine V.iconst (v := 5) (pc := 126) dX12_count_126 (by decide) ?_
    refine V.iald' (k := 5) (pc := 127) dX12_count_127 hM.t2 rfl (by decide) (by decide) ?_
    exact V.iret (pc := 128) dX12_count_128 rfl ⟨by rw [cnt_v 8 (by rw [← ey6]; rfl), show (s_count A 8).1 = _ from rfl]; rw [hR.2.1.2.2.1]; exact congrArg (fun z => some (Value.int z)) (iI_nat _).symm, rfl, rfl, rfl, hf, Frm.rf, hR⟩
  by_cases c6_9 : y6 = 9
  · rw [c6_9] at ey6 ⊢
    refine V.tIn 129 (pc := 6) dX12_count_6 (by decide) (by decide) (off := 123) (by decide) (by decide) ?_
    refine V.aload_n (pc := 129) dX12_count_129 rfl ?_
    refine V.getR (pc := 130) dX12_count_130 fX12_7_11 rfl hM.o hM.f2 ?_
    refine V.bipush (v := 6) (pc := 133) dX12_count_133 (by decide) ?_
    refine V.iald' (k := 6) (pc := 135) dX12_count_135 hM.t2 rfl (by decide) (by decide) ?_
    exact V.iret (pc := 136) dX12_count_136 rfl ⟨by rw [cnt_v 9 (by rw [← ey6]; rfl), show (s_count A 9).1 = _ from rfl]; rw [hR.2.1.2.2.2]; exact congrArg (fun z => some (Value.int z)) (iI_nat _).symm, rfl, rfl, rfl, hf, Frm.rf, hR⟩
  by_cases c6_10 : y6 = 10
  · rw [c6_10] at ey6 ⊢
    refine V.tIn 137 (pc := 6) dX12_count_6 (by decide) (by decide) (off := 131) (by decide) (by decide) ?_
    refine V.aload_n (pc := 137) dX12_count_137 rfl ?_
    refine V.getR (pc := 138) dX12_count_138 fX12_13_11 rfl hM.o hM.f3 ?_
    refine V.iconst (v := 3) (pc := 141) dX12_count_141 (by decide) ?_
    refine V.iald' (k := 3) (pc := 142) dX12_count_142 hM.t3 rfl (by decide) (by decide) ?_
    exact V.iret (pc := 143) dX12_count_143 rfl ⟨by rw [cnt_v 10 (by rw [← ey6]; rfl), show (s_count A 10).1 = _ from rfl]; rw [hR.h3]; rfl, rfl, rfl, rfl, hf, Frm.rf, hR⟩
  by_cases c6_11 : y6 = 11
  · rw [c6_11] at ey6 ⊢
    refine V.tIn 144 (pc := 6) dX12_count_6 (by decide) (by decide) (off := 138) (by decide) (by decide) ?_
    refine V.aload_n (pc := 144) dX12_count_144 rfl ?_
    refine V.getR (pc := 145) dX12_count_145 fX12_13_11 rfl hM.o hM.f3 ?_
    refine V.bipush (v := 6) (pc := 148) dX12_count_148 (by decide) ?_
    refine V.iald' (k := 6) (pc := 150) dX12_count_150 hM.t3 rfl (by decide) (by decide) ?_
    exact V.iret (pc := 151) dX12_count_151 rfl ⟨by rw [cnt_v 11 (by rw [← ey6]; rfl), show (s_count A 11).1 = _ from rfl]; rw [hR.h6]; exact congrArg (fun z => some (Value.int z)) (iI_nat _).symm, rfl, rfl, rfl, hf, Frm.rf, hR⟩
  have q0 : ¬ y6.toInt = 0 := fun e => c6_0 ((eq32 _ _).mpr (e.trans (by decide)))
  have q1 : ¬ y6.toInt = 1 := fun e => c6_1 ((eq32 _ _).mpr (e.trans (by decide)))
  have q2 : ¬ y6.toInt = 2 := fun e => c6_2 ((eq32 _ _).mpr (e.trans (by decide)))
  have q3 : ¬ y6.toInt = 3 := fun e => c6_3 ((eq32 _ _).mpr (e.trans (by decide)))
  have q4 : ¬ y6.toInt = 4 := fun e => c6_4 ((eq32 _ _).mpr (e.trans (by decide)))
  have q5 : ¬ y6.toInt = 5 := fun e => c6_5 ((eq32 _ _).mpr (e.trans (by decide)))
  have q6 : ¬ y6.toInt = 6 := fun e => c6_6 ((eq32 _ _).mpr (e.trans (by decide)))
  have q7 : ¬ y6.toInt = 7 := fun e => c6_7 ((eq32 _ _).mpr (e.trans (by decide)))
  have q8 : ¬ y6.toInt = 8 := fun e => c6_8 ((eq32 _ _).mpr (e.trans (by decide)))
  have q9 : ¬ y6.toInt = 9 := fun e => c6_9 ((eq32 _ _).mpr (e.trans (by decide)))
  have q10 : ¬ y6.toInt = 10 := fun e => c6_10 ((eq32 _ _).mpr (e.trans (by decide)))
  have q11 : ¬ y6.toInt = 11 := fun e => c6_11 ((eq32 _ _).mpr (e.trans (by decide)))
  refine V.tOut 152 (pc := 6) dX12_count_6 (by skip; omega) (by decide) ?_
  refine V.iconst (v := (-1)) (pc := 152) dX12_count_152 (by decide) ?_
  exact V.iret (pc := 153) dX12_count_153 rfl ⟨by rw [s_count]; simp only [← ey6]; rw [if_neg q0, if_neg q1, if_neg q2, if_neg q3, if_neg q4, if_neg q5, if_neg q6, if_neg q7, if_neg q8, if_neg q9, if_neg q10, if_neg q11]; rfl, rfl, rfl, rfl, hf, Frm.rf, hR⟩
