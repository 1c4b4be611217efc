set_option maxHeartbeats 4000000 in
theorem n_m {g : gG} {d : Nat} {T : mT} {n : Nat} {I : mI} {J : mJ} {F : mF} {m : Nat} (hT0 : T m = some (.inl 11)) (hn : n = m + 1) (hI0 : ∀ k, I m k = 0) : Ct g mX12_init (d + 1) [.ref m] 20 981194 T n I J F (fun r' T' n' I' J' F' => r' = none ∧ n' = m + 21 ∧ NwF m T I J F T' I' J' F' ∧ MS T' F' m ∧ RepM I' J' m A0) := by
  refine Ct.ofV (k := 0) (by decide) (Nat.le_of_ble_eq_true rfl) ?_
  show V g mX12_init (d + 1) _ 20 981194 0 [some (.ref m)] [] T n I J F
  subst hn
  refine V.aload_n (pc := 0) dX12_init_0 rfl ?_
  refine V.obj (pc := 1) dX12_init_1 lX12_1 (by omega) (Nat.le_of_ble_eq_true rfl) ?_
  refine V.aload_n (pc := 4) dX12_init_4 rfl ?_
  refine V.bipush (v := 7) (pc := 5) dX12_init_5 (by decide) ?_
  refine V.room (bc := 19 + 1) (bs := 981187 + 7) (by decide) (by decide) ?_
  refine V.newa (ty := .int) (N := 7) (pc := 7) dX12_init_7 rfl a_int (by decide) rfl rfl (by decide) (by decide) (by decide) ?_
  refine V.putR (b := (some _)) (pc := 9) dX12_init_9 fX12_7_11 (fun r h => by cases h; exact Or.inr ⟨rfl, rfl⟩) rfl (by first | exact hT0 | (simp (disch := omega) only [upT_lt]; exact hT0)) ?_
  refine V.aload_n (pc := 12) dX12_init_12 rfl ?_
  refine V.sipush (v := 5550) (pc := 13) dX12_init_13 (by decide) ?_
  refine V.room (bc := 18 + 1) (bs := 975637 + 5550) (by decide) (by decide) ?_
  refine V.newa (ty := .int) (N := 5550) (pc := 16) dX12_init_16 rfl a_int (by decide) rfl rfl (by decide) (by decide) (by decide) ?_
  refine V.putR (b := (some _)) (pc := 18) dX12_init_18 fX12_13_11 (fun r h => by cases h; exact Or.inr ⟨rfl, rfl⟩) rfl (by first | exact hT0 | (simp (disch := omega) only [upT_lt]; exact hT0)) ?_
  refine V.aload_n (pc := 21) dX12_init_21 rfl ?_
  refine V.sipush (v := 11100) (pc := 22) dX12_init_22 (by decide) ?_
  refine V.room (bc := 17 + 1) (bs := 964537 + 11100) (by decide) (by decide) ?_
  refine V.newa (ty := .int) (N := 11100) (pc := 25) dX12_init_25 rfl a_int (by decide) rfl rfl (by decide) (by decide) (by decide) ?_
  refine V.putR (b := (some _)) (pc := 27) dX12_init_27 fX12_16_11 (fun r h => by cases h; exact Or.inr ⟨rfl, rfl⟩) rfl (by first | exact hT0 | (simp (disch := omega) only [upT_lt]; exact hT0)) ?_
  refine V.aload_n (pc := 30) dX12_init_30 rfl ?_
  refine V.iconst (v := 2) (pc := 31) dX12_init_31 (by decide) ?_
  refine V.room (bc := 16 + 1) (bs := 964535 + 2) (by decide) (by decide) ?_
  refine V.newa (ty := .boolean) (N := 2) (pc := 32) dX12_init_32 rfl a_boolean (by decide) rfl rfl (by decide) (by decide) (by decide) ?_
  refine V.putR (b := (some _)) (pc := 34) dX12_init_34 fX12_19_11 (fun r h => by cases h; exact Or.inr ⟨rfl, rfl⟩) rfl (by first | exact hT0 | (simp (disch := omega) only [upT_lt]; exact hT0)) ?_
  refine V.aload_n (pc := 37) dX12_init_37 rfl ?_
  refine V.sipush (v := 400) (pc := 38) dX12_init_38 (by decide) ?_
  refine V.room (bc := 15 + 1) (bs := 964135 + 400) (by decide) (by decide) ?_
  refine V.newa (ty := .int) (N := 400) (pc := 41) dX12_init_41 rfl a_int (by decide) rfl rfl (by decide) (by decide) (by decide) ?_
  refine V.putR (b := (some _)) (pc := 43) dX12_init_43 fX12_23_11 (fun r h => by cases h; exact Or.inr ⟨rfl, rfl⟩) rfl (by first | exact hT0 | (simp (disch := omega) only [upT_lt]; exact hT0)) ?_
  refine V.aload_n (pc := 46) dX12_init_46 rfl ?_
  refine V.iconst (v := (-1)) (pc := 47) dX12_init_47 (by decide) ?_
  refine V.putI (pc := 48) dX12_init_48 fX12_26_11 (fun r h => by cases h; exact Or.inl rfl) rfl (by first | exact hT0 | (simp (disch := omega) only [upT_lt]; exact hT0)) ?_
  refine V.aload_n (pc := 51) dX12_init_51 rfl ?_
  refine V.bipush (v := 96) (pc := 52) dX12_init_52 (by decide) ?_
  refine V.room (bc := 14 + 1) (bs := 964039 + 96) (by decide) (by decide) ?_
  refine V.newa (ty := .int) (N := 96) (pc := 54) dX12_init_54 rfl a_int (by decide) rfl rfl (by decide) (by decide) (by decide) ?_
  refine V.putR (b := (some _)) (pc := 56) dX12_init_56 fX12_30_11 (fun r h => by cases h; exact Or.inr ⟨rfl, rfl⟩) rfl (by first | exact hT0 | (simp (disch := omega) only [upT_lt]; exact hT0)) ?_
  refine V.aload_n (pc := 59) dX12_init_59 rfl ?_
  refine V.sipush (v := 400) (pc := 60) dX12_init_60 (by decide) ?_
  refine V.room (bc := 13 + 1) (bs := 963639 + 400) (by decide) (by decide) ?_
  refine V.newa (ty := .int) (N := 400) (pc := 63) dX12_init_63 rfl a_int (by decide) rfl rfl (by decide) (by decide) (by decide) ?_
  refine V.putR (b := (some _)) (pc := 65) dX12_init_65 fX12_33_11 (fun r h => by cases h; exact Or.inr ⟨rfl, rfl⟩) rfl (by first | exact hT0 | (simp (disch := omega) only [upT_lt]; exact hT0)) ?_
  refine V.aload_n (pc := 68) dX12_init_68 rfl ?_
  refine V.sipush (v := 400) (pc := 69) dX12_init_69 (by decide) ?_
  refine V.room (bc := 12 + 1) (bs := 963239 + 400) (by decide) (by decide) ?_
  refine V.newa (ty := .int) (N := 400) (pc := 72) dX12_init_72 rfl a_int (by decide) rfl rfl (by decide) (by decide) (by decide) ?_
  refine V.putR (b := (some _)) (pc := 74) dX12_init_74 fX12_36_11 (fun r h => by cases h; exact Or.inr ⟨rfl, rfl⟩) rfl (by first | exact hT0 | (simp (disch := omega) only [upT_lt]; exact hT0)) ?_
  refine V.aload_n (pc := 77) dX12_init_77 rfl ?_
  refine V.sipush (v := 400) (pc := 78) dX12_init_78 (by decide) ?_
  refine V.room (bc := 11 + 1) (bs := 962839 + 400) (by decide) (by decide) ?_
  refine V.newa (ty := .int) (N := 400) (pc := 81) dX12_init_81 rfl a_int (by decide) rfl rfl (by decide) (by decide) (by decide) ?_
  refine V.putR (b := (some _)) (pc := 83) dX12_init_83 fX12_39_11 (fun r h => by cases h; exact Or.inr ⟨rfl, rfl⟩) rfl (by first | exact hT0 | (simp (disch := omega) only [upT_lt]; exact hT0)) ?_
  refine V.aload_n (pc := 86) dX12_init_86 rfl ?_
  refine V.sipush (v := 400) (pc := 87) dX12_init_87 (by decide) ?_
  refine V.room (bc := 10 + 1) (bs := 962439 + 400) (by decide) (by decide) ?_
  refine V.newa (ty := .int) (N := 400) (pc := 90) dX12_init_90 rfl a_int (by decide) rfl rfl (by decide) (by decide) (by decide) ?_
  refine V.putR (b := (some _)) (pc := 92) dX12_init_92 fX12_42_11 (fun r h => by cases h; exact Or.inr ⟨rfl, rfl⟩) rfl (by first | exact hT0 | (simp (disch := omega) only [upT_lt]; exact hT0)) ?_
  refine V.aload_n (pc := 95) dX12_init_95 rfl ?_
  refine V.iconst (v := 5) (pc := 96) dX12_init_96 (by decide) ?_
  refine V.room (bc := 9 + 1) (bs := 962434 + 5) (by decide) (by decide) ?_
  refine V.newa (ty := .long) (N := 5) (pc := 97) dX12_init_97 rfl a_long (by decide) rfl rfl (by decide) (by decide) (by decide) ?_
  refine V.dup (pc := 99) dX12_init_99 rfl ?_
  refine V.iconst (v := 0) (pc := 100) dX12_init_100 (by decide) ?_
  refine V.ldc2 (pc := 101) dX12_init_101 qX12_45 ?_
  refine V.last' (k := 0) (pc := 104) dX12_init_104 upT_at rfl (by decide) (by decide) ?_
  refine V.dup (pc := 105) dX12_init_105 rfl ?_
  refine V.iconst (v := 1) (pc := 106) dX12_init_106 (by decide) ?_
  refine V.ldc2 (pc := 107) dX12_init_107 qX12_47 ?_
  refine V.last' (k := 1) (pc := 110) dX12_init_110 upT_at rfl (by decide) (by decide) ?_
  refine V.dup (pc := 111) dX12_init_111 rfl ?_
  refine V.iconst (v := 2) (pc := 112) dX12_init_112 (by decide) ?_
  refine V.ldc2 (pc := 113) dX12_init_113 qX12_49 ?_
  refine V.last' (k := 2) (pc := 116) dX12_init_116 upT_at rfl (by decide) (by decide) ?_
  refine V.dup (pc := 117) dX12_init_117 rfl ?_
  refine V.iconst (v := 3) (pc := 118) dX12_init_118 (by decide) ?_
  refine V.ldc2 (pc := 119) dX12_init_119 qX12_51 ?_
  refine V.last' (k := 3) (pc := 122) dX12_init_122 upT_at rfl (by decide) (by decide) ?_
  refine V.dup (pc := 123) dX12_init_123 rfl ?_
  refine V.iconst (v := 4) (pc := 124) dX12_init_124 (by decide) ?_
  refine V.ldc2 (pc := 125) dX12_init_125 qX12_53 ?_
  refine V.last' (k := 4) (pc := 128) dX12_init_128 upT_at rfl (by decide) (by decide) ?_
  refine V.putR (b := (some _)) (pc := 129) dX12_init_129 fX12_55_11 (fun r h => by cases h; exact Or.inr ⟨rfl, rfl⟩) rfl (by first | exact hT0 | (simp (disch := omega) only [upT_lt]; exact hT0)) ?_
  refine V.aload_n (pc := 132) dX12_init_132 rfl ?_
  refine V.bipush (v := 13) (pc := 133) dX12_init_133 (by decide) ?_
  refine V.room (bc := 8 + 1) (bs := 962421 + 13) (by decide) (by decide) ?_
  refine V.newa (ty := .long) (N := 13) (pc := 135) dX12_init_135 rfl a_long (by decide) rfl rfl (by decide) (by decide) (by decide) ?_
  refine V.putR (b := (some _)) (pc := 137) dX12_init_137 fX12_59_11 (fun r h => by cases h; exact Or.inr ⟨rfl, rfl⟩) rfl (by first | exact hT0 | (simp (disch := omega) only [upT_lt]; exact hT0)) ?_
  refine V.aload_n (pc := 140) dX12_init_140 rfl ?_
  refine V.sipush (v := 400) (pc := 141) dX12_init_141 (by decide) ?_
  refine V.room (bc := 7 + 1) (bs := 962021 + 400) (by decide) (by decide) ?_
  refine V.newa (ty := .long) (N := 400) (pc := 144) dX12_init_144 rfl a_long (by decide) rfl rfl (by decide) (by decide) (by decide) ?_
  refine V.putR (b := (some _)) (pc := 146) dX12_init_146 fX12_62_11 (fun r h => by cases h; exact Or.inr ⟨rfl, rfl⟩) rfl (by first | exact hT0 | (simp (disch := omega) only [upT_lt]; exact hT0)) ?_
  refine V.aload_n (pc := 149) dX12_init_149 rfl ?_
  refine V.iconst (v := 4) (pc := 150) dX12_init_150 (by decide) ?_
  refine V.room (bc := 6 + 1) (bs := 962017 + 4) (by decide) (by decide) ?_
  refine V.newa (ty := .int) (N := 4) (pc := 151) dX12_init_151 rfl a_int (by decide) rfl rfl (by decide) (by decide) (by decide) ?_
  refine V.putR (b := (some _)) (pc := 153) dX12_init_153 fX12_65_11 (fun r h => by cases h; exact Or.inr ⟨rfl, rfl⟩) rfl (by first | exact hT0 | (simp (disch := omega) only [upT_lt]; exact hT0)) ?_
  refine V.aload_n (pc := 156) dX12_init_156 rfl ?_
  refine V.iconst (v := 4) (pc := 157) dX12_init_157 (by decide) ?_
  refine V.room (bc := 5 + 1) (bs := 962013 + 4) (by decide) (by decide) ?_
  refine V.newa (ty := .int) (N := 4) (pc := 158) dX12_init_158 rfl a_int (by decide) rfl rfl (by decide) (by decide) (by decide) ?_
  refine V.putR (b := (some _)) (pc := 160) dX12_init_160 fX12_68_11 (fun r h => by cases h; exact Or.inr ⟨rfl, rfl⟩) rfl (by first | exact hT0 | (simp (disch := omega) only [upT_lt]; exact hT0)) ?_
  refine V.aload_n (pc := 163) dX12_init_163 rfl ?_
  refine V.sipush (v := 2001) (pc := 164) dX12_init_164 (by decide) ?_
  refine V.room (bc := 4 + 1) (bs := 960012 + 2001) (by decide) (by decide) ?_
  refine V.newa (ty := .int) (N := 2001) (pc := 167) dX12_init_167 rfl a_int (by decide) rfl rfl (by decide) (by decide) (by decide) ?_
  refine V.putR (b := (some _)) (pc := 169) dX12_init_169 fX12_71_11 (fun r h => by cases h; exact Or.inr ⟨rfl, rfl⟩) rfl (by first | exact hT0 | (simp (disch := omega) only [upT_lt]; exact hT0)) ?_
  refine V.aload_n (pc := 172) dX12_init_172 rfl ?_
  refine V.ldc (pc := 173) dX12_init_173 qX12_74 ?_
  refine V.room (bc := 3 + 1) (bs := 160012 + 800000) (by decide) (by decide) ?_
  refine V.newa (ty := .int) (N := 800000) (pc := 175) dX12_init_175 rfl a_int (by decide) rfl rfl (by decide) (by decide) (by decide) ?_
  refine V.putR (b := (some _)) (pc := 177) dX12_init_177 fX12_75_11 (fun r h => by cases h; exact Or.inr ⟨rfl, rfl⟩) rfl (by first | exact hT0 | (simp (disch := omega) only [upT_lt]; exact hT0)) ?_
  refine V.aload_n (pc := 180) dX12_init_180 rfl ?_
  refine V.ldc (pc := 181) dX12_init_181 qX12_78 ?_
  refine V.room (bc := 2 + 1) (bs := 12 + 160000) (by decide) (by decide) ?_
  refine V.newa (ty := .int) (N := 160000) (pc := 183) dX12_init_183 rfl a_int (by decide) rfl rfl (by decide) (by decide) (by decide) ?_
  refine V.putR (b := (some _)) (pc := 185) dX12_init_185 fX12_79_11 (fun r h => by cases h; exact Or.inr ⟨rfl, rfl⟩) rfl (by first | exact hT0 | (simp (disch := omega) only [upT_lt]; exact hT0)) ?_
  refine V.aload_n (pc := 188) dX12_init_188 rfl ?_
  refine V.bipush (v := 6) (pc := 189) dX12_init_189 (by decide) ?_
  refine V.room (bc := 1 + 1) (bs := 6 + 6) (by decide) (by decide) ?_
  refine V.newa (ty := .int) (N := 6) (pc := 191) dX12_init_191 rfl a_int (by decide) rfl rfl (by decide) (by decide) (by decide) ?_
  refine V.putR (b := (some _)) (pc := 193) dX12_init_193 fX12_82_11 (fun r h => by cases h; exact Or.inr ⟨rfl, rfl⟩) rfl (by first | exact hT0 | (simp (disch := omega) only [upT_lt]; exact hT0)) ?_
  refine V.aload_n (pc := 196) dX12_init_196 rfl ?_
  refine V.bipush (v := 6) (pc := 197) dX12_init_197 (by decide) ?_
  refine V.room (bc := 0 + 1) (bs := 0 + 6) (by decide) (by decide) ?_
  refine V.newa (ty := .int) (N := 6) (pc := 199) dX12_init_199 rfl a_int (by decide) rfl rfl (by decide) (by decide) (by decide) ?_
  refine V.putR (b := (some _)) (pc := 201) dX12_init_201 fX12_85_11 (fun r h => by cases h; exact Or.inr ⟨rfl, rfl⟩) rfl (by first | exact hT0 | (simp (disch := omega) only [upT_lt]; exact hT0)) ?_
  refine V.aload_n (pc := 204) dX12_init_204 rfl ?_
  refine V.getR (pc := 205) dX12_init_205 fX12_13_11 rfl (by first | exact hT0 | (simp (disch := omega) only [upT_lt]; exact hT0)) (show _ = some (m + 2) from by first | (simp (disch := omega) only [up2_off, up2_ne, up2_same, clr_off, clr_row]; done) | (simp (disch := omega) only [up2_off, up2_ne, up2_same, clr_off, clr_row]; rfl)) ?_
  refine V.iconst (v := 3) (pc := 208) dX12_init_208 (by decide) ?_
  refine V.iconst (v := (-1)) (pc := 209) dX12_init_209 (by decide) ?_
  refine V.iast' (k := 3) (pc := 210) dX12_init_210 (show _ = some (Sum.inr (FieldType.int, 5550)) from by first | (simp (disch := omega) only [upT_lt, upT_at]; done) | (simp (disch := omega) only [upT_lt, upT_at]; rfl)) rfl (by decide) (by decide) ?_
  refine V.aload_n (pc := 211) dX12_init_211 rfl ?_
  refine V.getR (pc := 212) dX12_init_212 fX12_13_11 rfl (by first | exact hT0 | (simp (disch := omega) only [upT_lt]; exact hT0)) (show _ = some (m + 2) from by first | (simp (disch := omega) only [up2_off, up2_ne, up2_same, clr_off, clr_row]; done) | (simp (disch := omega) only [up2_off, up2_ne, up2_same, clr_off, clr_row]; rfl)) ?_
  refine V.bipush (v := 6) (pc := 215) dX12_init_215 (by decide) ?_
  refine V.sipush (v := 10000) (pc := 217) dX12_init_217 (by decide) ?_
  refine V.iast' (k := 6) (pc := 220) dX12_init_220 (show _ = some (Sum.inr (FieldType.int, 5550)) from by first | (simp (disch := omega) only [upT_lt, upT_at]; done) | (simp (disch := omega) only [upT_lt, upT_at]; rfl)) rfl (by decide) (by decide) ?_
  exact V.vret (pc := 221) dX12_init_221 rfl ⟨rfl, rfl, ⟨fun b hb => by simp (disch := omega) only [upT_lt], fun b hb => by simp (disch := omega) only [up2_off, clr_off], fun b hb => by simp (disch := omega) only [up2_off, clr_off], fun b hb => by simp (disch := omega) only [up2_off, clr_off], fun b hb => upT_in (upT_in (upT_in (upT_in (upT_in (upT_in (upT_in (upT_in (upT_in (upT_in (upT_in (upT_in (upT_in (upT_in (upT_in (upT_in (upT_in (upT_in (upT_in (upT_in (hb) (by simp)) (by simp)) (by simp)) (by simp)) (by simp)) (by simp)) (by simp)) (by simp)) (by simp)) (by simp)) (by simp)) (by simp)) (by simp)) (by simp)) (by simp)) (by simp)) (by simp)) (by simp)) (by simp)) (by simp)⟩, ⟨by simp (disch := omega) only [upT_lt, upT_at]; exact hT0, ⟨by first | (simp (disch := omega) only [up2_off, up2_ne, up2_same, clr_off, clr_row]; done) | (simp (disch := omega) only [up2_off, up2_ne, up2_same, clr_off, clr_row]; rfl), by first | (simp (disch := omega) only [upT_lt, upT_at]; done) | (simp (disch := omega) only [upT_lt, upT_at]; rfl)⟩, ⟨by first | (simp (disch := omega) only [up2_off, up2_ne, up2_same, clr_off, clr_row]; done) | (simp (disch := omega) only [up2_off, up2_ne, up2_same, clr_off, clr_row]; rfl), by first | (simp (disch := omega) only [upT_lt, upT_at]; done) | (simp (disch := omega) only [upT_lt, upT_at]; rfl)⟩, ⟨by first | (simp (disch := omega) only [up2_off, up2_ne, up2_same, clr_off, clr_row]; done) | (simp (disch := omega) only [up2_off, up2_ne, up2_same, clr_off, clr_row]; rfl), by first | (simp (disch := omega) only [upT_lt, upT_at]; done) | (simp (disch := omega) only [upT_lt, upT_at]; rfl)⟩, ⟨by first | (simp (disch := omega) only [up2_off, up2_ne, up2_same, clr_off, clr_row]; done) | (simp (disch := omega) only [up2_off, up2_ne, up2_same, clr_off, clr_row]; rfl), by first | (simp (disch := omega) only [upT_lt, upT_at]; done) | (simp (disch := omega) only [upT_lt, upT_at]; rfl)⟩, ⟨by first | (simp (disch := omega) only [up2_off, up2_ne, up2_same, clr_off, clr_row]; done) | (simp (disch := omega) only [up2_off, up2_ne, up2_same, clr_off, clr_row]; rfl), by first | (simp (disch := omega) only [upT_lt, upT_at]; done) | (simp (disch := omega) only [upT_lt, upT_at]; rfl)⟩, ⟨by first | (simp (disch := omega) only [up2_off, up2_ne, up2_same, clr_off, clr_row]; done) | (simp (disch := omega) only [up2_off, up2_ne, up2_same, clr_off, clr_row]; rfl), by first | (simp (disch := omega) only [upT_lt, upT_at]; done) | (simp (disch := omega) only [upT_lt, upT_at]; rfl)⟩, ⟨by first | (simp (disch := omega) only [up2_off, up2_ne, up2_same, clr_off, clr_row]; done) | (simp (disch := omega) only [up2_off, up2_ne, up2_same, clr_off, clr_row]; rfl), by first | (simp (disch := omega) only [upT_lt, upT_at]; done) | (simp (disch := omega) only [upT_lt, upT_at]; rfl)⟩, ⟨by first | (simp (disch := omega) only [up2_off, up2_ne, up2_same, clr_off, clr_row]; done) | (simp (disch := omega) only [up2_off, up2_ne, up2_same, clr_off, clr_row]; rfl), by first | (simp (disch := omega) only [upT_lt, upT_at]; done) | (simp (disch := omega) only [upT_lt, upT_at]; rfl)⟩, ⟨by first | (simp (disch := omega) only [up2_off, up2_ne, up2_same, clr_off, clr_row]; done) | (simp (disch := omega) only [up2_off, up2_ne, up2_same, clr_off, clr_row]; rfl), by first | (simp (disch := omega) only [upT_lt, upT_at]; done) | (simp (disch := omega) only [upT_lt, upT_at]; rfl)⟩, ⟨by first | (simp (disch := omega) only [up2_off, up2_ne, up2_same, clr_off, clr_row]; done) | (simp (disch := omega) only [up2_off, up2_ne, up2_same, clr_off, clr_row]; rfl), by first | (simp (disch := omega) only [upT_lt, upT_at]; done) | (simp (disch := omega) only [upT_lt, upT_at]; rfl)⟩, ⟨by first | (simp (disch := omega) only [up2_off, up2_ne, up2_same, clr_off, clr_row]; done) | (simp (disch := omega) only [up2_off, up2_ne, up2_same, clr_off, clr_row]; rfl), by first | (simp (disch := omega) only [upT_lt, upT_at]; done) | (simp (disch := omega) only [upT_lt, upT_at]; rfl)⟩, ⟨by first | (simp (disch := omega) only [up2_off, up2_ne, up2_same, clr_off, clr_row]; done) | (simp (disch := omega) only [up2_off, up2_ne, up2_same, clr_off, clr_row]; rfl), by first | (simp (disch := omega) only [upT_lt, upT_at]; done) | (simp (disch := omega) only [upT_lt, upT_at]; rfl)⟩, ⟨by first | (simp (disch := omega) only [up2_off, up2_ne, up2_same, clr_off, clr_row]; done) | (simp (disch := omega) only [up2_off, up2_ne, up2_same, clr_off, clr_row]; rfl), by first | (simp (disch := omega) only [upT_lt, upT_at]; done) | (simp (disch := omega) only [upT_lt, upT_at]; rfl)⟩, ⟨by first | (simp (disch := omega) only [up2_off, up2_ne, up2_same, clr_off, clr_row]; done) | (simp (disch := omega) only [up2_off, up2_ne, up2_same, clr_off, clr_row]; rfl), by first | (simp (disch := omega) only [upT_lt, upT_at]; done) | (simp (disch := omega) only [upT_lt, upT_at]; rfl)⟩, ⟨by first | (simp (disch := omega) only [up2_off, up2_ne, up2_same, clr_off, clr_row]; done) | (simp (disch := omega) only [up2_off, up2_ne, up2_same, clr_off, clr_row]; rfl), by first | (simp (disch := omega) only [upT_lt, upT_at]; done) | (simp (disch := omega) only [upT_lt, upT_at]; rfl)⟩, ⟨by first | (simp (disch := omega) only [up2_off, up2_ne, up2_same, clr_off, clr_row]; done) | (simp (disch := omega) only [up2_off, up2_ne, up2_same, clr_off, clr_row]; rfl), by first | (simp (disch := omega) only [upT_lt, upT_at]; done) | (simp (disch := omega) only [upT_lt, upT_at]; rfl)⟩, ⟨by first | (simp (disch := omega) only [up2_off, up2_ne, up2_same, clr_off, clr_row]; done) | (simp (disch := omega) only [up2_off, up2_ne, up2_same, clr_off, clr_row]; rfl), by first | (simp (disch := omega) only [upT_lt, upT_at]; done) | (simp (disch := omega) only [upT_lt, upT_at]; rfl)⟩, ⟨by first | (simp (disch := omega) only [up2_off, up2_ne, up2_same, clr_off, clr_row]; done) | (simp (disch := omega) only [up2_off, up2_ne, up2_same, clr_off, clr_row]; rfl), by first | (simp (disch := omega) only [upT_lt, upT_at]; done) | (simp (disch := omega) only [upT_lt, upT_at]; rfl)⟩, ⟨by first | (simp (disch := omega) only [up2_off, up2_ne, up2_same, clr_off, clr_row]; done) | (simp (disch := omega) only [up2_off, up2_ne, up2_same, clr_off, clr_row]; rfl), by first | (simp (disch := omega) only [upT_lt, upT_at]; done) | (simp (disch := omega) only [upT_lt, upT_at]; rfl)⟩, by first | (simp (disch := omega) only [up2_off, up2_ne, up2_same, clr_off, clr_row]; done) | (simp (disch := omega) only [up2_off, up2_ne, up2_same, clr_off, clr_row]; rfl), by first | (simp (disch := omega) only [upT_lt, upT_at]; done) | (simp (disch := omega) only [upT_lt, upT_at]; rfl)⟩, ⟨⟨by first | (simp (disch := omega) only [up2_off, up2_ne, up2_same, clr_off, clr_row, hI0]; done) | (simp (disch := omega) only [up2_off, up2_ne, up2_same, clr_off, clr_row, hI0]; rfl), by first | (simp (disch := omega) only [up2_off, up2_ne, up2_same, clr_off, clr_row, hI0]; done) | (simp (disch := omega) only [up2_off, up2_ne, up2_same, clr_off, clr_row, hI0]; rfl), by first | (simp (disch := omega) only [up2_off, up2_ne, up2_same, clr_off, clr_row, hI0]; done) | (simp (disch := omega) only [up2_off, up2_ne, up2_same, clr_off, clr_row, hI0]; rfl), by first | (simp (disch := omega) only [up2_off, up2_ne, up2_same, clr_off, clr_row, hI0]; done) | (simp (disch := omega) only [up2_off, up2_ne, up2_same, clr_off, clr_row, hI0]; rfl), by first | (simp (disch := omega) only [up2_off, up2_ne, up2_same, clr_off, clr_row, hI0]; done) | (simp (disch := omega) only [up2_off, up2_ne, up2_same, clr_off, clr_row, hI0]; rfl)⟩, ⟨by first | (simp (disch := omega) only [up2_off, up2_ne, up2_same, clr_off, clr_row, hI0]; done) | (simp (disch := omega) only [up2_off, up2_ne, up2_same, clr_off, clr_row, hI0]; rfl), by first | (simp (disch := omega) only [up2_off, up2_ne, up2_same, clr_off, clr_row, hI0]; done) | (simp (disch := omega) only [up2_off, up2_ne, up2_same, clr_off, clr_row, hI0]; rfl), by first | (simp (disch := omega) only [up2_off, up2_ne, up2_same, clr_off, clr_row, hI0]; done) | (simp (disch := omega) only [up2_off, up2_ne, up2_same, clr_off, clr_row, hI0]; rfl), by first | (simp (disch := omega) only [up2_off, up2_ne, up2_same, clr_off, clr_row, hI0]; done) | (simp (disch := omega) only [up2_off, up2_ne, up2_same, clr_off, clr_row, hI0]; rfl)⟩, ⟨⟨by first | (simp (disch := omega) only [up2_off, up2_ne, up2_same, clr_off, clr_row, hI0]; done) | (simp (disch := omega) only [up2_off, up2_ne, up2_same, clr_off, clr_row, hI0]; rfl), by first | (simp (disch := omega) only [up2_off, up2_ne, up2_same, clr_off, clr_row, hI0]; done) | (simp (disch := omega) only [up2_off, up2_ne, up2_same, clr_off, clr_row, hI0]; rfl), by first | (simp (disch := omega) only [up2_off, up2_ne, up2_same, clr_off, clr_row, hI0]; done) | (simp (disch := omega) only [up2_off, up2_ne, up2_same, clr_off, clr_row, hI0]; rfl), by first | (simp (disch := omega) only [up2_off, up2_ne, up2_same, clr_off, clr_row, hI0]; done) | (simp (disch := omega) only [up2_off, up2_ne, up2_same, clr_off, clr_row, hI0]; rfl), by first | (simp (disch := omega) only [up2_off, up2_ne, up2_same, clr_off, clr_row, hI0]; done) | (simp (disch := omega) only [up2_off, up2_ne, up2_same, clr_off, clr_row, hI0]; rfl), by first | (simp (disch := omega) only [up2_off, up2_ne, up2_same, clr_off, clr_row, hI0]; done) | (simp (disch := omega) only [up2_off, up2_ne, up2_same, clr_off, clr_row, hI0]; rfl), by first | (simp (disch := omega) only [up2_off, up2_ne, up2_same, clr_off, clr_row, hI0]; done) | (simp (disch := omega) only [up2_off, up2_ne, up2_same, clr_off, clr_row, hI0]; rfl)⟩, fun h x hx => (by cases hx), fun i t hi => (by cases hi), fun i s hi => (by cases hi), fun k f hf => (by cases hf), fun i w hw => (by cases hw)⟩, fun k hk => ⟨by first | (simp (disch := omega) only [up2_off, up2_ne, up2_same, clr_off, clr_row, hI0]; done) | (simp (disch := omega) only [up2_off, up2_ne, up2_same, clr_off, clr_row, hI0]; rfl), fun c hc => (by cases hc)⟩, fun i t hi => (by cases hi), fun h x hx => (by cases hx), by first | (simp (disch := omega) only [up2_off, up2_ne, up2_same, clr_off, clr_row]; done) | (simp (disch := omega) only [up2_off, up2_ne, up2_same, clr_off, clr_row]; rfl), by first | (simp (disch := omega) only [up2_off, up2_ne, up2_same, clr_off, clr_row]; done) | (simp (disch := omega) only [up2_off, up2_ne, up2_same, clr_off, clr_row]; rfl), by first | (simp (disch := omega) only [up2_off, up2_ne, up2_same, clr_off, clr_row]; done) | (simp (disch := omega) only [up2_off, up2_ne, up2_same, clr_off, clr_row]; rfl), by first | (simp (disch := omega) only [up2_off, up2_ne, up2_same, clr_off, clr_row]; done) | (simp (disch := omega) only [up2_off, up2_ne, up2_same, clr_off, clr_row]; rfl), by first | (simp (disch := omega) only [up2_off, up2_ne, up2_same, clr_off, clr_row]; done) | (simp (disch := omega) only [up2_off, up2_ne, up2_same, clr_off, clr_row]; rfl)⟩⟩
