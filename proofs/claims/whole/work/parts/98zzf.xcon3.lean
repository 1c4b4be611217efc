def A0 : Ab := (([], [], [], -1, [], [], 10000), fun _ => none, [], -1, 0, fun _ => 0, 0, [])
theorem A0_ok : AbOK A0 := ⟨⟨by decide, fun x h => (by cases h), by decide, fun x h => (by cases h), by decide, by decide, by decide, by decide, fun x h => (by cases h), by decide, fun x h => (by cases h), by decide, by decide⟩, fun k c h => (by cases h), by decide, fun x h => (by cases h), by decide⟩
theorem SS.reg {T T' : mT} {F F' : mF} {v : Nat} (hS : SS T F v) (hT : ∀ b, v ≤ b → b < v + 20 → T' b = T b) (hF : ∀ b, v ≤ b → b < v + 20 → F' b = F b) : SS T' F' v := by
  obtain ⟨h0, h1, h2, h3, h4, h5, h6, h7, h8⟩ := hS
  refine ⟨by rw [hT _ (by omega) (by omega)]; exact h0, ?_, ?_, ?_, ?_, ?_, ?_, ?_, fun h hh => ?_⟩
  all_goals first | (rw [hF _ (by omega) (by omega), hT _ (by omega) (by omega)]; assumption) | skip
  obtain ⟨a1, a2, a3, a4⟩ := h8 h hh
  exact ⟨by rw [hF _ (by omega) (by omega)]; exact a1, by rw [hT _ (by omega) (by omega)]; exact a2, by rw [hF _ (by omega) (by omega)]; exact a3, by rw [hT _ (by omega) (by omega)]; exact a4⟩
theorem StZ.st {T : mT} {I : mI} {J : mJ} {F : mF} {lo o : Nat} (h : StZ I F o) : StX T I J F lo o (cor A0) := by
  obtain ⟨-, h2, h4, h5, h7, h8, h12, h14, hk, hl⟩ := h
  exact ⟨⟨h2, h4, by rw [h5]; rfl, h7, by rw [h8]; rfl, h12, h14⟩, fun h y hy => (by cases hy), fun i t hi => (by cases hi), fun i s hi => (by cases hi), ⟨fun k f hf => (by cases hf), fun j _ _ => hk j⟩, fun i w hw => (by cases hw), fun i _ => Or.inl (hl i)⟩
theorem n_x {g : gG} {d : Nat} {T : mT} {n : Nat} {I : mI} {J : mJ} {F : mF} {x : Nat} (hTx : T x = some (.inl 10)) (hn : n = x + 1) (hl2 : ∀ b, T b ≠ some (.inl 2)) : Ct g mX11_init (d + 3) [.ref x] 100 6000 T n I J F (fun r' T' n' I' J' F' => r' = none ∧ n' = x + 90 ∧ NwF x T I J F T' I' J' F' ∧ XS T' F' x ∧ RepX T' I' J' F' x A0 ∧ LKn T' F' x 0) := by
  refine Ct.ofV (k := 1) (by decide) (Nat.le_of_ble_eq_true rfl) ?_
  show V g mX11_init (d + 3) _ 100 6000 0 [some (.ref x), none] [] T n I J F
  subst hn
  refine V.aload_n (pc := 0) dX11_init_0 rfl ?_
  refine V.obj (pc := 1) dX11_init_1 lX11_1 (by omega) (Nat.le_of_ble_eq_true rfl) ?_
  refine V.aload_n (pc := 4) dX11_init_4 rfl ?_
  refine V.room (bc := 99 + 1) (bs := 5985 + 15) (by decide) (by decide) ?_
  refine V.new (N := 15) (RX8, TX8, 15) (pc := 5) dX11_init_5 (ci := 7) rfl rfl kX11_7 iX8 jX8 ?_
  refine V.dup (pc := 8) dX11_init_8 rfl ?_
  refine V.room (bc := 80 + 19) (bs := 5817 + 168) (by decide) (by decide) ?_
  refine V.invI (mc := 19) (ms := 168) (as := []) (pc := 9) dX11_init_9 lX11_9 bX8_init nX8_init rfl rfl (n_state (d := d + 0) (a := x + 1) upT_at rfl) (by omega) rfl (Nat.le_of_ble_eq_true rfl) ?_
  rintro _ T1 _ I1 J1 F1 ⟨rfl, rfl, f1, s1, z1⟩
  replace hTx : T1 x = some (.inl 10) := by rw [f1.1 _ (by omega)]; simp (disch := omega) only [upT_lt]; exact hTx
  refine V.putR (b := (some _)) (pc := 12) dX11_init_12 fX11_10_10 (fun r h => by cases h; exact Or.inr ⟨rfl, rfl⟩) rfl (by first | exact hTx | (simp (disch := omega) only [upT_lt]; exact hTx)) ?_
  refine V.aload_n (pc := 15) dX11_init_15 rfl ?_
  refine V.iconst (v := 2) (pc := 16) dX11_init_16 (by decide) ?_
  refine V.room (bc := 79 + 1) (bs := 5815 + 2) (by decide) (by decide) ?_
  refine V.anew (C := "WheelYear$State") (N := 2) (pc := 17) dX11_init_17 kX11_7 o_State (by decide) (by decide) (by decide) (by decide) ?_
  refine V.putR (b := (some _)) (pc := 20) dX11_init_20 fX11_16_10 (fun r h => by cases h; exact Or.inr ⟨rfl, rfl⟩) rfl (by first | exact hTx | (simp (disch := omega) only [upT_lt]; exact hTx)) ?_
  refine V.aload_n (pc := 23) dX11_init_23 rfl ?_
  refine V.sipush (v := 400) (pc := 24) dX11_init_24 (by decide) ?_
  refine V.room (bc := 78 + 1) (bs := 5415 + 400) (by decide) (by decide) ?_
  refine V.newa (ty := .int) (N := 400) (pc := 27) dX11_init_27 rfl a_int (by decide) rfl rfl (by decide) (by decide) (by decide) ?_
  refine V.putR (b := (some _)) (pc := 29) dX11_init_29 fX11_20_10 (fun r h => by cases h; exact Or.inr ⟨rfl, rfl⟩) rfl (by first | exact hTx | (simp (disch := omega) only [upT_lt]; exact hTx)) ?_
  refine V.aload_n (pc := 32) dX11_init_32 rfl ?_
  refine V.iconst (v := 0) (pc := 33) dX11_init_33 (by decide) ?_
  refine V.putI (pc := 34) dX11_init_34 fX11_24_10 (fun r h => by cases h; exact Or.inl rfl) rfl (by first | exact hTx | (simp (disch := omega) only [upT_lt]; exact hTx)) ?_
  refine V.aload_n (pc := 37) dX11_init_37 rfl ?_
  refine V.iconst (v := (-1)) (pc := 38) dX11_init_38 (by decide) ?_
  refine V.putI (pc := 39) dX11_init_39 fX11_28_10 (fun r h => by cases h; exact Or.inl rfl) rfl (by first | exact hTx | (simp (disch := omega) only [upT_lt]; exact hTx)) ?_
  refine V.aload_n (pc := 42) dX11_init_42 rfl ?_
  refine V.iconst (v := 0) (pc := 43) dX11_init_43 (by decide) ?_
  refine V.putI (pc := 44) dX11_init_44 fX11_31_10 (fun r h => by cases h; exact Or.inl rfl) rfl (by first | exact hTx | (simp (disch := omega) only [upT_lt]; exact hTx)) ?_
  refine V.aload_n (pc := 47) dX11_init_47 rfl ?_
  refine V.iconst (v := 4) (pc := 48) dX11_init_48 (by decide) ?_
  refine V.room (bc := 77 + 1) (bs := 5411 + 4) (by decide) (by decide) ?_
  refine V.newa (ty := .int) (N := 4) (pc := 49) dX11_init_49 rfl a_int (by decide) rfl rfl (by decide) (by decide) (by decide) ?_
  refine V.putR (b := (some _)) (pc := 51) dX11_init_51 fX11_34_10 (fun r h => by cases h; exact Or.inr ⟨rfl, rfl⟩) rfl (by first | exact hTx | (simp (disch := omega) only [upT_lt]; exact hTx)) ?_
  refine V.aload_n (pc := 54) dX11_init_54 rfl ?_
  refine V.iconst (v := 0) (pc := 55) dX11_init_55 (by decide) ?_
  refine V.putI (pc := 56) dX11_init_56 fX11_37_10 (fun r h => by cases h; exact Or.inl rfl) rfl (by first | exact hTx | (simp (disch := omega) only [upT_lt]; exact hTx)) ?_
  refine V.aload_n (pc := 59) dX11_init_59 rfl ?_
  refine V.room (bc := 76 + 1) (bs := 5400 + 11) (by decide) (by decide) ?_
  refine V.new (N := 11) (RX4, TX4, 11) (pc := 60) dX11_init_60 (ci := 4) rfl rfl kX11_40 iX4 jX4 ?_
  refine V.dup (pc := 63) dX11_init_63 rfl ?_
  refine V.room (bc := 70 + 6) (bs := 3777 + 1623) (by decide) (by decide) ?_
  refine V.invI (mc := 6) (ms := 1623) (as := []) (pc := 64) dX11_init_64 lX11_42 bX4_init nX4_init rfl rfl (n_read (d := d + 0) (a := x + 24) upT_at rfl) (by omega) rfl (Nat.le_of_ble_eq_true rfl) ?_
  rintro _ T2 _ I2 J2 F2 ⟨rfl, rfl, f2, s2⟩
  replace hTx : T2 x = some (.inl 10) := by rw [f2.1 _ (by omega)]; simp (disch := omega) only [upT_lt]; exact hTx
  refine V.putR (b := (some _)) (pc := 67) dX11_init_67 fX11_43_10 (fun r h => by cases h; exact Or.inr ⟨rfl, rfl⟩) rfl (by first | exact hTx | (simp (disch := omega) only [upT_lt]; exact hTx)) ?_
  refine V.aload_n (pc := 70) dX11_init_70 rfl ?_
  refine V.room (bc := 69 + 1) (bs := 3771 + 6) (by decide) (by decide) ?_
  refine V.new (N := 6) (RX0, TX0, 6) (pc := 71) dX11_init_71 (ci := 0) rfl rfl kX11_47 iX0 jX0 ?_
  refine V.dup (pc := 74) dX11_init_74 rfl ?_
  refine V.room (bc := 68 + 1) (bs := 3707 + 64) (by decide) (by decide) ?_
  refine V.invI (mc := 1) (ms := 64) (as := []) (pc := 75) dX11_init_75 lX11_49 bX0_init nX0_init rfl rfl (n_ask (d := d + 1) (a := x + 31) upT_at rfl) (by omega) rfl (Nat.le_of_ble_eq_true rfl) ?_
  rintro _ T3 _ I3 J3 F3 ⟨rfl, rfl, f3, s3⟩
  replace hTx : T3 x = some (.inl 10) := by rw [f3.1 _ (by omega)]; simp (disch := omega) only [upT_lt]; exact hTx
  refine V.putR (b := (some _)) (pc := 78) dX11_init_78 fX11_50_10 (fun r h => by cases h; exact Or.inr ⟨rfl, rfl⟩) rfl (by first | exact hTx | (simp (disch := omega) only [upT_lt]; exact hTx)) ?_
  refine V.aload_n (pc := 81) dX11_init_81 rfl ?_
  refine V.room (bc := 67 + 1) (bs := 3700 + 7) (by decide) (by decide) ?_
  refine V.new (N := 7) (RX3, TX3, 7) (pc := 82) dX11_init_82 (ci := 3) rfl rfl kX11_54 iX3 jX3 ?_
  refine V.dup (pc := 85) dX11_init_85 rfl ?_
  refine V.room (bc := 65 + 2) (bs := 3692 + 8) (by decide) (by decide) ?_
  refine V.invI (mc := 2) (ms := 8) (as := []) (pc := 86) dX11_init_86 lX11_56 bX3_init nX3_init rfl rfl (n_near (d := d + 0) (a := x + 33) upT_at rfl) (by omega) rfl (Nat.le_of_ble_eq_true rfl) ?_
  rintro _ T4 _ I4 J4 F4 ⟨rfl, rfl, f4, s4⟩
  replace hTx : T4 x = some (.inl 10) := by rw [f4.1 _ (by omega)]; simp (disch := omega) only [upT_lt]; exact hTx
  refine V.putR (b := (some _)) (pc := 89) dX11_init_89 fX11_57_10 (fun r h => by cases h; exact Or.inr ⟨rfl, rfl⟩) rfl (by first | exact hTx | (simp (disch := omega) only [upT_lt]; exact hTx)) ?_
  refine V.aload_n (pc := 92) dX11_init_92 rfl ?_
  refine V.room (bc := 64 + 1) (bs := 3683 + 9) (by decide) (by decide) ?_
  refine V.new (N := 9) (RX7, TX7, 9) (pc := 93) dX11_init_93 (ci := 6) rfl rfl kX11_61 iX7 jX7 ?_
  refine V.dup (pc := 96) dX11_init_96 rfl ?_
  refine V.room (bc := 60 + 4) (bs := 3655 + 28) (by decide) (by decide) ?_
  refine V.invI (mc := 4) (ms := 28) (as := []) (pc := 97) dX11_init_97 lX11_63 bX7_init nX7_init rfl rfl (n_sight (d := d + 0) (a := x + 36) upT_at rfl) (by omega) rfl (Nat.le_of_ble_eq_true rfl) ?_
  rintro _ T5 _ I5 J5 F5 ⟨rfl, rfl, f5, s5⟩
  replace hTx : T5 x = some (.inl 10) := by rw [f5.1 _ (by omega)]; simp (disch := omega) only [upT_lt]; exact hTx
  refine V.putR (b := (some _)) (pc := 100) dX11_init_100 fX11_64_10 (fun r h => by cases h; exact Or.inr ⟨rfl, rfl⟩) rfl (by first | exact hTx | (simp (disch := omega) only [upT_lt]; exact hTx)) ?_
  refine V.aload_n (pc := 103) dX11_init_103 rfl ?_
  refine V.room (bc := 59 + 1) (bs := 3646 + 9) (by decide) (by decide) ?_
  refine V.new (N := 9) (RX6, TX6, 9) (pc := 104) dX11_init_104 (ci := 5) rfl rfl kX11_68 iX6 jX6 ?_
  refine V.dup (pc := 107) dX11_init_107 rfl ?_
  refine V.room (bc := 55 + 4) (bs := 3634 + 12) (by decide) (by decide) ?_
  refine V.invI (mc := 4) (ms := 12) (as := []) (pc := 108) dX11_init_108 lX11_70 bX6_init nX6_init rfl rfl (n_set (d := d + 1) (a := x + 41) upT_at rfl) (by omega) rfl (Nat.le_of_ble_eq_true rfl) ?_
  rintro _ T6 _ I6 J6 F6 ⟨rfl, rfl, f6, s6⟩
  replace hTx : T6 x = some (.inl 10) := by rw [f6.1 _ (by omega)]; simp (disch := omega) only [upT_lt]; exact hTx
  refine V.putR (b := (some _)) (pc := 111) dX11_init_111 fX11_71_10 (fun r h => by cases h; exact Or.inr ⟨rfl, rfl⟩) rfl (by first | exact hTx | (simp (disch := omega) only [upT_lt]; exact hTx)) ?_
  refine V.aload_n (pc := 114) dX11_init_114 rfl ?_
  refine V.room (bc := 54 + 1) (bs := 3630 + 4) (by decide) (by decide) ?_
  refine V.new (N := 4) (RX9, TX9, 4) (pc := 115) dX11_init_115 (ci := 8) rfl rfl kX11_75 iX9 jX9 ?_
  refine V.dup (pc := 118) dX11_init_118 rfl ?_
  refine V.room (bc := 52 + 2) (bs := 3618 + 12) (by decide) (by decide) ?_
  refine V.invI (mc := 2) (ms := 12) (as := []) (pc := 119) dX11_init_119 lX11_77 bX9_init nX9_init rfl rfl (n_storm (d := d + 1) (a := x + 46) upT_at rfl) (by omega) rfl (Nat.le_of_ble_eq_true rfl) ?_
  rintro _ T7 _ I7 J7 F7 ⟨rfl, rfl, f7, s7⟩
  replace hTx : T7 x = some (.inl 10) := by rw [f7.1 _ (by omega)]; simp (disch := omega) only [upT_lt]; exact hTx
  refine V.putR (b := (some _)) (pc := 122) dX11_init_122 fX11_78_10 (fun r h => by cases h; exact Or.inr ⟨rfl, rfl⟩) rfl (by first | exact hTx | (simp (disch := omega) only [upT_lt]; exact hTx)) ?_
  refine V.aload_n (pc := 125) dX11_init_125 rfl ?_
  refine V.sipush (v := 2001) (pc := 126) dX11_init_126 (by decide) ?_
  refine V.room (bc := 51 + 1) (bs := 1617 + 2001) (by decide) (by decide) ?_
  refine V.newa (ty := .int) (N := 2001) (pc := 129) dX11_init_129 rfl a_int (by decide) rfl rfl (by decide) (by decide) (by decide) ?_
  refine V.putR (b := (some _)) (pc := 131) dX11_init_131 fX11_82_10 (fun r h => by cases h; exact Or.inr ⟨rfl, rfl⟩) rfl (by first | exact hTx | (simp (disch := omega) only [upT_lt]; exact hTx)) ?_
  refine V.iconst (v := 0) (pc := 134) dX11_init_134 (by decide) ?_
  refine V.isn (pc := 135) dX11_init_135 (by decide) (st1_1 rfl) ?_
  refine V.iload_n (pc := 136) dX11_init_136 rfl ?_
  refine V.aload_n (pc := 137) dX11_init_137 rfl ?_
  refine V.getR (pc := 138) dX11_init_138 fX11_16_10 rfl (by first | exact hTx | (simp (disch := omega) only [upT_lt]; exact hTx)) (show _ = some (x + 21) from by first | (simp (disch := omega) only [up2_off, up2_ne, up2_same, clr_off, clr_row, f7.2.2.2.1, f6.2.2.2.1, f5.2.2.2.1, f4.2.2.2.1, f3.2.2.2.1, f2.2.2.2.1, f1.2.2.2.1]; done) | (simp (disch := omega) only [up2_off, up2_ne, up2_same, clr_off, clr_row, f7.2.2.2.1, f6.2.2.2.1, f5.2.2.2.1, f4.2.2.2.1, f3.2.2.2.1, f2.2.2.2.1, f1.2.2.2.1]; rfl)) ?_
  refine V.alen (pc := 141) dX11_init_141 (show _ = some (Sum.inr (FieldType.object "WheelYear$State", 2)) from by simp (disch := omega) only [upT_lt, upT_at, f7.1, f6.1, f5.1, f4.1, f3.1, f2.1]) ty_S (by rfl) ?_
  refine V.icmp_ge 164 (pc := 142) dX11_init_142 (by decide) (fun h142 => absurd h142 (by decide)) (fun h142 => ?_)
  refine V.aload_n (pc := 145) dX11_init_145 rfl ?_
  refine V.getR (pc := 146) dX11_init_146 fX11_16_10 rfl (by first | exact hTx | (simp (disch := omega) only [upT_lt]; exact hTx)) (show _ = some (x + 21) from by first | (simp (disch := omega) only [up2_off, up2_ne, up2_same, clr_off, clr_row, f7.2.2.2.1, f6.2.2.2.1, f5.2.2.2.1, f4.2.2.2.1, f3.2.2.2.1, f2.2.2.2.1, f1.2.2.2.1]; done) | (simp (disch := omega) only [up2_off, up2_ne, up2_same, clr_off, clr_row, f7.2.2.2.1, f6.2.2.2.1, f5.2.2.2.1, f4.2.2.2.1, f3.2.2.2.1, f2.2.2.2.1, f1.2.2.2.1]; rfl)) ?_
  refine V.iload_n (pc := 149) dX11_init_149 rfl ?_
  refine V.room (bc := 50 + 1) (bs := 1602 + 15) (by decide) (by decide) ?_
  refine V.new (N := 15) (RX8, TX8, 15) (pc := 150) dX11_init_150 (ci := 7) rfl rfl kX11_7 iX8 jX8 ?_
  refine V.dup (pc := 153) dX11_init_153 rfl ?_
  refine V.room (bc := 31 + 19) (bs := 1434 + 168) (by decide) (by decide) ?_
  refine V.invI (mc := 19) (ms := 168) (as := []) (pc := 154) dX11_init_154 lX11_9 bX8_init nX8_init rfl rfl (n_state (d := d + 0) (a := x + 50) upT_at rfl) (by omega) rfl (Nat.le_of_ble_eq_true rfl) ?_
  rintro _ T8 _ I8 J8 F8 ⟨rfl, rfl, f8, s8, z8⟩
  replace hTx : T8 x = some (.inl 10) := by rw [f8.1 _ (by omega)]; simp (disch := omega) only [upT_lt]; exact hTx
  refine V.aast' (k := 0) (r := (RX8, TX8, 15)) (ci := 7) (pc := 157) dX11_init_157 (a := x + 21) (N := 2) (show _ = some (Sum.inr (FieldType.object "WheelYear$State", 2)) from by simp (disch := omega) only [upT_lt, upT_at, f8.1, f7.1, f6.1, f5.1, f4.1, f3.1, f2.1]) ty_S s8.o rfl rfl (by decide) (by decide) ?_
  refine V.iinc (v := 1) (pc := 158) dX11_init_158 (by decide) rfl (by decide) (st1_1 rfl) ?_
  refine V.goto 136 (pc := 161) dX11_init_161 (by decide) ?_
  refine V.iload_n (pc := 136) dX11_init_136 rfl ?_
  refine V.aload_n (pc := 137) dX11_init_137 rfl ?_
  refine V.getR (pc := 138) dX11_init_138 fX11_16_10 rfl (by first | exact hTx | (simp (disch := omega) only [upT_lt]; exact hTx)) (show _ = some (x + 21) from by first | (simp (disch := omega) only [up2_off, up2_ne, up2_same, clr_off, clr_row, f8.2.2.2.1, f7.2.2.2.1, f6.2.2.2.1, f5.2.2.2.1, f4.2.2.2.1, f3.2.2.2.1, f2.2.2.2.1, f1.2.2.2.1]; done) | (simp (disch := omega) only [up2_off, up2_ne, up2_same, clr_off, clr_row, f8.2.2.2.1, f7.2.2.2.1, f6.2.2.2.1, f5.2.2.2.1, f4.2.2.2.1, f3.2.2.2.1, f2.2.2.2.1, f1.2.2.2.1]; rfl)) ?_
  refine V.alen (pc := 141) dX11_init_141 (show _ = some (Sum.inr (FieldType.object "WheelYear$State", 2)) from by simp (disch := omega) only [upT_lt, upT_at, f8.1, f7.1, f6.1, f5.1, f4.1, f3.1, f2.1]) ty_S (by rfl) ?_
  refine V.icmp_ge 164 (pc := 142) dX11_init_142 (by decide) (fun h142 => absurd h142 (by decide)) (fun h142 => ?_)
  refine V.aload_n (pc := 145) dX11_init_145 rfl ?_
  refine V.getR (pc := 146) dX11_init_146 fX11_16_10 rfl (by first | exact hTx | (simp (disch := omega) only [upT_lt]; exact hTx)) (show _ = some (x + 21) from by first | (simp (disch := omega) only [up2_off, up2_ne, up2_same, clr_off, clr_row, f8.2.2.2.1, f7.2.2.2.1, f6.2.2.2.1, f5.2.2.2.1, f4.2.2.2.1, f3.2.2.2.1, f2.2.2.2.1, f1.2.2.2.1]; done) | (simp (disch := omega) only [up2_off, up2_ne, up2_same, clr_off, clr_row, f8.2.2.2.1, f7.2.2.2.1, f6.2.2.2.1, f5.2.2.2.1, f4.2.2.2.1, f3.2.2.2.1, f2.2.2.2.1, f1.2.2.2.1]; rfl)) ?_
  refine V.iload_n (pc := 149) dX11_init_149 rfl ?_
  refine V.room (bc := 30 + 1) (bs := 1419 + 15) (by decide) (by decide) ?_
  refine V.new (N := 15) (RX8, TX8, 15) (pc := 150) dX11_init_150 (ci := 7) rfl rfl kX11_7 iX8 jX8 ?_
  refine V.dup (pc := 153) dX11_init_153 rfl ?_
  refine V.room (bc := 11 + 19) (bs := 1251 + 168) (by decide) (by decide) ?_
  refine V.invI (mc := 19) (ms := 168) (as := []) (pc := 154) dX11_init_154 lX11_9 bX8_init nX8_init rfl rfl (n_state (d := d + 0) (a := x + 70) upT_at rfl) (by omega) rfl (Nat.le_of_ble_eq_true rfl) ?_
  rintro _ T9 _ I9 J9 F9 ⟨rfl, rfl, f9, s9, z9⟩
  replace hTx : T9 x = some (.inl 10) := by rw [f9.1 _ (by omega)]; simp (disch := omega) only [upT_lt]; exact hTx
  refine V.aast' (k := 1) (r := (RX8, TX8, 15)) (ci := 7) (pc := 157) dX11_init_157 (a := x + 21) (N := 2) (show _ = some (Sum.inr (FieldType.object "WheelYear$State", 2)) from by simp (disch := omega) only [upT_lt, upT_at, f9.1, f8.1, f7.1, f6.1, f5.1, f4.1, f3.1, f2.1]) ty_S s9.o rfl rfl (by decide) (by decide) ?_
  refine V.iinc (v := 2) (pc := 158) dX11_init_158 (by decide) rfl (by decide) (st1_1 rfl) ?_
  refine V.goto 136 (pc := 161) dX11_init_161 (by decide) ?_
  refine V.iload_n (pc := 136) dX11_init_136 rfl ?_
  refine V.aload_n (pc := 137) dX11_init_137 rfl ?_
  refine V.getR (pc := 138) dX11_init_138 fX11_16_10 rfl (by first | exact hTx | (simp (disch := omega) only [upT_lt]; exact hTx)) (show _ = some (x + 21) from by first | (simp (disch := omega) only [up2_off, up2_ne, up2_same, clr_off, clr_row, f9.2.2.2.1, f8.2.2.2.1, f7.2.2.2.1, f6.2.2.2.1, f5.2.2.2.1, f4.2.2.2.1, f3.2.2.2.1, f2.2.2.2.1, f1.2.2.2.1]; done) | (simp (disch := omega) only [up2_off, up2_ne, up2_same, clr_off, clr_row, f9.2.2.2.1, f8.2.2.2.1, f7.2.2.2.1, f6.2.2.2.1, f5.2.2.2.1, f4.2.2.2.1, f3.2.2.2.1, f2.2.2.2.1, f1.2.2.2.1]; rfl)) ?_
  refine V.alen (pc := 141) dX11_init_141 (show _ = some (Sum.inr (FieldType.object "WheelYear$State", 2)) from by simp (disch := omega) only [upT_lt, upT_at, f9.1, f8.1, f7.1, f6.1, f5.1, f4.1, f3.1, f2.1]) ty_S (by rfl) ?_
  refine V.icmp_ge 164 (pc := 142) dX11_init_142 (by decide) (fun h142 => ?_) (fun h142 => absurd (by decide) h142)
  refine V.vret (pc := 164) dX11_init_164 rfl ?_
  skip
  have hS1 : SS T9 (up2 F9 (x + 21) 1 (some (x + 70))) (x + 1) := s1.reg (fun b h1 h2 => by simp (disch := omega) only [upT_lt, upT_at, f9.1, f8.1, f7.1, f6.1, f5.1, f4.1, f3.1, f2.1]) (fun b h1 h2 => by simp (disch := omega) only [up2_off, up2_ne, up2_same, clr_off, clr_row, f9.2.2.2.1, f8.2.2.2.1, f7.2.2.2.1, f6.2.2.2.1, f5.2.2.2.1, f4.2.2.2.1, f3.2.2.2.1, f2.2.2.2.1])
  have hS8 : SS T9 (up2 F9 (x + 21) 1 (some (x + 70))) (x + 50) := s8.reg (fun b h1 h2 => by simp (disch := omega) only [upT_lt, upT_at, f9.1]) (fun b h1 h2 => by simp (disch := omega) only [up2_off, up2_ne, up2_same, clr_off, clr_row, f9.2.2.2.1])
  have hS9 : SS T9 (up2 F9 (x + 21) 1 (some (x + 70))) (x + 70) := s9.reg (fun b h1 h2 => rfl) (fun b h1 h2 => up2_off (by omega))
  obtain ⟨⟨r1, r2, r3⟩, ⟨r4, r5⟩, ⟨r6, r7⟩, ⟨r8, r9⟩, ⟨r10, r11⟩, r12, r13⟩ := s2
  obtain ⟨k1, k2, k3⟩ := s3
  obtain ⟨p1, ⟨p2, p3⟩, p4, p5⟩ := s4
  obtain ⟨⟨c1, ⟨c2, c3⟩, c4, c5⟩, ⟨c6, c7⟩, c8, c9⟩ := s5
  obtain ⟨e1, e2, e3, e4, e5, e6, e7, e8, e9⟩ := s6
  obtain ⟨m1, m2, m3, m4, m5, m6⟩ := s7
  have hl7 : up2 F9 (x + 21) 1 (some (x + 70)) (x + 41) 7 = some (x + 45) := by simp (disch := omega) only [up2_off, up2_ne, up2_same, clr_off, clr_row, f9.2.2.2.1, f8.2.2.2.1, f7.2.2.2.1]; exact e8
  have hl8 : T9 (x + 45) = some (.inr (.int, 0)) := by simp (disch := omega) only [upT_lt, upT_at, f9.1, f8.1, f7.1]; exact e9
  have hno : ∀ b, T9 b = some (.inl 2) → T b = some (.inl 2) := fun b hb => by
    have q8 := upT_in (f9.2.2.2.2 b hb) (by simp)
    have q7 := upT_in (upT_in (f8.2.2.2.2 b q8) (by simp)) (by simp)
    have q6 := upT_in (f7.2.2.2.2 b q7) (by simp)
    have q5 := upT_in (f6.2.2.2.2 b q6) (by simp)
    have q4 := upT_in (f5.2.2.2.2 b q5) (by simp)
    have q3 := upT_in (f4.2.2.2.2 b q4) (by simp)
    have q2 := upT_in (f3.2.2.2.2 b q3) (by simp)
    have q1 := upT_in (upT_in (upT_in (upT_in (f2.2.2.2.2 b q2) (by simp)) (by simp)) (by simp)) (by simp)
    exact upT_in (f1.2.2.2.2 b q1) (by simp)
  have hXS0 : XS0 T9 (up2 F9 (x + 21) 1 (some (x + 70))) x := ⟨hTx, by first | (simp (disch := omega) only [up2_off, up2_ne, up2_same, clr_off, clr_row, f9.2.2.2.1, f8.2.2.2.1, f7.2.2.2.1, f6.2.2.2.1, f5.2.2.2.1, f4.2.2.2.1, f3.2.2.2.1, f2.2.2.2.1, f1.2.2.2.1]; done) | (simp (disch := omega) only [up2_off, up2_ne, up2_same, clr_off, clr_row, f9.2.2.2.1, f8.2.2.2.1, f7.2.2.2.1, f6.2.2.2.1, f5.2.2.2.1, f4.2.2.2.1, f3.2.2.2.1, f2.2.2.2.1, f1.2.2.2.1]; rfl), hS1, ⟨by first | (simp (disch := omega) only [up2_off, up2_ne, up2_same, clr_off, clr_row, f9.2.2.2.1, f8.2.2.2.1, f7.2.2.2.1, f6.2.2.2.1, f5.2.2.2.1, f4.2.2.2.1, f3.2.2.2.1, f2.2.2.2.1, f1.2.2.2.1]; done) | (simp (disch := omega) only [up2_off, up2_ne, up2_same, clr_off, clr_row, f9.2.2.2.1, f8.2.2.2.1, f7.2.2.2.1, f6.2.2.2.1, f5.2.2.2.1, f4.2.2.2.1, f3.2.2.2.1, f2.2.2.2.1, f1.2.2.2.1]; rfl), by first | (simp (disch := omega) only [upT_lt, upT_at, f9.1, f8.1, f7.1, f6.1, f5.1, f4.1, f3.1, f2.1, f1.1]; done) | (simp (disch := omega) only [upT_lt, upT_at, f9.1, f8.1, f7.1, f6.1, f5.1, f4.1, f3.1, f2.1, f1.1]; rfl)⟩, ⟨by first | (simp (disch := omega) only [up2_off, up2_ne, up2_same, clr_off, clr_row, f9.2.2.2.1, f8.2.2.2.1, f7.2.2.2.1, f6.2.2.2.1, f5.2.2.2.1, f4.2.2.2.1, f3.2.2.2.1, f2.2.2.2.1, f1.2.2.2.1]; done) | (simp (disch := omega) only [up2_off, up2_ne, up2_same, clr_off, clr_row, f9.2.2.2.1, f8.2.2.2.1, f7.2.2.2.1, f6.2.2.2.1, f5.2.2.2.1, f4.2.2.2.1, f3.2.2.2.1, f2.2.2.2.1, f1.2.2.2.1]; rfl), up2_same⟩, hS8, hS9, ⟨by first | (simp (disch := omega) only [up2_off, up2_ne, up2_same, clr_off, clr_row, f9.2.2.2.1, f8.2.2.2.1, f7.2.2.2.1, f6.2.2.2.1, f5.2.2.2.1, f4.2.2.2.1, f3.2.2.2.1, f2.2.2.2.1, f1.2.2.2.1]; done) | (simp (disch := omega) only [up2_off, up2_ne, up2_same, clr_off, clr_row, f9.2.2.2.1, f8.2.2.2.1, f7.2.2.2.1, f6.2.2.2.1, f5.2.2.2.1, f4.2.2.2.1, f3.2.2.2.1, f2.2.2.2.1, f1.2.2.2.1]; rfl), by first | (simp (disch := omega) only [upT_lt, upT_at, f9.1, f8.1, f7.1, f6.1, f5.1, f4.1, f3.1, f2.1, f1.1]; done) | (simp (disch := omega) only [upT_lt, upT_at, f9.1, f8.1, f7.1, f6.1, f5.1, f4.1, f3.1, f2.1, f1.1]; rfl)⟩, ⟨by first | (simp (disch := omega) only [up2_off, up2_ne, up2_same, clr_off, clr_row, f9.2.2.2.1, f8.2.2.2.1, f7.2.2.2.1, f6.2.2.2.1, f5.2.2.2.1, f4.2.2.2.1, f3.2.2.2.1, f2.2.2.2.1, f1.2.2.2.1]; done) | (simp (disch := omega) only [up2_off, up2_ne, up2_same, clr_off, clr_row, f9.2.2.2.1, f8.2.2.2.1, f7.2.2.2.1, f6.2.2.2.1, f5.2.2.2.1, f4.2.2.2.1, f3.2.2.2.1, f2.2.2.2.1, f1.2.2.2.1]; rfl), by first | (simp (disch := omega) only [upT_lt, upT_at, f9.1, f8.1, f7.1, f6.1, f5.1, f4.1, f3.1, f2.1, f1.1]; done) | (simp (disch := omega) only [upT_lt, upT_at, f9.1, f8.1, f7.1, f6.1, f5.1, f4.1, f3.1, f2.1, f1.1]; rfl)⟩, ⟨by first | (simp (disch := omega) only [up2_off, up2_ne, up2_same, clr_off, clr_row, f9.2.2.2.1, f8.2.2.2.1, f7.2.2.2.1, f6.2.2.2.1, f5.2.2.2.1, f4.2.2.2.1, f3.2.2.2.1, f2.2.2.2.1, f1.2.2.2.1]; done) | (simp (disch := omega) only [up2_off, up2_ne, up2_same, clr_off, clr_row, f9.2.2.2.1, f8.2.2.2.1, f7.2.2.2.1, f6.2.2.2.1, f5.2.2.2.1, f4.2.2.2.1, f3.2.2.2.1, f2.2.2.2.1, f1.2.2.2.1]; rfl), by simp (disch := omega) only [upT_lt, upT_at, f9.1, f8.1, f7.1, f6.1, f5.1, f4.1, f3.1]; exact r1⟩, ⟨by simp (disch := omega) only [up2_off, up2_ne, up2_same, clr_off, clr_row, f9.2.2.2.1, f8.2.2.2.1, f7.2.2.2.1, f6.2.2.2.1, f5.2.2.2.1, f4.2.2.2.1, f3.2.2.2.1]; exact r2, by simp (disch := omega) only [upT_lt, upT_at, f9.1, f8.1, f7.1, f6.1, f5.1, f4.1, f3.1]; exact r3⟩, ⟨by simp (disch := omega) only [up2_off, up2_ne, up2_same, clr_off, clr_row, f9.2.2.2.1, f8.2.2.2.1, f7.2.2.2.1, f6.2.2.2.1, f5.2.2.2.1, f4.2.2.2.1, f3.2.2.2.1]; exact r4, by simp (disch := omega) only [upT_lt, upT_at, f9.1, f8.1, f7.1, f6.1, f5.1, f4.1, f3.1]; exact r5⟩, ⟨by simp (disch := omega) only [up2_off, up2_ne, up2_same, clr_off, clr_row, f9.2.2.2.1, f8.2.2.2.1, f7.2.2.2.1, f6.2.2.2.1, f5.2.2.2.1, f4.2.2.2.1, f3.2.2.2.1]; exact r6, by simp (disch := omega) only [upT_lt, upT_at, f9.1, f8.1, f7.1, f6.1, f5.1, f4.1, f3.1]; exact r7⟩, ⟨by simp (disch := omega) only [up2_off, up2_ne, up2_same, clr_off, clr_row, f9.2.2.2.1, f8.2.2.2.1, f7.2.2.2.1, f6.2.2.2.1, f5.2.2.2.1, f4.2.2.2.1, f3.2.2.2.1]; exact r8, by simp (disch := omega) only [upT_lt, upT_at, f9.1, f8.1, f7.1, f6.1, f5.1, f4.1, f3.1]; exact r9⟩, ⟨by simp (disch := omega) only [up2_off, up2_ne, up2_same, clr_off, clr_row, f9.2.2.2.1, f8.2.2.2.1, f7.2.2.2.1, f6.2.2.2.1, f5.2.2.2.1, f4.2.2.2.1, f3.2.2.2.1]; exact r10, by simp (disch := omega) only [upT_lt, upT_at, f9.1, f8.1, f7.1, f6.1, f5.1, f4.1, f3.1]; exact r11⟩, ⟨by simp (disch := omega) only [up2_off, up2_ne, up2_same, clr_off, clr_row, f9.2.2.2.1, f8.2.2.2.1, f7.2.2.2.1, f6.2.2.2.1, f5.2.2.2.1, f4.2.2.2.1, f3.2.2.2.1]; exact r12, by simp (disch := omega) only [upT_lt, upT_at, f9.1, f8.1, f7.1, f6.1, f5.1, f4.1, f3.1]; exact r13⟩, ⟨by first | (simp (disch := omega) only [up2_off, up2_ne, up2_same, clr_off, clr_row, f9.2.2.2.1, f8.2.2.2.1, f7.2.2.2.1, f6.2.2.2.1, f5.2.2.2.1, f4.2.2.2.1, f3.2.2.2.1, f2.2.2.2.1, f1.2.2.2.1]; done) | (simp (disch := omega) only [up2_off, up2_ne, up2_same, clr_off, clr_row, f9.2.2.2.1, f8.2.2.2.1, f7.2.2.2.1, f6.2.2.2.1, f5.2.2.2.1, f4.2.2.2.1, f3.2.2.2.1, f2.2.2.2.1, f1.2.2.2.1]; rfl), by simp (disch := omega) only [upT_lt, upT_at, f9.1, f8.1, f7.1, f6.1, f5.1, f4.1]; exact k1⟩, ⟨by simp (disch := omega) only [up2_off, up2_ne, up2_same, clr_off, clr_row, f9.2.2.2.1, f8.2.2.2.1, f7.2.2.2.1, f6.2.2.2.1, f5.2.2.2.1, f4.2.2.2.1]; exact k2, by simp (disch := omega) only [upT_lt, upT_at, f9.1, f8.1, f7.1, f6.1, f5.1, f4.1]; exact k3⟩, ⟨by first | (simp (disch := omega) only [up2_off, up2_ne, up2_same, clr_off, clr_row, f9.2.2.2.1, f8.2.2.2.1, f7.2.2.2.1, f6.2.2.2.1, f5.2.2.2.1, f4.2.2.2.1, f3.2.2.2.1, f2.2.2.2.1, f1.2.2.2.1]; done) | (simp (disch := omega) only [up2_off, up2_ne, up2_same, clr_off, clr_row, f9.2.2.2.1, f8.2.2.2.1, f7.2.2.2.1, f6.2.2.2.1, f5.2.2.2.1, f4.2.2.2.1, f3.2.2.2.1, f2.2.2.2.1, f1.2.2.2.1]; rfl), by simp (disch := omega) only [upT_lt, upT_at, f9.1, f8.1, f7.1, f6.1, f5.1]; exact p1⟩, ⟨by simp (disch := omega) only [up2_off, up2_ne, up2_same, clr_off, clr_row, f9.2.2.2.1, f8.2.2.2.1, f7.2.2.2.1, f6.2.2.2.1, f5.2.2.2.1]; exact p2, by simp (disch := omega) only [upT_lt, upT_at, f9.1, f8.1, f7.1, f6.1, f5.1]; exact p3⟩, ⟨by simp (disch := omega) only [up2_off, up2_ne, up2_same, clr_off, clr_row, f9.2.2.2.1, f8.2.2.2.1, f7.2.2.2.1, f6.2.2.2.1, f5.2.2.2.1]; exact p4, by simp (disch := omega) only [upT_lt, upT_at, f9.1, f8.1, f7.1, f6.1, f5.1]; exact p5⟩, ⟨by first | (simp (disch := omega) only [up2_off, up2_ne, up2_same, clr_off, clr_row, f9.2.2.2.1, f8.2.2.2.1, f7.2.2.2.1, f6.2.2.2.1, f5.2.2.2.1, f4.2.2.2.1, f3.2.2.2.1, f2.2.2.2.1, f1.2.2.2.1]; done) | (simp (disch := omega) only [up2_off, up2_ne, up2_same, clr_off, clr_row, f9.2.2.2.1, f8.2.2.2.1, f7.2.2.2.1, f6.2.2.2.1, f5.2.2.2.1, f4.2.2.2.1, f3.2.2.2.1, f2.2.2.2.1, f1.2.2.2.1]; rfl), by simp (disch := omega) only [upT_lt, upT_at, f9.1, f8.1, f7.1, f6.1]; exact c1⟩, ⟨by simp (disch := omega) only [up2_off, up2_ne, up2_same, clr_off, clr_row, f9.2.2.2.1, f8.2.2.2.1, f7.2.2.2.1, f6.2.2.2.1]; exact c2, by simp (disch := omega) only [upT_lt, upT_at, f9.1, f8.1, f7.1, f6.1]; exact c3⟩, ⟨by simp (disch := omega) only [up2_off, up2_ne, up2_same, clr_off, clr_row, f9.2.2.2.1, f8.2.2.2.1, f7.2.2.2.1, f6.2.2.2.1]; exact c4, by simp (disch := omega) only [upT_lt, upT_at, f9.1, f8.1, f7.1, f6.1]; exact c5⟩, ⟨by simp (disch := omega) only [up2_off, up2_ne, up2_same, clr_off, clr_row, f9.2.2.2.1, f8.2.2.2.1, f7.2.2.2.1, f6.2.2.2.1]; exact c6, by simp (disch := omega) only [upT_lt, upT_at, f9.1, f8.1, f7.1, f6.1]; exact c7⟩, ⟨by simp (disch := omega) only [up2_off, up2_ne, up2_same, clr_off, clr_row, f9.2.2.2.1, f8.2.2.2.1, f7.2.2.2.1, f6.2.2.2.1]; exact c8, by simp (disch := omega) only [upT_lt, upT_at, f9.1, f8.1, f7.1, f6.1]; exact c9⟩, ⟨by first | (simp (disch := omega) only [up2_off, up2_ne, up2_same, clr_off, clr_row, f9.2.2.2.1, f8.2.2.2.1, f7.2.2.2.1, f6.2.2.2.1, f5.2.2.2.1, f4.2.2.2.1, f3.2.2.2.1, f2.2.2.2.1, f1.2.2.2.1]; done) | (simp (disch := omega) only [up2_off, up2_ne, up2_same, clr_off, clr_row, f9.2.2.2.1, f8.2.2.2.1, f7.2.2.2.1, f6.2.2.2.1, f5.2.2.2.1, f4.2.2.2.1, f3.2.2.2.1, f2.2.2.2.1, f1.2.2.2.1]; rfl), by simp (disch := omega) only [upT_lt, upT_at, f9.1, f8.1, f7.1]; exact e1⟩, ⟨by simp (disch := omega) only [up2_off, up2_ne, up2_same, clr_off, clr_row, f9.2.2.2.1, f8.2.2.2.1, f7.2.2.2.1]; exact e2, by simp (disch := omega) only [upT_lt, upT_at, f9.1, f8.1, f7.1]; exact e3⟩, ⟨by simp (disch := omega) only [up2_off, up2_ne, up2_same, clr_off, clr_row, f9.2.2.2.1, f8.2.2.2.1, f7.2.2.2.1]; exact e4, by simp (disch := omega) only [upT_lt, upT_at, f9.1, f8.1, f7.1]; exact e5⟩, ⟨by simp (disch := omega) only [up2_off, up2_ne, up2_same, clr_off, clr_row, f9.2.2.2.1, f8.2.2.2.1, f7.2.2.2.1]; exact e6, by simp (disch := omega) only [upT_lt, upT_at, f9.1, f8.1, f7.1]; exact e7⟩, ⟨by first | (simp (disch := omega) only [up2_off, up2_ne, up2_same, clr_off, clr_row, f9.2.2.2.1, f8.2.2.2.1, f7.2.2.2.1, f6.2.2.2.1, f5.2.2.2.1, f4.2.2.2.1, f3.2.2.2.1, f2.2.2.2.1, f1.2.2.2.1]; done) | (simp (disch := omega) only [up2_off, up2_ne, up2_same, clr_off, clr_row, f9.2.2.2.1, f8.2.2.2.1, f7.2.2.2.1, f6.2.2.2.1, f5.2.2.2.1, f4.2.2.2.1, f3.2.2.2.1, f2.2.2.2.1, f1.2.2.2.1]; rfl), by simp (disch := omega) only [upT_lt, upT_at, f9.1, f8.1]; exact m1⟩, ⟨by simp (disch := omega) only [up2_off, up2_ne, up2_same, clr_off, clr_row, f9.2.2.2.1, f8.2.2.2.1]; exact m2, by simp (disch := omega) only [upT_lt, upT_at, f9.1, f8.1]; exact m3⟩, ⟨by simp (disch := omega) only [up2_off, up2_ne, up2_same, clr_off, clr_row, f9.2.2.2.1, f8.2.2.2.1]; exact m4, by simp (disch := omega) only [upT_lt, upT_at, f9.1, f8.1]; exact m5⟩, ⟨by first | (simp (disch := omega) only [up2_off, up2_ne, up2_same, clr_off, clr_row, f9.2.2.2.1, f8.2.2.2.1, f7.2.2.2.1, f6.2.2.2.1, f5.2.2.2.1, f4.2.2.2.1, f3.2.2.2.1, f2.2.2.2.1, f1.2.2.2.1]; done) | (simp (disch := omega) only [up2_off, up2_ne, up2_same, clr_off, clr_row, f9.2.2.2.1, f8.2.2.2.1, f7.2.2.2.1, f6.2.2.2.1, f5.2.2.2.1, f4.2.2.2.1, f3.2.2.2.1, f2.2.2.2.1, f1.2.2.2.1]; rfl), by first | (simp (disch := omega) only [upT_lt, upT_at, f9.1, f8.1, f7.1, f6.1, f5.1, f4.1, f3.1, f2.1, f1.1]; done) | (simp (disch := omega) only [upT_lt, upT_at, f9.1, f8.1, f7.1, f6.1, f5.1, f4.1, f3.1, f2.1, f1.1]; rfl)⟩⟩
  have hz1 : StZ I9 (up2 F9 (x + 21) 1 (some (x + 70))) (x + 1) := ⟨by simp (disch := omega) only [up2_off, up2_ne, up2_same, clr_off, clr_row, f9.2.1, f8.2.1, f7.2.1, f6.2.1, f5.2.1, f4.2.1, f3.2.1, f2.2.1]; exact z1.1, by simp (disch := omega) only [up2_off, up2_ne, up2_same, clr_off, clr_row, f9.2.1, f8.2.1, f7.2.1, f6.2.1, f5.2.1, f4.2.1, f3.2.1, f2.2.1]; exact z1.2.1, by simp (disch := omega) only [up2_off, up2_ne, up2_same, clr_off, clr_row, f9.2.1, f8.2.1, f7.2.1, f6.2.1, f5.2.1, f4.2.1, f3.2.1, f2.2.1]; exact z1.2.2.1, by simp (disch := omega) only [up2_off, up2_ne, up2_same, clr_off, clr_row, f9.2.1, f8.2.1, f7.2.1, f6.2.1, f5.2.1, f4.2.1, f3.2.1, f2.2.1]; exact z1.2.2.2.1, by simp (disch := omega) only [up2_off, up2_ne, up2_same, clr_off, clr_row, f9.2.1, f8.2.1, f7.2.1, f6.2.1, f5.2.1, f4.2.1, f3.2.1, f2.2.1]; exact z1.2.2.2.2.1, by simp (disch := omega) only [up2_off, up2_ne, up2_same, clr_off, clr_row, f9.2.1, f8.2.1, f7.2.1, f6.2.1, f5.2.1, f4.2.1, f3.2.1, f2.2.1]; exact z1.2.2.2.2.2.1, by simp (disch := omega) only [up2_off, up2_ne, up2_same, clr_off, clr_row, f9.2.1, f8.2.1, f7.2.1, f6.2.1, f5.2.1, f4.2.1, f3.2.1, f2.2.1]; exact z1.2.2.2.2.2.2.1, by simp (disch := omega) only [up2_off, up2_ne, up2_same, clr_off, clr_row, f9.2.1, f8.2.1, f7.2.1, f6.2.1, f5.2.1, f4.2.1, f3.2.1, f2.2.1]; exact z1.2.2.2.2.2.2.2.1, fun j => by simp (disch := omega) only [up2_off, up2_ne, up2_same, clr_off, clr_row, f9.2.1, f8.2.1, f7.2.1, f6.2.1, f5.2.1, f4.2.1, f3.2.1, f2.2.1]; exact z1.2.2.2.2.2.2.2.2.1 j, fun j => by simp (disch := omega) only [up2_off, up2_ne, up2_same, clr_off, clr_row, f9.2.2.2.1, f8.2.2.2.1, f7.2.2.2.1, f6.2.2.2.1, f5.2.2.2.1, f4.2.2.2.1, f3.2.2.2.1, f2.2.2.2.1]; exact z1.2.2.2.2.2.2.2.2.2 j⟩
  have i8 : I9 (x + 50) 0 = 0 := by simp (disch := omega) only [up2_off, up2_ne, up2_same, clr_off, clr_row, f9.2.1]; exact z8.1
  have i81 : ∀ j, up2 F9 (x + 21) 1 (some (x + 70)) (x + 53) j = none := fun j => by simp (disch := omega) only [up2_off, up2_ne, up2_same, clr_off, clr_row, f9.2.2.2.1]; exact z8.2.2.2.2.2.2.2.2.2 j
  have i91 : ∀ j, up2 F9 (x + 21) 1 (some (x + 70)) (x + 73) j = none := fun j => by rw [up2_off (by omega)]; exact z9.2.2.2.2.2.2.2.2.2 j
  have hRep : RepX T9 I9 J9 (up2 F9 (x + 21) 1 (some (x + 70))) x A0 := ⟨⟨by first | (simp (disch := omega) only [up2_off, up2_ne, up2_same, clr_off, clr_row, f9.2.1, f8.2.1, f7.2.1, f6.2.1, f5.2.1, f4.2.1, f3.2.1, f2.2.1, f1.2.1]; done) | (simp (disch := omega) only [up2_off, up2_ne, up2_same, clr_off, clr_row, f9.2.1, f8.2.1, f7.2.1, f6.2.1, f5.2.1, f4.2.1, f3.2.1, f2.2.1, f1.2.1]; rfl), by first | (simp (disch := omega) only [up2_off, up2_ne, up2_same, clr_off, clr_row, f9.2.1, f8.2.1, f7.2.1, f6.2.1, f5.2.1, f4.2.1, f3.2.1, f2.2.1, f1.2.1]; done) | (simp (disch := omega) only [up2_off, up2_ne, up2_same, clr_off, clr_row, f9.2.1, f8.2.1, f7.2.1, f6.2.1, f5.2.1, f4.2.1, f3.2.1, f2.2.1, f1.2.1]; rfl), by first | (simp (disch := omega) only [up2_off, up2_ne, up2_same, clr_off, clr_row, f9.2.1, f8.2.1, f7.2.1, f6.2.1, f5.2.1, f4.2.1, f3.2.1, f2.2.1, f1.2.1]; done) | (simp (disch := omega) only [up2_off, up2_ne, up2_same, clr_off, clr_row, f9.2.1, f8.2.1, f7.2.1, f6.2.1, f5.2.1, f4.2.1, f3.2.1, f2.2.1, f1.2.1]; rfl), by first | (simp (disch := omega) only [up2_off, up2_ne, up2_same, clr_off, clr_row, f9.2.1, f8.2.1, f7.2.1, f6.2.1, f5.2.1, f4.2.1, f3.2.1, f2.2.1, f1.2.1]; done) | (simp (disch := omega) only [up2_off, up2_ne, up2_same, clr_off, clr_row, f9.2.1, f8.2.1, f7.2.1, f6.2.1, f5.2.1, f4.2.1, f3.2.1, f2.2.1, f1.2.1]; rfl)⟩, ⟨by first | (simp (disch := omega) only [up2_off, up2_ne, up2_same, clr_off, clr_row, f9.2.1, f8.2.1, f7.2.1, f6.2.1, f5.2.1, f4.2.1, f3.2.1, f2.2.1, f1.2.1]; done) | (simp (disch := omega) only [up2_off, up2_ne, up2_same, clr_off, clr_row, f9.2.1, f8.2.1, f7.2.1, f6.2.1, f5.2.1, f4.2.1, f3.2.1, f2.2.1, f1.2.1]; rfl), by first | (simp (disch := omega) only [up2_off, up2_ne, up2_same, clr_off, clr_row, f9.2.1, f8.2.1, f7.2.1, f6.2.1, f5.2.1, f4.2.1, f3.2.1, f2.2.1, f1.2.1]; done) | (simp (disch := omega) only [up2_off, up2_ne, up2_same, clr_off, clr_row, f9.2.1, f8.2.1, f7.2.1, f6.2.1, f5.2.1, f4.2.1, f3.2.1, f2.2.1, f1.2.1]; rfl), by first | (simp (disch := omega) only [up2_off, up2_ne, up2_same, clr_off, clr_row, f9.2.1, f8.2.1, f7.2.1, f6.2.1, f5.2.1, f4.2.1, f3.2.1, f2.2.1, f1.2.1]; done) | (simp (disch := omega) only [up2_off, up2_ne, up2_same, clr_off, clr_row, f9.2.1, f8.2.1, f7.2.1, f6.2.1, f5.2.1, f4.2.1, f3.2.1, f2.2.1, f1.2.1]; rfl), by first | (simp (disch := omega) only [up2_off, up2_ne, up2_same, clr_off, clr_row, f9.2.1, f8.2.1, f7.2.1, f6.2.1, f5.2.1, f4.2.1, f3.2.1, f2.2.1, f1.2.1]; done) | (simp (disch := omega) only [up2_off, up2_ne, up2_same, clr_off, clr_row, f9.2.1, f8.2.1, f7.2.1, f6.2.1, f5.2.1, f4.2.1, f3.2.1, f2.2.1, f1.2.1]; rfl)⟩, hz1.st, ⟨⟨i8, fun c hc => (by cases hc)⟩, z9.1, fun c hc => (by cases hc)⟩, ⟨fun i _ => Or.inl (i81 i), fun i _ => Or.inl (i91 i)⟩, fun i t hi => (by cases hi), by simp (disch := omega) only [up2_off, up2_ne, up2_same, clr_off, clr_row, f9.2.1, f8.2.1]; exact m6, fun h y hy => (by cases hy)⟩
  refine ⟨rfl, rfl, ⟨fun b hb => by simp (disch := omega) only [upT_lt, upT_at, f9.1, f8.1, f7.1, f6.1, f5.1, f4.1, f3.1, f2.1, f1.1], fun b hb => by simp (disch := omega) only [up2_off, up2_ne, up2_same, clr_off, clr_row, f9.2.1, f8.2.1, f7.2.1, f6.2.1, f5.2.1, f4.2.1, f3.2.1, f2.2.1, f1.2.1], fun b hb => by simp (disch := omega) only [up2_off, up2_ne, up2_same, clr_off, clr_row, f9.2.2.1, f8.2.2.1, f7.2.2.1, f6.2.2.1, f5.2.2.1, f4.2.2.1, f3.2.2.1, f2.2.2.1, f1.2.2.1], fun b hb => by simp (disch := omega) only [up2_off, up2_ne, up2_same, clr_off, clr_row, f9.2.2.2.1, f8.2.2.2.1, f7.2.2.2.1, f6.2.2.2.1, f5.2.2.2.1, f4.2.2.2.1, f3.2.2.2.1, f2.2.2.2.1, f1.2.2.2.1], hno⟩, ⟨hXS0, x + 45, 0, hl7, hl8, by omega, Or.inl rfl, fun a ha => absurd (hno a ha) (hl2 a)⟩, hRep, x + 45, hl7, hl8⟩
