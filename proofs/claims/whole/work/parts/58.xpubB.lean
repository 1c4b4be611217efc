theorem x_takeFrom {g : gG} {d : Nat} {T : mT} {n : Nat} {I : mI} {J : mJ} {F : mF} {u s : Nat} (hS : SS T F u) (hS2 : SS T F s) (hds : u + 20 ≤ s ∨ s + 20 ≤ u) (hlw : ∀ i, i < 6 → F (s + 3) i = none ∨ ∃ a, F (s + 3) i = some a ∧ T a = some (.inl 2)) : Ct g mX8_takeFrom (d + 2) [.ref u, .ref s] 0 0 T n I J F (fun r' T' n' I' J' F' => r' = none ∧ T' = T ∧ n' = n ∧ StC I J F I' J' F' u s) := by
  refine Ct.ofV (k := 3) (by decide) (Nat.le_of_ble_eq_true rfl) ?_
  show V g mX8_takeFrom (d + 2) _ 0 0 0 [some (.ref u), some (.ref s), none, none, none] [] T n I J F
  have hTs := hS2.o
  have hFs1 := hS2.f1
  have hTs1 := hS2.t1
  have hFs3 := hS2.f3
  have hTs3 := hS2.t3
  have hFs6 := hS2.f6
  have hTs6 := hS2.t6
  have hFs9 := hS2.f9
  have hTs9 := hS2.t9
  have hFs10 := hS2.f10
  have hTs10 := hS2.t10
  have hFs11 := hS2.f11
  have hTs11 := hS2.t11
  have hFs13 := hS2.f13
  have hTs13 := hS2.t13
  refine V.iconst (v := 0) (pc := 0) dX8_takeFrom_0 (by decide) ?_
  refine V.isn (pc := 1) dX8_takeFrom_1 (by decide) (st1_2 rfl) ?_
  refine xl_hands hS hS2 hds (fun I2 J2 g1 g2 => ?_) 6 0 I J (by omega) ⟨fun _ _ => ⟨rfl, rfl⟩, fun h hh => absurd hh (by omega), fun _ _ _ => ⟨rfl, rfl⟩⟩
  refine V.aload_n (pc := 44) dX8_takeFrom_44 rfl ?_
  refine V.aload_n (pc := 45) dX8_takeFrom_45 rfl ?_
  refine V.getI (pc := 46) dX8_takeFrom_46 fX8_21_7 rfl (by assumption) ?_
  refine V.putI (pc := 49) dX8_takeFrom_49 fX8_21_7 (fun r h => by cases h; exact Or.inl rfl) rfl hS.o ?_
  refine V.aload_n (pc := 52) dX8_takeFrom_52 rfl ?_
  refine V.getR (pc := 53) dX8_takeFrom_53 fX8_25_7 rfl (by assumption) (by assumption) ?_
  refine V.iconst (v := 0) (pc := 56) dX8_takeFrom_56 (by decide) ?_
  refine V.aload_n (pc := 57) dX8_takeFrom_57 rfl ?_
  refine V.getR (pc := 58) dX8_takeFrom_58 fX8_25_7 rfl hS.o hS.f3 ?_
  refine V.iconst (v := 0) (pc := 61) dX8_takeFrom_61 (by decide) ?_
  refine V.bipush (v := 12) (pc := 62) dX8_takeFrom_62 (by decide) ?_
  refine V.copy0 (K := 12) (pc := 64) dX8_takeFrom_64 lX8_70 (by omega) (Nat.le_of_ble_eq_true rfl) hS2.t3 hS.t3 rfl (by decide) (by decide) (by decide) ?_
  refine V.aload_n (pc := 67) dX8_takeFrom_67 rfl ?_
  refine V.aload_n (pc := 68) dX8_takeFrom_68 rfl ?_
  refine V.getI (pc := 69) dX8_takeFrom_69 fX8_29_7 rfl (by assumption) ?_
  refine V.putI (pc := 72) dX8_takeFrom_72 fX8_29_7 (fun r h => by cases h; exact Or.inl rfl) rfl hS.o ?_
  refine V.aload_n (pc := 75) dX8_takeFrom_75 rfl ?_
  refine V.aload_n (pc := 76) dX8_takeFrom_76 rfl ?_
  refine V.getI (pc := 77) dX8_takeFrom_77 fX8_32_7 rfl (by assumption) ?_
  refine V.putI (pc := 80) dX8_takeFrom_80 fX8_32_7 (fun r h => by cases h; exact Or.inl rfl) rfl hS.o ?_
  refine V.iconst (v := 0) (pc := 83) dX8_takeFrom_83 (by decide) ?_
  refine V.isn (pc := 84) dX8_takeFrom_84 (by decide) (st1_2 rfl) ?_
  refine xl_laws hS hS2 hds hlw (fun F2 f1 f2 => ?_) 6 0 F (by omega) ⟨fun _ _ => rfl, fun i hi => absurd hi (by omega)⟩
  have hS0 := hS
  have hS20 := hS2
  clear hS hS2
  have hS := SS.congr hS0 f1 (by omega)
  have hS2 := SS.congr hS20 f1 (by omega)
  have hGs9 := hS2.f9
  have hGs10 := hS2.f10
  have hGs11 := hS2.f11
  have hGs13 := hS2.f13
  refine V.aload_n (pc := 109) dX8_takeFrom_109 rfl ?_
  refine V.aload_n (pc := 110) dX8_takeFrom_110 rfl ?_
  refine V.getI (pc := 111) dX8_takeFrom_111 fX8_41_7 rfl (by assumption) ?_
  refine V.putI (pc := 114) dX8_takeFrom_114 fX8_41_7 (fun r h => by cases h; exact Or.inl rfl) rfl hS.o ?_
  refine V.aload_n (pc := 117) dX8_takeFrom_117 rfl ?_
  refine V.aload_n (pc := 118) dX8_takeFrom_118 rfl ?_
  refine V.getI (pc := 119) dX8_takeFrom_119 fX8_44_7 rfl (by assumption) ?_
  refine V.putI (pc := 122) dX8_takeFrom_122 fX8_44_7 (fun r h => by cases h; exact Or.inl rfl) rfl hS.o ?_
  refine V.aload_n (pc := 125) dX8_takeFrom_125 rfl ?_
  refine V.getR (pc := 126) dX8_takeFrom_126 fX8_47_7 rfl (by assumption) (by assumption) ?_
  refine V.iconst (v := 0) (pc := 129) dX8_takeFrom_129 (by decide) ?_
  refine V.aload_n (pc := 130) dX8_takeFrom_130 rfl ?_
  refine V.getR (pc := 131) dX8_takeFrom_131 fX8_47_7 rfl hS.o hS.f9 ?_
  refine V.iconst (v := 0) (pc := 134) dX8_takeFrom_134 (by decide) ?_
  refine V.bipush (v := 10) (pc := 135) dX8_takeFrom_135 (by decide) ?_
  refine V.copy0 (K := 10) (pc := 137) dX8_takeFrom_137 lX8_70 (by omega) (Nat.le_of_ble_eq_true rfl) hS2.t9 hS.t9 rfl (by decide) (by decide) (by decide) ?_
  refine V.aload_n (pc := 140) dX8_takeFrom_140 rfl ?_
  refine V.getR (pc := 141) dX8_takeFrom_141 fX8_50_7 rfl (by assumption) (by assumption) ?_
  refine V.iconst (v := 0) (pc := 144) dX8_takeFrom_144 (by decide) ?_
  refine V.aload_n (pc := 145) dX8_takeFrom_145 rfl ?_
  refine V.getR (pc := 146) dX8_takeFrom_146 fX8_50_7 rfl hS.o hS.f10 ?_
  refine V.iconst (v := 0) (pc := 149) dX8_takeFrom_149 (by decide) ?_
  refine V.bipush (v := 10) (pc := 150) dX8_takeFrom_150 (by decide) ?_
  refine V.copy0 (K := 10) (pc := 152) dX8_takeFrom_152 lX8_70 (by omega) (Nat.le_of_ble_eq_true rfl) hS2.t10 hS.t10 rfl (by decide) (by decide) (by decide) ?_
  refine V.aload_n (pc := 155) dX8_takeFrom_155 rfl ?_
  refine V.getR (pc := 156) dX8_takeFrom_156 fX8_53_7 rfl (by assumption) (by assumption) ?_
  refine V.iconst (v := 0) (pc := 159) dX8_takeFrom_159 (by decide) ?_
  refine V.aload_n (pc := 160) dX8_takeFrom_160 rfl ?_
  refine V.getR (pc := 161) dX8_takeFrom_161 fX8_53_7 rfl hS.o hS.f11 ?_
  refine V.iconst (v := 0) (pc := 164) dX8_takeFrom_164 (by decide) ?_
  refine V.bipush (v := 10) (pc := 165) dX8_takeFrom_165 (by decide) ?_
  refine V.copy0 (K := 10) (pc := 167) dX8_takeFrom_167 lX8_70 (by omega) (Nat.le_of_ble_eq_true rfl) hS2.t11 hS.t11 rfl (by decide) (by decide) (by decide) ?_
  refine V.aload_n (pc := 170) dX8_takeFrom_170 rfl ?_
  refine V.aload_n (pc := 171) dX8_takeFrom_171 rfl ?_
  refine V.getI (pc := 172) dX8_takeFrom_172 fX8_56_7 rfl (by assumption) ?_
  refine V.putI (pc := 175) dX8_takeFrom_175 fX8_56_7 (fun r h => by cases h; exact Or.inl rfl) rfl hS.o ?_
  refine V.aload_n (pc := 178) dX8_takeFrom_178 rfl ?_
  refine V.getR (pc := 179) dX8_takeFrom_179 fX8_59_7 rfl (by assumption) (by assumption) ?_
  refine V.iconst (v := 0) (pc := 182) dX8_takeFrom_182 (by decide) ?_
  refine V.aload_n (pc := 183) dX8_takeFrom_183 rfl ?_
  refine V.getR (pc := 184) dX8_takeFrom_184 fX8_59_7 rfl hS.o hS.f13 ?_
  refine V.iconst (v := 0) (pc := 187) dX8_takeFrom_187 (by decide) ?_
  refine V.bipush (v := 24) (pc := 188) dX8_takeFrom_188 (by decide) ?_
  refine V.copy0 (K := 24) (pc := 190) dX8_takeFrom_190 lX8_70 (by omega) (Nat.le_of_ble_eq_true rfl) hS2.t13 hS.t13 rfl (by decide) (by decide) (by decide) ?_
  refine V.aload_n (pc := 193) dX8_takeFrom_193 rfl ?_
  refine V.aload_n (pc := 194) dX8_takeFrom_194 rfl ?_
  refine V.getI (pc := 195) dX8_takeFrom_195 fX8_62_7 rfl (by assumption) ?_
  refine V.putI (pc := 198) dX8_takeFrom_198 fX8_62_7 (fun r h => by cases h; exact Or.inl rfl) rfl hS.o ?_
  exact V.vret (pc := 201) dX8_takeFrom_201 rfl ⟨rfl, rfl, rfl, fun b hb => ⟨by simp (disch := omega) only [up2_off, up2_ne, up2_same, cpyI_off, cpyI_in]; exact (g1 b (by omega)).1, (g1 b (by omega)).2, f1 b (by omega)⟩, f1, by simp (disch := omega) only [up2_off, up2_ne, up2_same, cpyI_off, cpyI_in]; rw [(g1 u (by omega)).1], ⟨by simp (disch := omega) only [up2_off, up2_ne, up2_same, cpyI_off, cpyI_in]; rw [(g1 s (by omega)).1], by simp (disch := omega) only [up2_off, up2_ne, up2_same, cpyI_off, cpyI_in]; rw [(g1 s (by omega)).1], by simp (disch := omega) only [up2_off, up2_ne, up2_same, cpyI_off, cpyI_in]; rw [(g1 s (by omega)).1], by simp (disch := omega) only [up2_off, up2_ne, up2_same, cpyI_off, cpyI_in]; rw [(g1 s (by omega)).1], by simp (disch := omega) only [up2_off, up2_ne, up2_same, cpyI_off, cpyI_in]; rw [(g1 s (by omega)).1], by simp (disch := omega) only [up2_off, up2_ne, up2_same, cpyI_off, cpyI_in]; rw [(g1 s (by omega)).1], by simp (disch := omega) only [up2_off, up2_ne, up2_same, cpyI_off, cpyI_in]; rw [(g1 s (by omega)).1]⟩, fun h hh => by
    obtain ⟨c1, c2, c3, c4⟩ := g2 h hh
    exact ⟨fun k hk => by simp (disch := omega) only [up2_off, up2_ne, up2_same, cpyI_off, cpyI_in]; exact c1 k hk, fun j hj => by simp (disch := omega) only [up2_off, up2_ne, up2_same, cpyI_off, cpyI_in]; exact c2 j hj, c3, c4⟩, fun i hi => by simp (disch := omega) only [up2_off, up2_ne, up2_same, cpyI_off, cpyI_in]; rw [(g1 (s + 2) (by omega)).1], fun i hi => ⟨by simp (disch := omega) only [up2_off, up2_ne, up2_same, cpyI_off, cpyI_in]; rw [(g1 (s + 4) (by omega)).1], by simp (disch := omega) only [up2_off, up2_ne, up2_same, cpyI_off, cpyI_in]; rw [(g1 (s + 5) (by omega)).1], by simp (disch := omega) only [up2_off, up2_ne, up2_same, cpyI_off, cpyI_in]; rw [(g1 (s + 6) (by omega)).1]⟩, fun i hi => by simp (disch := omega) only [up2_off, up2_ne, up2_same, cpyI_off, cpyI_in]; rw [(g1 (s + 7) (by omega)).1], f2⟩
theorem x_imageN {g : gG} {d : Nat} {T : mT} {n : Nat} {I : mI} {J : mJ} {F : mF} {x : Nat} (v : Int32) (hX : XS T F x) (q : ¬ (0 ≤ v.toInt ∧ v.toInt ≤ 1)) : Ct g mX11_imageAt (d + 0) [.ref x, .int v] 0 0 T n I J F (pureQ T n I J F (some (.null))) := by
  refine Ct.ofV (k := 0) (by decide) (Nat.le_of_ble_eq_true rfl) ?_
  show V g mX11_imageAt (d + 0) _ 0 0 0 [some (.ref x), some (.int v)] [] T n I J F
  refine V.iload_n (pc := 0) dX11_imageAt_0 rfl ?_
  refine V.if_lt 22 (pc := 1) dX11_imageAt_1 (by decide) (fun h1 => ?_) (fun h1 => ?_)
  · refine V.anull (pc := 22) dX11_imageAt_22 ?_
    exact V.aret (b := none) (pc := 23) dX11_imageAt_23 rfl ⟨rfl, rfl, rfl, rfl, rfl, rfl⟩
  · have q0 : 0 ≤ v.toInt := by
      rw [lt32] at h1
      have e0 : (0 : Int32).toInt = 0 := rfl
      omega
    refine V.iload_n (pc := 4) dX11_imageAt_4 rfl ?_
    refine V.aload_n (pc := 5) dX11_imageAt_5 rfl ?_
    refine V.getR (pc := 6) dX11_imageAt_6 fX11_16_10 rfl hX.o hX.f1 ?_
    refine V.alen (pc := 9) dX11_imageAt_9 hX.t1 ty_S (by rfl) ?_
    refine V.icmp_ge 22 (pc := 10) dX11_imageAt_10 (by decide) (fun h10 => ?_) (fun h10 => absurd (by rw [le32]; show (2 : Int) ≤ _; omega) h10)
    refine V.anull (pc := 22) dX11_imageAt_22 ?_
    exact V.aret (b := none) (pc := 23) dX11_imageAt_23 rfl ⟨rfl, rfl, rfl, rfl, rfl, rfl⟩
theorem x_image0 {g : gG} {d : Nat} {T : mT} {n : Nat} {I : mI} {J : mJ} {F : mF} {x : Nat} (v : Int32) (hX : XS T F x) (q : v.toInt = 0) : Ct g mX11_imageAt (d + 0) [.ref x, .int v] 0 0 T n I J F (pureQ T n I J F (some (.ref (x + 50)))) := by
  refine Ct.ofV (k := 0) (by decide) (Nat.le_of_ble_eq_true rfl) ?_
  show V g mX11_imageAt (d + 0) _ 0 0 0 [some (.ref x), some (.int v)] [] T n I J F
  refine V.iload_n (pc := 0) dX11_imageAt_0 rfl ?_
  refine V.if_lt 22 (pc := 1) dX11_imageAt_1 (by decide) (fun h1 => absurd h1 (by rw [lt32]; show ¬ _ < (0 : Int); omega)) (fun h1 => ?_)
  refine V.iload_n (pc := 4) dX11_imageAt_4 rfl ?_
  refine V.aload_n (pc := 5) dX11_imageAt_5 rfl ?_
  refine V.getR (pc := 6) dX11_imageAt_6 fX11_16_10 rfl hX.o hX.f1 ?_
  refine V.alen (pc := 9) dX11_imageAt_9 hX.t1 ty_S (by rfl) ?_
  refine V.icmp_ge 22 (pc := 10) dX11_imageAt_10 (by decide) (fun h10 => absurd h10 (by rw [le32]; show ¬ (2 : Int) ≤ _; omega)) (fun h10 => ?_)
  refine V.aload_n (pc := 13) dX11_imageAt_13 rfl ?_
  refine V.getR (pc := 14) dX11_imageAt_14 fX11_16_10 rfl hX.o hX.f1 ?_
  refine V.iload_n (pc := 17) dX11_imageAt_17 rfl ?_
  refine V.aald' (k := 0) (pc := 18) dX11_imageAt_18 hX.t1 ty_S (nIx (by omega) (by omega)) (by decide) (by decide) ?_
  rw [hX.i0]
  refine V.goto 23 (pc := 19) dX11_imageAt_19 (by decide) ?_
  exact V.aret (b := some _) (pc := 23) dX11_imageAt_23 rfl ⟨rfl, rfl, rfl, rfl, rfl, rfl⟩
theorem x_image1 {g : gG} {d : Nat} {T : mT} {n : Nat} {I : mI} {J : mJ} {F : mF} {x : Nat} (v : Int32) (hX : XS T F x) (q : v.toInt = 1) : Ct g mX11_imageAt (d + 0) [.ref x, .int v] 0 0 T n I J F (pureQ T n I J F (some (.ref (x + 70)))) := by
  refine Ct.ofV (k := 0) (by decide) (Nat.le_of_ble_eq_true rfl) ?_
  show V g mX11_imageAt (d + 0) _ 0 0 0 [some (.ref x), some (.int v)] [] T n I J F
  refine V.iload_n (pc := 0) dX11_imageAt_0 rfl ?_
  refine V.if_lt 22 (pc := 1) dX11_imageAt_1 (by decide) (fun h1 => absurd h1 (by rw [lt32]; show ¬ _ < (0 : Int); omega)) (fun h1 => ?_)
  refine V.iload_n (pc := 4) dX11_imageAt_4 rfl ?_
  refine V.aload_n (pc := 5) dX11_imageAt_5 rfl ?_
  refine V.getR (pc := 6) dX11_imageAt_6 fX11_16_10 rfl hX.o hX.f1 ?_
  refine V.alen (pc := 9) dX11_imageAt_9 hX.t1 ty_S (by rfl) ?_
  refine V.icmp_ge 22 (pc := 10) dX11_imageAt_10 (by decide) (fun h10 => absurd h10 (by rw [le32]; show ¬ (2 : Int) ≤ _; omega)) (fun h10 => ?_)
  refine V.aload_n (pc := 13) dX11_imageAt_13 rfl ?_
  refine V.getR (pc := 14) dX11_imageAt_14 fX11_16_10 rfl hX.o hX.f1 ?_
  refine V.iload_n (pc := 17) dX11_imageAt_17 rfl ?_
  refine V.aald' (k := 1) (pc := 18) dX11_imageAt_18 hX.t1 ty_S (nIx (by omega) (by omega)) (by decide) (by decide) ?_
  rw [hX.i1]
  refine V.goto 23 (pc := 19) dX11_imageAt_19 (by decide) ?_
  exact V.aret (b := some _) (pc := 23) dX11_imageAt_23 rfl ⟨rfl, rfl, rfl, rfl, rfl, rfl⟩
