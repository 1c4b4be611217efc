theorem x_hcopy {g : gG} {d : Nat} {T : mT} {n : Nat} {I : mI} {J : mJ} {F : mF} {a s : Nat} (hN : HN T F a) (hN2 : HN T F s) (hd1 : s ≠ a ∧ s + 1 ≠ a ∧ s ≠ a + 1) : Ct g mX1_takeFrom (d + 1) [.ref a, .ref s] 0 0 T n I J F (fun r' T' n' I' J' F' => r' = none ∧ T' = T ∧ n' = n ∧ F' = F ∧ (∀ b, b ≠ a → b ≠ a + 1 → I' b = I b) ∧ (∀ b, b ≠ a → J' b = J b) ∧ (∀ k, k < 4 → I' a k = I s k) ∧ (∀ j, j < 8 → I' (a + 1) j = I (s + 1) j) ∧ J' a 5 = J s 5 ∧ J' a 6 = J s 6) := by
  refine Ct.ofV (k := 0) (by decide) (Nat.le_of_ble_eq_true rfl) ?_
  show V g mX1_takeFrom (d + 1) _ 0 0 0 [some (.ref a), some (.ref s)] [] T n I J F
  have hTs := hN2.o
  have hFs := hN2.f4
  have hTs1 := hN2.t4
  have hTa1 := hN.t4
  refine V.aload_n (pc := 0) dX1_takeFrom_0 rfl ?_
  refine V.aload_n (pc := 1) dX1_takeFrom_1 rfl ?_
  refine V.getI (pc := 2) dX1_takeFrom_2 fX1_9_1 rfl (by assumption) ?_
  refine V.putI (pc := 5) dX1_takeFrom_5 fX1_9_1 (fun r h => by cases h; exact Or.inl rfl) rfl hN.o ?_
  refine V.aload_n (pc := 8) dX1_takeFrom_8 rfl ?_
  refine V.aload_n (pc := 9) dX1_takeFrom_9 rfl ?_
  refine V.getI (pc := 10) dX1_takeFrom_10 fX1_15_1 rfl (by assumption) ?_
  refine V.putI (pc := 13) dX1_takeFrom_13 fX1_15_1 (fun r h => by cases h; exact Or.inl rfl) rfl hN.o ?_
  refine V.aload_n (pc := 16) dX1_takeFrom_16 rfl ?_
  refine V.aload_n (pc := 17) dX1_takeFrom_17 rfl ?_
  refine V.getI (pc := 18) dX1_takeFrom_18 fX1_18_1 rfl (by assumption) ?_
  refine V.putI (pc := 21) dX1_takeFrom_21 fX1_18_1 (fun r h => by cases h; exact Or.inl rfl) rfl hN.o ?_
  refine V.aload_n (pc := 24) dX1_takeFrom_24 rfl ?_
  refine V.aload_n (pc := 25) dX1_takeFrom_25 rfl ?_
  refine V.getI (pc := 26) dX1_takeFrom_26 fX1_21_1 rfl (by assumption) ?_
  refine V.putI (pc := 29) dX1_takeFrom_29 fX1_21_1 (fun r h => by cases h; exact Or.inl rfl) rfl hN.o ?_
  refine V.aload_n (pc := 32) dX1_takeFrom_32 rfl ?_
  refine V.aload_n (pc := 33) dX1_takeFrom_33 rfl ?_
  refine V.getJ (pc := 34) dX1_takeFrom_34 fX1_28_1 rfl (by assumption) ?_
  refine V.putJ (pc := 37) dX1_takeFrom_37 fX1_28_1 (fun r h => by cases h; exact Or.inl rfl) rfl hN.o ?_
  refine V.aload_n (pc := 40) dX1_takeFrom_40 rfl ?_
  refine V.aload_n (pc := 41) dX1_takeFrom_41 rfl ?_
  refine V.getJ (pc := 42) dX1_takeFrom_42 fX1_32_1 rfl (by assumption) ?_
  refine V.putJ (pc := 45) dX1_takeFrom_45 fX1_32_1 (fun r h => by cases h; exact Or.inl rfl) rfl hN.o ?_
  refine V.aload_n (pc := 48) dX1_takeFrom_48 rfl ?_
  refine V.getR (pc := 49) dX1_takeFrom_49 fX1_24_1 rfl (by assumption) (by assumption) ?_
  refine V.iconst (v := 0) (pc := 52) dX1_takeFrom_52 (by decide) ?_
  refine V.aload_n (pc := 53) dX1_takeFrom_53 rfl ?_
  refine V.getR (pc := 54) dX1_takeFrom_54 fX1_24_1 rfl hN.o hN.f4 ?_
  refine V.iconst (v := 0) (pc := 57) dX1_takeFrom_57 (by decide) ?_
  refine V.bipush (v := 8) (pc := 58) dX1_takeFrom_58 (by decide) ?_
  refine V.copy0 (K := 8) (pc := 60) dX1_takeFrom_60 lX1_38 (by omega) (Nat.le_of_ble_eq_true rfl) hTs1 hTa1 rfl (by decide) (by decide) (by decide) ?_
  exact V.vret (pc := 63) dX1_takeFrom_63 rfl ⟨rfl, rfl, rfl, rfl, fun b h1 h2 => by simp (disch := omega) only [up2_off, up2_ne, up2_same, cpyI_off, cpyI_in], fun b h1 => by simp (disch := omega) only [up2_off, up2_ne, up2_same, cpyI_off, cpyI_in], fun k hk => by
    rcases (show k = 0 ∨ k = 1 ∨ k = 2 ∨ k = 3 by omega) with rfl | rfl | rfl | rfl <;> simp (disch := omega) only [up2_off, up2_ne, up2_same, cpyI_off, cpyI_in], fun j hj => by simp (disch := omega) only [up2_off, up2_ne, up2_same, cpyI_off, cpyI_in], by simp (disch := omega) only [up2_off, up2_ne, up2_same, cpyI_off, cpyI_in], by simp (disch := omega) only [up2_off, up2_ne, up2_same, cpyI_off, cpyI_in]⟩
theorem xl_hands {g : gG} {d : Nat} {T : mT} {n : Nat} {I : mI} {J : mJ} {F : mF} {Q : mQ} {u s : Nat} (hS : SS T F u) (hS2 : SS T F s) (hds : u + 20 ≤ s ∨ s + 20 ≤ u) (kk : ∀ (I' : mI) (J' : mJ), (∀ b, (b < u + 8 ∨ u + 20 ≤ b) → I' b = I b ∧ J' b = J b) → (∀ h, h < 6 → HC I J I' J' u s h) → V g mX8_takeFrom (d + 2) Q 0 0 44 [some (.ref u), some (.ref s), some (.int (nI 6)), none, none] [] T n I' J' F) : ∀ (t j : Nat) (I' : mI) (J' : mJ), j + t = 6 → ((∀ b, (b < u + 8 ∨ u + 20 ≤ b) → I' b = I b ∧ J' b = J b) ∧ (∀ h, h < j → HC I J I' J' u s h) ∧ ∀ h, j ≤ h → h < 6 → I' (u + 8 + 2 * h) = I (u + 8 + 2 * h) ∧ I' (u + 8 + 2 * h + 1) = I (u + 8 + 2 * h + 1)) → V g mX8_takeFrom (d + 2) Q 0 0 2 [some (.ref u), some (.ref s), some (.int (nI j)), none, none] [] T n I' J' F := by
  intro t
  induction t with
  | zero =>
    intro j I' J' hj hi
    obtain rfl : j = 6 := by omega
    refine V.iload_n (pc := 2) dX8_takeFrom_2 rfl ?_
    refine V.bipush (v := 6) (pc := 3) dX8_takeFrom_3 (by decide) ?_
    refine V.icmp_ge 44 (pc := 5) dX8_takeFrom_5 (by decide) (fun h5 => ?_) (fun h5 => absurd (by rw [L6]; exact nI_le (by omega) (by omega)) h5)
    exact kk I' J' hi.1 hi.2.1
  | succ t ih =>
    intro j I' J' hj hi
    have hTs := hS2.o
    have hFs := hS2.f1
    have hTs1 := hS2.t1
    have hN := hS.n (h := j) (by omega)
    have hN2 := hS2.n (h := j) (by omega)
    have hTn := hN.o
    refine V.iload_n (pc := 2) dX8_takeFrom_2 rfl ?_
    refine V.bipush (v := 6) (pc := 3) dX8_takeFrom_3 (by decide) ?_
    refine V.icmp_ge 44 (pc := 5) dX8_takeFrom_5 (by decide) (fun h5 => absurd h5 (by rw [L6]; exact nI_ge (by omega) (by omega))) (fun h5 => ?_)
    refine V.aload_n (pc := 8) dX8_takeFrom_8 rfl ?_
    refine V.getR (pc := 9) dX8_takeFrom_9 fX8_17_7 rfl hS.o hS.f1 ?_
    refine V.iload_n (pc := 12) dX8_takeFrom_12 rfl ?_
    refine V.aald' (k := j) (pc := 13) dX8_takeFrom_13 hS.t1 ty_H rfl (by omega) (by decide) ?_
    rw [hS.h (by omega)]
    refine V.asn (pc := 14) dX8_takeFrom_14 (by decide) (st1_3 rfl) ?_
    refine V.aload_n (pc := 15) dX8_takeFrom_15 rfl ?_
    refine V.getR (pc := 16) dX8_takeFrom_16 fX8_17_7 rfl (by assumption) (by assumption) ?_
    refine V.iload_n (pc := 19) dX8_takeFrom_19 rfl ?_
    refine V.aald' (k := j) (pc := 20) dX8_takeFrom_20 (by assumption) ty_H rfl (by omega) (by decide) ?_
    rw [hS2.h (by omega)]
    refine V.as (pc := 21) dX8_takeFrom_21 (by decide) (st1_4 rfl) ?_
    refine V.aload_n (pc := 23) dX8_takeFrom_23 rfl ?_
    refine V.ifnull (pc := 24) dX8_takeFrom_24 ?_
    refine V.aload (pc := 27) dX8_takeFrom_27 rfl ?_
    refine V.ifnull (pc := 29) dX8_takeFrom_29 ?_
    refine V.aload_n (pc := 32) dX8_takeFrom_32 rfl ?_
    refine V.aload (pc := 33) dX8_takeFrom_33 rfl ?_
    refine V.invV0 (as := [_]) (pc := 35) dX8_takeFrom_35 lX8_66 bX1_takeFrom nX1_takeFrom (ci := 1) rfl eX1_takeFrom (by assumption) (x_hcopy (d := d + 0) hN hN2 (by omega)) (by omega) rfl (Nat.le_of_ble_eq_true rfl) ?_
    rintro _ _ _ I2 J2 _ ⟨rfl, rfl, rfl, rfl, g1, g2, g3, g4, g5, g6⟩
    refine V.iinc1 (pc := 38) dX8_takeFrom_38 (by decide) rfl (st1_2 rfl) ?_
    refine V.goto 2 (pc := 41) dX8_takeFrom_41 (by decide) ?_
    refine V.weak wk_3 ?_
    refine V.weak wk_4 ?_
    rw [nI_1]
    refine ih (j + 1) I2 J2 (by omega) ⟨fun b hb => ⟨(g1 b (by omega) (by omega)).trans (hi.1 b hb).1, (g2 b (by omega)).trans (hi.1 b hb).2⟩, fun h hh => ?_, fun h h1 h2 => ⟨(g1 _ (by omega) (by omega)).trans (hi.2.2 h (by omega) h2).1, (g1 _ (by omega) (by omega)).trans (hi.2.2 h (by omega) h2).2⟩⟩
    by_cases q : h = j
    · subst q
      refine ⟨fun k hk => ?_, fun i hj2 => ?_, ?_, ?_⟩
      · rw [g3 k hk, (hi.1 (s + 8 + 2 * h) (by omega)).1]
      · rw [g4 i hj2, (hi.1 (s + 8 + 2 * h + 1) (by omega)).1]
      · rw [g5, (hi.1 (s + 8 + 2 * h) (by omega)).2]
      · rw [g6, (hi.1 (s + 8 + 2 * h) (by omega)).2]
    · obtain ⟨c1, c2, c3, c4⟩ := hi.2.1 h (by omega)
      exact ⟨fun k hk => by rw [g1 _ (by omega) (by omega)]; exact c1 k hk, fun i hj2 => by rw [g1 _ (by omega) (by omega)]; exact c2 i hj2, by rw [g2 _ (by omega)]; exact c3, by rw [g2 _ (by omega)]; exact c4⟩
theorem xl_laws {g : gG} {d : Nat} {T : mT} {n : Nat} {I : mI} {J : mJ} {F : mF} {Q : mQ} {u s : Nat} (hS : SS T F u) (hS2 : SS T F s) (hds : u + 20 ≤ s ∨ s + 20 ≤ u) (hlw : ∀ i, i < 6 → F (s + 3) i = none ∨ ∃ a, F (s + 3) i = some a ∧ T a = some (.inl 2)) (kk : ∀ F' : mF, (∀ b, b ≠ u + 3 → F' b = F b) → (∀ i, i < 6 → F' (u + 3) i = F (s + 3) i) → V g mX8_takeFrom (d + 2) Q 0 0 109 [some (.ref u), some (.ref s), some (.int (nI 6)), none, none] [] T n I J F') : ∀ (t j : Nat) (F' : mF), j + t = 6 → ((∀ b, b ≠ u + 3 → F' b = F b) ∧ ∀ i, i < j → F' (u + 3) i = F (s + 3) i) → V g mX8_takeFrom (d + 2) Q 0 0 85 [some (.ref u), some (.ref s), some (.int (nI j)), none, none] [] T n I J F' := by
  intro t
  induction t with
  | zero =>
    intro j F' hj hi
    obtain rfl : j = 6 := by omega
    have hS0 := hS
    have hS := SS.congr hS0 hi.1 (by omega)
    refine V.iload_n (pc := 85) dX8_takeFrom_85 rfl ?_
    refine V.bipush (v := 6) (pc := 86) dX8_takeFrom_86 (by decide) ?_
    refine V.icmp_ge 109 (pc := 88) dX8_takeFrom_88 (by decide) (fun h88 => ?_) (fun h88 => absurd (by rw [L6]; exact nI_le (by omega) (by omega)) h88)
    exact kk F' hi.1 hi.2
  | succ t ih =>
    intro j F' hj hi
    have hS0 := hS
    have hS20 := hS2
    have hS := SS.congr hS0 hi.1 (by omega)
    have hS2 := SS.congr hS20 hi.1 (by omega)
    have hTs := hS2.o
    have hFs := hS2.f6
    have hTs1 := hS2.t6
    have es : F' (s + 3) = F (s + 3) := hi.1 _ (by omega)
    refine V.iload_n (pc := 85) dX8_takeFrom_85 rfl ?_
    refine V.bipush (v := 6) (pc := 86) dX8_takeFrom_86 (by decide) ?_
    refine V.icmp_ge 109 (pc := 88) dX8_takeFrom_88 (by decide) (fun h88 => absurd h88 (by rw [L6]; exact nI_ge (by omega) (by omega))) (fun h88 => ?_)
    refine V.aload_n (pc := 91) dX8_takeFrom_91 rfl ?_
    refine V.getR (pc := 92) dX8_takeFrom_92 fX8_37_7 rfl hS.o hS.f6 ?_
    refine V.iload_n (pc := 95) dX8_takeFrom_95 rfl ?_
    refine V.aload_n (pc := 96) dX8_takeFrom_96 rfl ?_
    refine V.getR (pc := 97) dX8_takeFrom_97 fX8_37_7 rfl (by assumption) (by assumption) ?_
    refine V.iload_n (pc := 100) dX8_takeFrom_100 rfl ?_
    rcases hlw j (by omega) with hq | ⟨la, hq, hla⟩
    · refine V.aald' (k := j) (pc := 101) dX8_takeFrom_101 (by assumption) ty_W rfl (by omega) (by decide) ?_
      rw [es, hq]
      refine V.aastN' (k := j) (pc := 102) dX8_takeFrom_102 hS.t6 ty_W rfl (by omega) (by decide) ?_
      refine V.iinc1 (pc := 103) dX8_takeFrom_103 (by decide) rfl (st1_2 rfl) ?_
      refine V.goto 85 (pc := 106) dX8_takeFrom_106 (by decide) ?_
      rw [nI_1]
      refine ih (j + 1) _ (by omega) ⟨fun b hb => by rw [up2_off hb]; exact hi.1 b hb, fun i h1 => ?_⟩
      by_cases q : i = j
      · subst q; rw [up2_same, hq]
      · rw [up2_ne (by omega)]; exact hi.2 i (by omega)
    · refine V.aald' (k := j) (pc := 101) dX8_takeFrom_101 (by assumption) ty_W rfl (by omega) (by decide) ?_
      rw [es, hq]
      refine V.aast' (k := j) (r := (RX2, TX2, 2)) (ci := 2) (pc := 102) dX8_takeFrom_102 hS.t6 ty_W hla rfl rfl (by omega) (by decide) ?_
      refine V.iinc1 (pc := 103) dX8_takeFrom_103 (by decide) rfl (st1_2 rfl) ?_
      refine V.goto 85 (pc := 106) dX8_takeFrom_106 (by decide) ?_
      rw [nI_1]
      refine ih (j + 1) _ (by omega) ⟨fun b hb => by rw [up2_off hb]; exact hi.1 b hb, fun i h1 => ?_⟩
      by_cases q : i = j
      · subst q; rw [up2_same, hq]
      · rw [up2_ne (by omega)]; exact hi.2 i (by omega)
