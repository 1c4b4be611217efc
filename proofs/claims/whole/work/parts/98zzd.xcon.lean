-- constructors
/-- new cells from a on; those below are as they were -/
def NwF (a : Nat) (T : mT) (I : mI) (J : mJ) (F : mF) (T' : mT) (I' : mI) (J' : mJ) (F' : mF) : Prop := (∀ b, b < a → T' b = T b) ∧ (∀ b, b < a → I' b = I b) ∧ (∀ b, b < a → J' b = J b) ∧ (∀ b, b < a → F' b = F b) ∧ ∀ b, T' b = some (.inl 2) → T b = some (.inl 2)
theorem clr_row {α : Type} {f : Nat → Nat → α} {a : Nat} {v : α} : clr f a v a = fun _ => v := by funext j; exact if_pos rfl
theorem upT_in {T : mT} {n b : Nat} {sh : mSh} (h : upT T n sh b = some (.inl 2)) (hs : sh ≠ .inl 2) : T b = some (.inl 2) := by
  unfold upT at h
  split at h
  · exact absurd (Option.some.inj h) hs
  · exact h
theorem n_hand {g : gG} {d : Nat} {T : mT} {n : Nat} {I : mI} {J : mJ} {F : mF} {a : Nat} (hT0 : T a = some (.inl 1)) (hn : n = a + 1) : Ct g mX1_init (d + 1) [.ref a] 1 8 T n I J F (fun r' T' n' I' J' F' => r' = none ∧ n' = a + 2 ∧ NwF a T I J F T' I' J' F' ∧ HN T' F' a) := by
  refine Ct.ofV (k := 0) (by decide) (Nat.le_of_ble_eq_true rfl) ?_
  show V g mX1_init (d + 1) _ 1 8 0 [some (.ref a)] [] T n I J F
  subst hn
  refine V.aload_n (pc := 0) dX1_init_0 rfl ?_
  refine V.obj (pc := 1) dX1_init_1 lX1_3 (by omega) (Nat.le_of_ble_eq_true rfl) ?_
  refine V.aload_n (pc := 4) dX1_init_4 rfl ?_
  refine V.iconst (v := 1) (pc := 5) dX1_init_5 (by decide) ?_
  refine V.putI (pc := 6) dX1_init_6 fX1_9_1 (fun r h => by cases h; exact Or.inl rfl) rfl (by first | exact hT0 | (simp (disch := omega) only [upT_lt]; exact hT0)) ?_
  refine V.aload_n (pc := 9) dX1_init_9 rfl ?_
  refine V.iconst (v := 0) (pc := 10) dX1_init_10 (by decide) ?_
  refine V.putI (pc := 11) dX1_init_11 fX1_15_1 (fun r h => by cases h; exact Or.inl rfl) rfl (by first | exact hT0 | (simp (disch := omega) only [upT_lt]; exact hT0)) ?_
  refine V.aload_n (pc := 14) dX1_init_14 rfl ?_
  refine V.iconst (v := 0) (pc := 15) dX1_init_15 (by decide) ?_
  refine V.putI (pc := 16) dX1_init_16 fX1_18_1 (fun r h => by cases h; exact Or.inl rfl) rfl (by first | exact hT0 | (simp (disch := omega) only [upT_lt]; exact hT0)) ?_
  refine V.aload_n (pc := 19) dX1_init_19 rfl ?_
  refine V.iconst (v := 0) (pc := 20) dX1_init_20 (by decide) ?_
  refine V.putI (pc := 21) dX1_init_21 fX1_21_1 (fun r h => by cases h; exact Or.inl rfl) rfl (by first | exact hT0 | (simp (disch := omega) only [upT_lt]; exact hT0)) ?_
  refine V.aload_n (pc := 24) dX1_init_24 rfl ?_
  refine V.bipush (v := 8) (pc := 25) dX1_init_25 (by decide) ?_
  refine V.room (bc := 0 + 1) (bs := 0 + 8) (by decide) (by decide) ?_
  refine V.newa (ty := .int) (N := 8) (pc := 27) dX1_init_27 rfl a_int (by decide) rfl rfl (by decide) (by decide) (by decide) ?_
  refine V.putR (b := (some _)) (pc := 29) dX1_init_29 fX1_24_1 (fun r h => by cases h; exact Or.inr ⟨rfl, rfl⟩) rfl (by first | exact hT0 | (simp (disch := omega) only [upT_lt]; exact hT0)) ?_
  refine V.aload_n (pc := 32) dX1_init_32 rfl ?_
  refine V.lconst (v := 1) (pc := 33) dX1_init_33 (by decide) ?_
  refine V.putJ (pc := 34) dX1_init_34 fX1_28_1 (fun r h => by cases h; exact Or.inl rfl) rfl (by first | exact hT0 | (simp (disch := omega) only [upT_lt]; exact hT0)) ?_
  refine V.aload_n (pc := 37) dX1_init_37 rfl ?_
  refine V.lconst (v := 1) (pc := 38) dX1_init_38 (by decide) ?_
  refine V.putJ (pc := 39) dX1_init_39 fX1_32_1 (fun r h => by cases h; exact Or.inl rfl) rfl (by first | exact hT0 | (simp (disch := omega) only [upT_lt]; exact hT0)) ?_
  exact V.vret (pc := 42) dX1_init_42 rfl ⟨rfl, rfl, ⟨fun b hb => by simp (disch := omega) only [upT_lt], fun b hb => by simp (disch := omega) only [up2_off, clr_off], fun b hb => by simp (disch := omega) only [up2_off, clr_off], fun b hb => by simp (disch := omega) only [up2_off, clr_off], fun b hb => upT_in (hb) (by simp)⟩, by simp (disch := omega) only [upT_lt, upT_at]; exact hT0, by simp (disch := omega) only [up2_off, up2_ne, up2_same, clr_off, clr_row], by simp (disch := omega) only [upT_lt, upT_at]⟩
/-- a new state's numbers -/
def StZ (I : mI) (F : mF) (o : Nat) : Prop := I o 0 = 0 ∧ I o 2 = 0 ∧ I o 4 = 0 ∧ I o 5 = 10000 ∧ I o 7 = 0 ∧ I o 8 = -1 ∧ I o 12 = 0 ∧ I o 14 = 0 ∧ (∀ j, I (o + 7) j = 0) ∧ ∀ j, F (o + 3) j = none
def HsJ (o j : Nat) (T : mT) (I : mI) (J : mJ) (F : mF) (T' : mT) (I' : mI) (J' : mJ) (F' : mF) : Prop := (∀ b, b < o + 8 → T' b = T b) ∧ (∀ b, b < o + 8 → I' b = I b) ∧ (∀ b, b < o + 8 → J' b = J b) ∧ (∀ b, b < o + 8 → b ≠ o + 1 → F' b = F b) ∧ (∀ b, T' b = some (.inl 2) → T b = some (.inl 2)) ∧ ∀ h, h < j → F' (o + 1) h = some (o + 8 + 2 * h) ∧ HN T' F' (o + 8 + 2 * h)
theorem l_hs {g : gG} {d : Nat} {T : mT} {I : mI} {J : mJ} {F : mF} {Q : mQ} {oo : Nat} (h0 : T oo = some (.inl 7)) (h1 : F oo 1 = some (oo + 1)) (h2 : T (oo + 1) = some (.inr (.object "WheelYear$Hand", 6))) (kk : ∀ (T' : mT) (I' : mI) (J' : mJ) (F' : mF), HsJ oo 6 T I J F T' I' J' F' → Q none T' (oo + 20) I' J' F') : ∀ (t j : Nat) (T' : mT) (I' : mI) (J' : mJ) (F' : mF), j + t = 6 → HsJ oo j T I J F T' I' J' F' → V g mX8_init (d + 2) Q (2 * t) (15 * t) 106 [some (.ref oo), some (.int (nI j))] [] T' (oo + 8 + 2 * j) I' J' F' := by
  intro t
  induction t with
  | zero =>
    intro j T' I' J' F' hj hi
    obtain rfl : j = 6 := by omega
    have e0 : T' oo = some (.inl 7) := by rw [hi.1 _ (by omega)]; exact h0
    have e1 : F' oo 1 = some (oo + 1) := by rw [hi.2.2.2.1 _ (by omega) (by omega)]; exact h1
    have e2 : T' (oo + 1) = some (.inr (.object "WheelYear$Hand", 6)) := by rw [hi.1 _ (by omega)]; exact h2
    refine V.iload_n (pc := 106) dX8_init_106 rfl ?_
    refine V.aload_n (pc := 107) dX8_init_107 rfl ?_
    refine V.getR (pc := 108) dX8_init_108 fX8_17_7 rfl e0 e1 ?_
    refine V.alen (pc := 111) dX8_init_111 e2 ty_H (by rfl) ?_
    refine V.icmp_ge 134 (pc := 112) dX8_init_112 (by decide) (fun h112 => ?_) (fun h112 => absurd (by decide) h112)
    exact V.vret (pc := 134) dX8_init_134 rfl (kk _ _ _ _ hi)
  | succ t ih =>
    intro j T' I' J' F' hj hi
    have e0 : T' oo = some (.inl 7) := by rw [hi.1 _ (by omega)]; exact h0
    have e1 : F' oo 1 = some (oo + 1) := by rw [hi.2.2.2.1 _ (by omega) (by omega)]; exact h1
    have e2 : T' (oo + 1) = some (.inr (.object "WheelYear$Hand", 6)) := by rw [hi.1 _ (by omega)]; exact h2
    refine V.iload_n (pc := 106) dX8_init_106 rfl ?_
    refine V.aload_n (pc := 107) dX8_init_107 rfl ?_
    refine V.getR (pc := 108) dX8_init_108 fX8_17_7 rfl e0 e1 ?_
    refine V.alen (pc := 111) dX8_init_111 e2 ty_H (by rfl) ?_
    refine V.icmp_ge 134 (pc := 112) dX8_init_112 (by decide) (fun h112 => absurd h112 (by rw [show Int32.ofNat 6 = nI 6 from rfl]; exact nI_ge (by omega) (by omega))) (fun h112 => ?_)
    refine V.aload_n (pc := 115) dX8_init_115 rfl ?_
    refine V.getR (pc := 116) dX8_init_116 fX8_17_7 rfl e0 e1 ?_
    refine V.iload_n (pc := 119) dX8_init_119 rfl ?_
    refine V.room (bc := (2 * t + 1) + 1) (bs := (15 * t + 8) + 7) (by omega) (by omega) ?_
    refine V.new (N := 7) (RX1, TX1, 7) (pc := 120) dX8_init_120 (ci := 1) rfl rfl kX8_15 iX1 jX1 ?_
    refine V.dup (pc := 123) dX8_init_123 rfl ?_
    refine V.invI (mc := 1) (ms := 8) (as := []) (pc := 124) dX8_init_124 lX8_65 bX1_init nX1_init rfl rfl (n_hand (d := d) (a := oo + 8 + 2 * j) upT_at rfl) (by omega) rfl (Nat.le_of_ble_eq_true rfl) ?_
    rintro _ T3 _ I3 J3 F3 ⟨rfl, rfl, f1, hN⟩
    obtain ⟨f2, f3, f4, f5, f6⟩ := f1
    have e3 : T3 (oo + 1) = some (.inr (.object "WheelYear$Hand", 6)) := by rw [f2 _ (by omega), upT_lt (by omega)]; exact e2
    have e4 := hN.1
    refine V.aast' (k := j) (r := (RX1, TX1, 7)) (ci := 1) (pc := 127) dX8_init_127 e3 ty_H e4 rfl rfl (by omega) (by decide) ?_
    refine V.iinc1 (pc := 128) dX8_init_128 (by decide) rfl (st1_1 rfl) ?_
    refine V.goto 106 (pc := 131) dX8_init_131 (by decide) ?_
    rw [nI_1]
    refine ih (j + 1) T3 I3 J3 (up2 F3 (oo + 1) j (some (oo + 8 + 2 * j))) (by omega) ⟨fun b hb => by rw [f2 b (by omega), upT_lt (by omega)]; exact hi.1 b hb, fun b hb => by rw [f3 b (by omega), clr_off (by omega)]; exact hi.2.1 b hb, fun b hb => by rw [f4 b (by omega), clr_off (by omega)]; exact hi.2.2.1 b hb, fun b hb hb2 => by rw [up2_off hb2, f5 b (by omega), clr_off (by omega)]; exact hi.2.2.2.1 b hb hb2, fun b hb => hi.2.2.2.2.1 b (upT_in (f6 b hb) (by simp)), fun h hh => ?_⟩
    by_cases q : h = j
    · subst q
      exact ⟨up2_same, hN.1, by rw [up2_off (by omega)]; exact hN.2.1, hN.2.2⟩
    · obtain ⟨a1, a2, a3, a4⟩ := hi.2.2.2.2.2 h (by omega)
      exact ⟨by rw [up2_ne (by omega), f5 _ (by omega), clr_off (by omega)]; exact a1, by rw [f2 _ (by omega), upT_lt (by omega)]; exact a2, by rw [up2_off (by omega), f5 _ (by omega), clr_off (by omega)]; exact a3, by rw [f2 _ (by omega), upT_lt (by omega)]; exact a4⟩
theorem n_state {g : gG} {d : Nat} {T : mT} {n : Nat} {I : mI} {J : mJ} {F : mF} {a : Nat} (hT0 : T a = some (.inl 7)) (hn : n = a + 1) : Ct g mX8_init (d + 2) [.ref a] 19 168 T n I J F (fun r' T' n' I' J' F' => r' = none ∧ n' = a + 20 ∧ NwF a T I J F T' I' J' F' ∧ SS T' F' a ∧ StZ I' F' a) := by
  refine Ct.ofV (k := 1) (by decide) (Nat.le_of_ble_eq_true rfl) ?_
  show V g mX8_init (d + 2) _ 19 168 0 [some (.ref a), none] [] T n I J F
  subst hn
  refine V.aload_n (pc := 0) dX8_init_0 rfl ?_
  refine V.obj (pc := 1) dX8_init_1 lX8_3 (by omega) (Nat.le_of_ble_eq_true rfl) ?_
  refine V.aload_n (pc := 4) dX8_init_4 rfl ?_
  refine V.iconst (v := 0) (pc := 5) dX8_init_5 (by decide) ?_
  refine V.putZ (pc := 6) dX8_init_6 fX8_9_7 (fun r h => by cases h; exact Or.inl rfl) rfl (by first | exact Or.inl rfl | exact Or.inr rfl | assumption) (by first | exact hT0 | (simp (disch := omega) only [upT_lt]; exact hT0)) ?_
  refine V.aload_n (pc := 9) dX8_init_9 rfl ?_
  refine V.bipush (v := 6) (pc := 10) dX8_init_10 (by decide) ?_
  refine V.room (bc := 18 + 1) (bs := 162 + 6) (by decide) (by decide) ?_
  refine V.anew (C := "WheelYear$Hand") (N := 6) (pc := 12) dX8_init_12 kX8_15 o_Hand (by decide) (by decide) (by decide) (by decide) ?_
  refine V.putR (b := (some _)) (pc := 15) dX8_init_15 fX8_17_7 (fun r h => by cases h; exact Or.inr ⟨rfl, rfl⟩) rfl (by first | exact hT0 | (simp (disch := omega) only [upT_lt]; exact hT0)) ?_
  refine V.aload_n (pc := 18) dX8_init_18 rfl ?_
  refine V.iconst (v := 0) (pc := 19) dX8_init_19 (by decide) ?_
  refine V.putI (pc := 20) dX8_init_20 fX8_21_7 (fun r h => by cases h; exact Or.inl rfl) rfl (by first | exact hT0 | (simp (disch := omega) only [upT_lt]; exact hT0)) ?_
  refine V.aload_n (pc := 23) dX8_init_23 rfl ?_
  refine V.bipush (v := 12) (pc := 24) dX8_init_24 (by decide) ?_
  refine V.room (bc := 17 + 1) (bs := 150 + 12) (by decide) (by decide) ?_
  refine V.newa (ty := .int) (N := 12) (pc := 26) dX8_init_26 rfl a_int (by decide) rfl rfl (by decide) (by decide) (by decide) ?_
  refine V.putR (b := (some _)) (pc := 28) dX8_init_28 fX8_25_7 (fun r h => by cases h; exact Or.inr ⟨rfl, rfl⟩) rfl (by first | exact hT0 | (simp (disch := omega) only [upT_lt]; exact hT0)) ?_
  refine V.aload_n (pc := 31) dX8_init_31 rfl ?_
  refine V.iconst (v := 0) (pc := 32) dX8_init_32 (by decide) ?_
  refine V.putI (pc := 33) dX8_init_33 fX8_29_7 (fun r h => by cases h; exact Or.inl rfl) rfl (by first | exact hT0 | (simp (disch := omega) only [upT_lt]; exact hT0)) ?_
  refine V.aload_n (pc := 36) dX8_init_36 rfl ?_
  refine V.sipush (v := 10000) (pc := 37) dX8_init_37 (by decide) ?_
  refine V.putI (pc := 40) dX8_init_40 fX8_32_7 (fun r h => by cases h; exact Or.inl rfl) rfl (by first | exact hT0 | (simp (disch := omega) only [upT_lt]; exact hT0)) ?_
  refine V.aload_n (pc := 43) dX8_init_43 rfl ?_
  refine V.bipush (v := 6) (pc := 44) dX8_init_44 (by decide) ?_
  refine V.room (bc := 16 + 1) (bs := 144 + 6) (by decide) (by decide) ?_
  refine V.anew (C := "WheelYear$Law") (N := 6) (pc := 46) dX8_init_46 kX8_35 o_Law (by decide) (by decide) (by decide) (by decide) ?_
  refine V.putR (b := (some _)) (pc := 49) dX8_init_49 fX8_37_7 (fun r h => by cases h; exact Or.inr ⟨rfl, rfl⟩) rfl (by first | exact hT0 | (simp (disch := omega) only [upT_lt]; exact hT0)) ?_
  refine V.aload_n (pc := 52) dX8_init_52 rfl ?_
  refine V.iconst (v := 0) (pc := 53) dX8_init_53 (by decide) ?_
  refine V.putI (pc := 54) dX8_init_54 fX8_41_7 (fun r h => by cases h; exact Or.inl rfl) rfl (by first | exact hT0 | (simp (disch := omega) only [upT_lt]; exact hT0)) ?_
  refine V.aload_n (pc := 57) dX8_init_57 rfl ?_
  refine V.iconst (v := (-1)) (pc := 58) dX8_init_58 (by decide) ?_
  refine V.putI (pc := 59) dX8_init_59 fX8_44_7 (fun r h => by cases h; exact Or.inl rfl) rfl (by first | exact hT0 | (simp (disch := omega) only [upT_lt]; exact hT0)) ?_
  refine V.aload_n (pc := 62) dX8_init_62 rfl ?_
  refine V.bipush (v := 10) (pc := 63) dX8_init_63 (by decide) ?_
  refine V.room (bc := 15 + 1) (bs := 134 + 10) (by decide) (by decide) ?_
  refine V.newa (ty := .int) (N := 10) (pc := 65) dX8_init_65 rfl a_int (by decide) rfl rfl (by decide) (by decide) (by decide) ?_
  refine V.putR (b := (some _)) (pc := 67) dX8_init_67 fX8_47_7 (fun r h => by cases h; exact Or.inr ⟨rfl, rfl⟩) rfl (by first | exact hT0 | (simp (disch := omega) only [upT_lt]; exact hT0)) ?_
  refine V.aload_n (pc := 70) dX8_init_70 rfl ?_
  refine V.bipush (v := 10) (pc := 71) dX8_init_71 (by decide) ?_
  refine V.room (bc := 14 + 1) (bs := 124 + 10) (by decide) (by decide) ?_
  refine V.newa (ty := .int) (N := 10) (pc := 73) dX8_init_73 rfl a_int (by decide) rfl rfl (by decide) (by decide) (by decide) ?_
  refine V.putR (b := (some _)) (pc := 75) dX8_init_75 fX8_50_7 (fun r h => by cases h; exact Or.inr ⟨rfl, rfl⟩) rfl (by first | exact hT0 | (simp (disch := omega) only [upT_lt]; exact hT0)) ?_
  refine V.aload_n (pc := 78) dX8_init_78 rfl ?_
  refine V.bipush (v := 10) (pc := 79) dX8_init_79 (by decide) ?_
  refine V.room (bc := 13 + 1) (bs := 114 + 10) (by decide) (by decide) ?_
  refine V.newa (ty := .int) (N := 10) (pc := 81) dX8_init_81 rfl a_int (by decide) rfl rfl (by decide) (by decide) (by decide) ?_
  refine V.putR (b := (some _)) (pc := 83) dX8_init_83 fX8_53_7 (fun r h => by cases h; exact Or.inr ⟨rfl, rfl⟩) rfl (by first | exact hT0 | (simp (disch := omega) only [upT_lt]; exact hT0)) ?_
  refine V.aload_n (pc := 86) dX8_init_86 rfl ?_
  refine V.iconst (v := 0) (pc := 87) dX8_init_87 (by decide) ?_
  refine V.putI (pc := 88) dX8_init_88 fX8_56_7 (fun r h => by cases h; exact Or.inl rfl) rfl (by first | exact hT0 | (simp (disch := omega) only [upT_lt]; exact hT0)) ?_
  refine V.aload_n (pc := 91) dX8_init_91 rfl ?_
  refine V.bipush (v := 24) (pc := 92) dX8_init_92 (by decide) ?_
  refine V.room (bc := 12 + 1) (bs := 90 + 24) (by decide) (by decide) ?_
  refine V.newa (ty := .int) (N := 24) (pc := 94) dX8_init_94 rfl a_int (by decide) rfl rfl (by decide) (by decide) (by decide) ?_
  refine V.putR (b := (some _)) (pc := 96) dX8_init_96 fX8_59_7 (fun r h => by cases h; exact Or.inr ⟨rfl, rfl⟩) rfl (by first | exact hT0 | (simp (disch := omega) only [upT_lt]; exact hT0)) ?_
  refine V.aload_n (pc := 99) dX8_init_99 rfl ?_
  refine V.iconst (v := 0) (pc := 100) dX8_init_100 (by decide) ?_
  refine V.putI (pc := 101) dX8_init_101 fX8_62_7 (fun r h => by cases h; exact Or.inl rfl) rfl (by first | exact hT0 | (simp (disch := omega) only [upT_lt]; exact hT0)) ?_
  refine V.iconst (v := 0) (pc := 104) dX8_init_104 (by decide) ?_
  refine V.isn (pc := 105) dX8_init_105 (by decide) (st1_1 rfl) ?_
  conv => arg 8; rw [L0]
  refine V.room (bc := 2 * 6) (bs := 15 * 6) (by decide) (by decide) ?_
  refine l_hs (oo := a) (by simp (disch := omega) only [upT_lt, upT_at]; exact hT0) (by simp (disch := omega) only [up2_off, up2_ne, up2_same, clr_off, clr_row]) (by simp (disch := omega) only [upT_lt, upT_at]) (fun T2 I2 J2 F2 hh => ?_) 6 0 _ _ _ _ (by omega) ⟨fun _ _ => rfl, fun _ _ => rfl, fun _ _ => rfl, fun _ _ _ => rfl, fun _ z => z, fun h hh => absurd hh (by omega)⟩
  obtain ⟨q1, q2, q3, q4, q5, q6⟩ := hh
  refine ⟨rfl, rfl, ⟨fun b hb => ?_, fun b hb => ?_, fun b hb => ?_, fun b hb => ?_, fun b hb => ?_⟩, ⟨?_, ⟨?_, ?_⟩, ⟨?_, ?_⟩, ⟨?_, ?_⟩, ⟨?_, ?_⟩, ⟨?_, ?_⟩, ⟨?_, ?_⟩, ⟨?_, ?_⟩, q6⟩, ?_⟩
  · rw [q1 b (by omega)]; simp (disch := omega) only [upT_lt, upT_at]
  · rw [q2 b (by omega)]; simp (disch := omega) only [up2_off, clr_off]
  · rw [q3 b (by omega)]; simp (disch := omega) only [up2_off, clr_off]
  · rw [q4 b (by omega) (by omega)]; simp (disch := omega) only [up2_off, clr_off]
  · exact upT_in (upT_in (upT_in (upT_in (upT_in (upT_in (upT_in (q5 b hb) (by simp)) (by simp)) (by simp)) (by simp)) (by simp)) (by simp)) (by simp)
  · rw [q1 _ (by omega)]; simp (disch := omega) only [upT_lt, upT_at]; exact hT0
  · rw [q4 _ (by omega) (by omega)]; simp (disch := omega) only [up2_off, up2_ne, up2_same, clr_off, clr_row]
  · rw [q1 _ (by omega)]; simp (disch := omega) only [upT_lt, upT_at]
  · rw [q4 _ (by omega) (by omega)]; simp (disch := omega) only [up2_off, up2_ne, up2_same, clr_off, clr_row]
  · rw [q1 _ (by omega)]; simp (disch := omega) only [upT_lt, upT_at]
  · rw [q4 _ (by omega) (by omega)]; simp (disch := omega) only [up2_off, up2_ne, up2_same, clr_off, clr_row]
  · rw [q1 _ (by omega)]; simp (disch := omega) only [upT_lt, upT_at]
  · rw [q4 _ (by omega) (by omega)]; simp (disch := omega) only [up2_off, up2_ne, up2_same, clr_off, clr_row]
  · rw [q1 _ (by omega)]; simp (disch := omega) only [upT_lt, upT_at]
  · rw [q4 _ (by omega) (by omega)]; simp (disch := omega) only [up2_off, up2_ne, up2_same, clr_off, clr_row]
  · rw [q1 _ (by omega)]; simp (disch := omega) only [upT_lt, upT_at]
  · rw [q4 _ (by omega) (by omega)]; simp (disch := omega) only [up2_off, up2_ne, up2_same, clr_off, clr_row]
  · rw [q1 _ (by omega)]; simp (disch := omega) only [upT_lt, upT_at]
  · rw [q4 _ (by omega) (by omega)]; simp (disch := omega) only [up2_off, up2_ne, up2_same, clr_off, clr_row]
  · rw [q1 _ (by omega)]; simp (disch := omega) only [upT_lt, upT_at]
  · refine ⟨?_, ?_, ?_, ?_, ?_, ?_, ?_, ?_, fun j => ?_, fun j => ?_⟩
    all_goals first | (rw [q2 _ (by omega)]; simp (disch := omega) only [up2_off, up2_ne, up2_same, clr_off, clr_row]; done) | (rw [q2 _ (by omega)]; simp (disch := omega) only [up2_off, up2_ne, up2_same, clr_off, clr_row]; rfl) | (rw [q4 _ (by omega) (by omega)]; simp (disch := omega) only [up2_off, up2_ne, up2_same, clr_off, clr_row]; done) | (rw [q4 _ (by omega) (by omega)]; simp (disch := omega) only [up2_off, up2_ne, up2_same, clr_off, clr_row]; rfl)
