theorem l_hand {g : gG} {d : Nat} {T : mT} {n : Nat} {I : mI} {J : mJ} {F : mF} {Q : mQ} {m k : Nat} {x : Int32} (hM : MS T F m) (hk : k < 6) (kk : ∀ I' : mI, (∀ b, b ≠ m + 2 → I' b = I b) → (∀ i, i < 12 → I' (m + 2) (10 + 12 * k + i) = 0) → (∀ i, (i < 10 + 12 * k ∨ 10 + 12 * k + 12 ≤ i) → I' (m + 2) i = I (m + 2) i) → V g mX12_hand (d + 3) Q 0 0 72 [some (.ref m), some (.int x), some (.int (nI k)), some (.int (nI 12))] [] T n I' J F) : ∀ (t j : Nat) (I' : mI), j + t = 12 → ((∀ b, b ≠ m + 2 → I' b = I b) ∧ (∀ i, i < j → I' (m + 2) (10 + 12 * k + i) = 0) ∧ ∀ i, (i < 10 + 12 * k ∨ 10 + 12 * k + j ≤ i) → I' (m + 2) i = I (m + 2) i) → V g mX12_hand (d + 3) Q 0 0 45 [some (.ref m), some (.int x), some (.int (nI k)), some (.int (nI j))] [] T n I' J F := by
  intro t
  induction t with
  | zero =>
    intro j I' hj hi
    obtain rfl : j = 12 := by omega
    refine V.iload_n (pc := 45) dX12_hand_45 rfl ?_
    refine V.bipush (v := 12) (pc := 46) dX12_hand_46 (by decide) ?_
    refine V.icmp_ge 72 (pc := 48) dX12_hand_48 (by decide) (fun h48 => ?_) (fun h48 => absurd (by rw [L12]; exact nI_le (by omega) (by omega)) h48)
    exact kk I' hi.1 hi.2.1 hi.2.2
  | succ t ih =>
    intro j I' hj hi
    refine V.iload_n (pc := 45) dX12_hand_45 rfl ?_
    refine V.bipush (v := 12) (pc := 46) dX12_hand_46 (by decide) ?_
    refine V.icmp_ge 72 (pc := 48) dX12_hand_48 (by decide) (fun h48 => absurd h48 (by rw [L12]; exact nI_ge (by omega) (by omega))) (fun h48 => ?_)
    refine V.aload_n (pc := 51) dX12_hand_51 rfl ?_
    refine V.getR (pc := 52) dX12_hand_52 fX12_13_11 rfl hM.o hM.f3 ?_
    refine V.bipush (v := 10) (pc := 55) dX12_hand_55 (by decide) ?_
    refine V.bipush (v := 12) (pc := 57) dX12_hand_57 (by decide) ?_
    refine V.iload_n (pc := 59) dX12_hand_59 rfl ?_
    refine V.imul (pc := 60) dX12_hand_60 ?_
    refine V.iadd (pc := 61) dX12_hand_61 ?_
    refine V.iload_n (pc := 62) dX12_hand_62 rfl ?_
    refine V.iadd (pc := 63) dX12_hand_63 ?_
    refine V.iconst (v := 0) (pc := 64) dX12_hand_64 (by decide) ?_
    refine V.iast' (k := 10 + 12 * k + j) (pc := 65) dX12_hand_65 hM.t3 (by simp only [L0, L1, L2, L3, L4, L5, L6, L10, L12, L94, L124, pk_mul, nI_add] <;> first | rfl | (congr 1; omega)) (by omega) (by decide) ?_
    refine V.iinc1 (pc := 66) dX12_hand_66 (by decide) rfl (st1_3 rfl) ?_
    refine V.goto 45 (pc := 69) dX12_hand_69 (by decide) ?_
    rw [nI_1]
    refine ih (j + 1) _ (by omega) ⟨fun b hb => by rw [up2_off hb]; exact hi.1 b hb, fun i h1 => ?_, fun i h1 => by rw [up2_ne (by omega)]; exact hi.2.2 i (by omega)⟩
    by_cases q : i = j
    · subst q; rw [up2_same]
    · rw [up2_ne (by omega)]; exact hi.2.1 i (by omega)
theorem p_hand {g : gG} {d : Nat} {T : mT} {n : Nat} {I : mI} {J : mJ} {F : mF} {m : Nat} {A : Ab} (x : Int32) (hM : MS T F m) (hA : AbOK A) (hR : RepM I J m A)  : Ct g mX12_hand (d + 3) [.ref m, .int x] 0 0 T n I J F (QM m T n I J F (some (.int (iI (s_hand A x.toInt).1))) (s_hand A x.toInt).2) := by
  refine Ct.ofV (k := 2) (by decide) (Nat.le_of_ble_eq_true rfl) ?_
  show V g mX12_hand (d + 3) _ 0 0 0 [some (.ref m), some (.int x), none, none] [] T n I J F
  refine V.aload_n (pc := 0) dX12_hand_0 rfl ?_
  refine V.iconst (v := 0) (pc := 1) dX12_hand_1 (by decide) ?_
  refine V.putI (pc := 2) dX12_hand_2 fX12_88_11 (fun r h => by cases h; exact Or.inl rfl) rfl hM.o ?_
  refine V.thr hR (fun I1 hR1 hf => ?_)
  clear hR
  have hR := hR1
  clear hR1
  refine V.iload_n (pc := 5) dX12_hand_5 rfl ?_
  refine V.i2l (pc := 6) dX12_hand_6 ?_
  refine V.lconst (v := 1) (pc := 7) dX12_hand_7 (by decide) ?_
  refine V.ldc2 (pc := 8) dX12_hand_8 qX12_107 ?_
  refine V.pS (as := [_, _, _]) (pc := 11) dX12_hand_11 lX12_98 bX12_in sX12_in (c_in (d := d + 2) _ _ _) (by omega) rfl (Nat.le_of_ble_eq_true rfl) ?_
  refine V.if_ne 23 (pc := 14) dX12_hand_14 (by decide) (fun h14 => ?_) (fun h14 => ?_)
  · have q : 1 ≤ x.toInt ∧ x.toInt ≤ 400 := (in64 x 1 400 1 400 rfl rfl).mp (bi_ne.mp h14)
    have h66 := hA.1.1
    refine V.aload_n (pc := 23) dX12_hand_23 rfl ?_
    refine V.getR (pc := 24) dX12_hand_24 fX12_13_11 rfl hM.o hM.f3 ?_
    refine V.iconst (v := 0) (pc := 27) dX12_hand_27 (by decide) ?_
    refine V.iald' (k := 0) (pc := 28) dX12_hand_28 hM.t3 rfl (by decide) (by decide) ?_
    refine V.topi hR.h0 ?_
    refine V.isn (pc := 29) dX12_hand_29 (by decide) (st1_2 rfl) ?_
    refine V.iload_n (pc := 30) dX12_hand_30 rfl ?_
    refine V.bipush (v := 6) (pc := 31) dX12_hand_31 (by decide) ?_
    refine V.icmp_ne 43 (pc := 33) dX12_hand_33 (by decide) (fun h33 => ?_) (fun h33 => ?_)
    · have q6 : ¬ (hds (cor A)).length = 6 := by
        rw [L6, nI_eq (by omega) (by omega)] at h33
        exact h33
      refine V.iconst (v := 0) (pc := 43) dX12_hand_43 (by decide) ?_
      refine V.isn (pc := 44) dX12_hand_44 (by decide) (st1_3 rfl) ?_
      refine l_hand hM (k := (hds (cor A)).length) (by omega) (fun I2 g1 g2 g3 => ?_) 12 0 _ (by omega) ⟨fun _ _ => rfl, fun i h => absurd h (by omega), fun _ _ => rfl⟩
      refine V.aload_n (pc := 72) dX12_hand_72 rfl ?_
      refine V.getR (pc := 73) dX12_hand_73 fX12_13_11 rfl hM.o hM.f3 ?_
      refine V.bipush (v := 10) (pc := 76) dX12_hand_76 (by decide) ?_
      refine V.bipush (v := 12) (pc := 78) dX12_hand_78 (by decide) ?_
      refine V.iload_n (pc := 80) dX12_hand_80 rfl ?_
      refine V.imul (pc := 81) dX12_hand_81 ?_
      refine V.iadd (pc := 82) dX12_hand_82 ?_
      refine V.iload_n (pc := 83) dX12_hand_83 rfl ?_
      refine V.iast' (k := 10 + 12 * (hds (cor A)).length) (pc := 84) dX12_hand_84 hM.t3 (by simp only [L0, L1, L2, L3, L4, L5, L6, L10, L12, L94, L124, pk_mul, nI_add] <;> first | rfl | (congr 1; omega)) (by omega) (by decide) ?_
      refine V.aload_n (pc := 85) dX12_hand_85 rfl ?_
      refine V.getR (pc := 86) dX12_hand_86 fX12_13_11 rfl hM.o hM.f3 ?_
      refine V.iconst (v := 0) (pc := 89) dX12_hand_89 (by decide) ?_
      refine V.dup2 (pc := 90) dX12_hand_90 rfl rfl ?_
      refine V.iald' (k := 0) (pc := 91) dX12_hand_91 hM.t3 rfl (by decide) (by decide) ?_
      refine V.iconst (v := 1) (pc := 92) dX12_hand_92 (by decide) ?_
      refine V.iadd (pc := 93) dX12_hand_93 ?_
      refine V.iast' (k := 0) (pc := 94) dX12_hand_94 hM.t3 rfl (by decide) (by decide) ?_
      refine V.aload_n (pc := 95) dX12_hand_95 rfl ?_
      refine V.iload_n (pc := 96) dX12_hand_96 rfl ?_
      refine V.invV0 (as := [_]) (pc := 97) dX12_hand_97 lX12_102 bX12_tell nX12_tell (ci := 11) rfl eX12_tell hM.o (c_tell (d := d + 2) _ hM (by first | decide | (rw [nI_toInt (by omega)]; omega))) (by omega) rfl (Nat.le_of_ble_eq_true rfl) ?_
      rintro _ _ _ _ _ _ ⟨rfl, rfl, rfl, rfl, rfl, rfl⟩
      exact V.iret (pc := 100) dX12_hand_100 rfl ⟨by rw [s_hand, if_pos q, if_neg q6]; simp only [okYes]; rw [iI_nat], rfl, rfl, rfl, Frm.tell (((hf.trans (fun b hb => g1 b (by omega))).up ⟨by omega, by omega⟩).up ⟨by omega, by omega⟩), Frm.rf, by
    rw [s_hand, if_pos q, if_neg q6]; simp only [okYes]
    refine RepM.okay (hR.setRow (fun b hb => by rw [up2_off hb, up2_off hb]; exact g1 b hb) ?_) _ (nI_pos' (by omega))
    refine RowRep.handNew hA.1 hR.2.2.1 (by omega) ?_ ⟨?_, ?_, ?_, ?_, fun p qq hp => ?_⟩ (fun j q1 q2 => by rw [up2_ne (by omega), up2_ne (by omega)]; exact g3 j q2)
    · rw [up2_same, up2_ne (by omega), g3 0 (by omega), hR.h0, nI_1]
    · rw [up2_ne (by omega), up2_same]; exact nIx (by omega) rfl
    · rw [up2_ne (by omega), up2_ne (by omega)]; exact g2 1 (by omega)
    · rw [up2_ne (by omega), up2_ne (by omega)]; exact g2 2 (by omega)
    · rw [up2_ne (by omega), up2_ne (by omega)]; exact g2 3 (by omega)
    · have h0 : ([] : List (Nat × Nat))[p]? = some qq := hp
      simp at h0⟩
    · have q6 : (hds (cor A)).length = 6 := by
        rw [L6, nI_eq (by omega) (by omega)] at h33
        exact h33
      refine V.aload_n (pc := 36) dX12_hand_36 rfl ?_
      refine V.bipush (v := (-5)) (pc := 37) dX12_hand_37 (by decide) ?_
      refine V.invV0 (as := [_]) (pc := 39) dX12_hand_39 lX12_102 bX12_tell nX12_tell (ci := 11) rfl eX12_tell hM.o (c_tell (d := d + 2) _ hM (by first | decide | (rw [nI_toInt (by omega)]; omega))) (by omega) rfl (Nat.le_of_ble_eq_true rfl) ?_
      rintro _ _ _ _ _ _ ⟨rfl, rfl, rfl, rfl, rfl, rfl⟩
      exact V.iret (pc := 42) dX12_hand_42 rfl (QM.no hR hf (by decide) (by rw [s_hand, if_pos q, if_pos q6]; rfl))
  · have q : ¬ (1 ≤ x.toInt ∧ x.toInt ≤ 400) := fun z => bi_eq.mp h14 ((in64 x 1 400 1 400 rfl rfl).mpr z)
    refine V.aload_n (pc := 17) dX12_hand_17 rfl ?_
    refine V.iconst (v := (-1)) (pc := 18) dX12_hand_18 (by decide) ?_
    refine V.invV0 (as := [_]) (pc := 19) dX12_hand_19 lX12_102 bX12_tell nX12_tell (ci := 11) rfl eX12_tell hM.o (c_tell (d := d + 2) _ hM (by first | decide | (rw [nI_toInt (by omega)]; omega))) (by omega) rfl (Nat.le_of_ble_eq_true rfl) ?_
    rintro _ _ _ _ _ _ ⟨rfl, rfl, rfl, rfl, rfl, rfl⟩
    exact V.iret (pc := 22) dX12_hand_22 rfl (QM.no hR hf (by decide) (by rw [s_hand, if_neg q]; rfl))
theorem l_knob {g : gG} {d : Nat} {T : mT} {n : Nat} {I : mI} {J : mJ} {F : mF} {Q : mQ} {m k : Nat} (hM : MS T F m) (hk : k < 4) (kk : ∀ I' : mI, (∀ b, b ≠ m + 2 → I' b = I b) → (∀ i, i < 6 → I' (m + 2) (124 + 6 * k + i) = 0) → (∀ i, (i < 124 + 6 * k ∨ 124 + 6 * k + 6 ≤ i) → I' (m + 2) i = I (m + 2) i) → V g mX12_knob (d + 3) Q 0 0 53 [some (.ref m), some (.int (nI k)), some (.int (nI 6))] [] T n I' J F) : ∀ (t j : Nat) (I' : mI), j + t = 6 → ((∀ b, b ≠ m + 2 → I' b = I b) ∧ (∀ i, i < j → I' (m + 2) (124 + 6 * k + i) = 0) ∧ ∀ i, (i < 124 + 6 * k ∨ 124 + 6 * k + j ≤ i) → I' (m + 2) i = I (m + 2) i) → V g mX12_knob (d + 3) Q 0 0 26 [some (.ref m), some (.int (nI k)), some (.int (nI j))] [] T n I' J F := by
  intro t
  induction t with
  | zero =>
    intro j I' hj hi
    obtain rfl : j = 6 := by omega
    refine V.iload_n (pc := 26) dX12_knob_26 rfl ?_
    refine V.bipush (v := 6) (pc := 27) dX12_knob_27 (by decide) ?_
    refine V.icmp_ge 53 (pc := 29) dX12_knob_29 (by decide) (fun h29 => ?_) (fun h29 => absurd (by rw [L6]; exact nI_le (by omega) (by omega)) h29)
    exact kk I' hi.1 hi.2.1 hi.2.2
  | succ t ih =>
    intro j I' hj hi
    refine V.iload_n (pc := 26) dX12_knob_26 rfl ?_
    refine V.bipush (v := 6) (pc := 27) dX12_knob_27 (by decide) ?_
    refine V.icmp_ge 53 (pc := 29) dX12_knob_29 (by decide) (fun h29 => absurd h29 (by rw [L6]; exact nI_ge (by omega) (by omega))) (fun h29 => ?_)
    refine V.aload_n (pc := 32) dX12_knob_32 rfl ?_
    refine V.getR (pc := 33) dX12_knob_33 fX12_13_11 rfl hM.o hM.f3 ?_
    refine V.bipush (v := 124) (pc := 36) dX12_knob_36 (by decide) ?_
    refine V.bipush (v := 6) (pc := 38) dX12_knob_38 (by decide) ?_
    refine V.iload_n (pc := 40) dX12_knob_40 rfl ?_
    refine V.imul (pc := 41) dX12_knob_41 ?_
    refine V.iadd (pc := 42) dX12_knob_42 ?_
    refine V.iload_n (pc := 43) dX12_knob_43 rfl ?_
    refine V.iadd (pc := 44) dX12_knob_44 ?_
    refine V.iconst (v := 0) (pc := 45) dX12_knob_45 (by decide) ?_
    refine V.iast' (k := 124 + 6 * k + j) (pc := 46) dX12_knob_46 hM.t3 (by simp only [L0, L1, L2, L3, L4, L5, L6, L10, L12, L94, L124, pk_mul, nI_add] <;> first | rfl | (congr 1; omega)) (by omega) (by decide) ?_
    refine V.iinc1 (pc := 47) dX12_knob_47 (by decide) rfl (st1_2 rfl) ?_
    refine V.goto 26 (pc := 50) dX12_knob_50 (by decide) ?_
    rw [nI_1]
    refine ih (j + 1) _ (by omega) ⟨fun b hb => by rw [up2_off hb]; exact hi.1 b hb, fun i h1 => ?_, fun i h1 => by rw [up2_ne (by omega)]; exact hi.2.2 i (by omega)⟩
    by_cases q : i = j
    · subst q; rw [up2_same]
    · rw [up2_ne (by omega)]; exact hi.2.1 i (by omega)
theorem p_knob {g : gG} {d : Nat} {T : mT} {n : Nat} {I : mI} {J : mJ} {F : mF} {m : Nat} {A : Ab}  (hM : MS T F m) (hA : AbOK A) (hR : RepM I J m A)  : Ct g mX12_knob (d + 3) [.ref m] 0 0 T n I J F (QM m T n I J F (some (.int (iI (s_knob A).1))) (s_knob A).2) := by
  refine Ct.ofV (k := 2) (by decide) (Nat.le_of_ble_eq_true rfl) ?_
  show V g mX12_knob (d + 3) _ 0 0 0 [some (.ref m), none, none] [] T n I J F
  refine V.aload_n (pc := 0) dX12_knob_0 rfl ?_
  refine V.iconst (v := 0) (pc := 1) dX12_knob_1 (by decide) ?_
  refine V.putI (pc := 2) dX12_knob_2 fX12_88_11 (fun r h => by cases h; exact Or.inl rfl) rfl hM.o ?_
  refine V.thr hR (fun I1 hR1 hf => ?_)
  clear hR
  have hR := hR1
  clear hR1
  refine V.aload_n (pc := 5) dX12_knob_5 rfl ?_
  refine V.getR (pc := 6) dX12_knob_6 fX12_13_11 rfl hM.o hM.f3 ?_
  refine V.iconst (v := 5) (pc := 9) dX12_knob_9 (by decide) ?_
  refine V.iald' (k := 5) (pc := 10) dX12_knob_10 hM.t3 rfl (by decide) (by decide) ?_
  have h44 := hA.1.2.2.2.2.2.2.2.2.2.1
  refine V.topi hR.h5 ?_
  refine V.isn (pc := 11) dX12_knob_11 (by decide) (st1_1 rfl) ?_
  refine V.iload_n (pc := 12) dX12_knob_12 rfl ?_
  refine V.iconst (v := 4) (pc := 13) dX12_knob_13 (by decide) ?_
  refine V.icmp_ne 24 (pc := 14) dX12_knob_14 (by decide) (fun h14 => ?_) (fun h14 => ?_)
  · have q6 : ¬ (kns (cor A)).length = 4 := by
      rw [L4, nI_eq (by omega) (by omega)] at h14
      exact h14
    refine V.iconst (v := 0) (pc := 24) dX12_knob_24 (by decide) ?_
    refine V.isn (pc := 25) dX12_knob_25 (by decide) (st1_2 rfl) ?_
    refine l_knob hM (k := (kns (cor A)).length) (by omega) (fun I2 g1 g2 g3 => ?_) 6 0 _ (by omega) ⟨fun _ _ => rfl, fun i h => absurd h (by omega), fun _ _ => rfl⟩
    refine V.aload_n (pc := 53) dX12_knob_53 rfl ?_
    refine V.getR (pc := 54) dX12_knob_54 fX12_13_11 rfl hM.o hM.f3 ?_
    refine V.iconst (v := 5) (pc := 57) dX12_knob_57 (by decide) ?_
    refine V.dup2 (pc := 58) dX12_knob_58 rfl rfl ?_
    refine V.iald' (k := 5) (pc := 59) dX12_knob_59 hM.t3 rfl (by decide) (by decide) ?_
    refine V.iconst (v := 1) (pc := 60) dX12_knob_60 (by decide) ?_
    refine V.iadd (pc := 61) dX12_knob_61 ?_
    refine V.iast' (k := 5) (pc := 62) dX12_knob_62 hM.t3 rfl (by decide) (by decide) ?_
    refine V.aload_n (pc := 63) dX12_knob_63 rfl ?_
    refine V.iload_n (pc := 64) dX12_knob_64 rfl ?_
    refine V.invV0 (as := [_]) (pc := 65) dX12_knob_65 lX12_102 bX12_tell nX12_tell (ci := 11) rfl eX12_tell hM.o (c_tell (d := d + 2) _ hM (by first | decide | (rw [nI_toInt (by omega)]; omega))) (by omega) rfl (Nat.le_of_ble_eq_true rfl) ?_
    rintro _ _ _ _ _ _ ⟨rfl, rfl, rfl, rfl, rfl, rfl⟩
    exact V.iret (pc := 68) dX12_knob_68 rfl ⟨by rw [s_knob, if_neg q6]; simp only [okYes]; rw [iI_nat], rfl, rfl, rfl, Frm.tell ((hf.trans (fun b hb => g1 b (by omega))).up ⟨by omega, by omega⟩), Frm.rf, by
    rw [s_knob, if_neg q6]; simp only [okYes]
    refine RepM.okay (hR.setRow (fun b hb => by rw [up2_off hb]; exact g1 b hb) ?_) _ (nI_pos' (by omega))
    refine RowRep.knobNew hA.1 hR.2.2.1 (by omega) ?_ (fun h hh => by rw [up2_ne (by omega)]; exact g2 h hh) (fun j q1 q2 => by rw [up2_ne (by omega)]; exact g3 j q2)
    rw [up2_same, g3 5 (by omega), hR.h5, nI_1]⟩
  · have q6 : (kns (cor A)).length = 4 := by
      rw [L4, nI_eq (by omega) (by omega)] at h14
      exact h14
    refine V.aload_n (pc := 17) dX12_knob_17 rfl ?_
    refine V.bipush (v := (-5)) (pc := 18) dX12_knob_18 (by decide) ?_
    refine V.invV0 (as := [_]) (pc := 20) dX12_knob_20 lX12_102 bX12_tell nX12_tell (ci := 11) rfl eX12_tell hM.o (c_tell (d := d + 2) _ hM (by first | decide | (rw [nI_toInt (by omega)]; omega))) (by omega) rfl (Nat.le_of_ble_eq_true rfl) ?_
    rintro _ _ _ _ _ _ ⟨rfl, rfl, rfl, rfl, rfl, rfl⟩
    exact V.iret (pc := 23) dX12_knob_23 rfl (QM.no hR hf (by decide) (by rw [s_knob, if_pos q6]; rfl))
