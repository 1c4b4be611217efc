
theorem l_drop {g : gG} {d : Nat} {T : mT} {n : Nat} {I : mI} {J : mJ} {F : mF} {Q : mQ} {m w : Nat} {x : Int32} (hM : MS T F m) (kk : ∀ I' : mI, (∀ b, b ≠ m + 2 → I' b = I b) → (∀ i, w ≤ i → i < 11 → I' (m + 2) (82 + i) = I (m + 2) (82 + i + 1)) → (∀ i, (i < 82 + w ∨ 93 ≤ i) → I' (m + 2) i = I (m + 2) i) → V g mX12_drop (d + 3) Q 0 0 54 [some (.ref m), some (.int x), some (.int (nI 11))] [] T n I' J F) : ∀ (t j : Nat) (I' : mI), j + t = 11 → (w ≤ j ∧ (∀ b, b ≠ m + 2 → I' b = I b) ∧ (∀ i, w ≤ i → i < j → I' (m + 2) (82 + i) = I (m + 2) (82 + i + 1)) ∧ ∀ i, (i < 82 + w ∨ 82 + j ≤ i) → I' (m + 2) i = I (m + 2) i) → V g mX12_drop (d + 3) Q 0 0 22 [some (.ref m), some (.int x), some (.int (nI j))] [] T n I' J F := by
  intro t
  induction t with
  | zero =>
    intro j I' hj hi
    obtain rfl : j = 11 := by omega
    refine V.iload_n (pc := 22) dX12_drop_22 rfl ?_
    refine V.bipush (v := 11) (pc := 23) dX12_drop_23 (by decide) ?_
    refine V.icmp_ge 54 (pc := 25) dX12_drop_25 (by decide) (fun h25 => ?_) (fun h25 => absurd (by rw [L11]; exact nI_le (by omega) (by omega)) h25)
    exact kk I' hi.2.1 hi.2.2.1 hi.2.2.2
  | succ t ih =>
    intro j I' hj hi
    refine V.iload_n (pc := 22) dX12_drop_22 rfl ?_
    refine V.bipush (v := 11) (pc := 23) dX12_drop_23 (by decide) ?_
    refine V.icmp_ge 54 (pc := 25) dX12_drop_25 (by decide) (fun h25 => absurd h25 (by rw [L11]; exact nI_ge (by omega) (by omega))) (fun h25 => ?_)
    refine V.aload_n (pc := 28) dX12_drop_28 rfl ?_
    refine V.getR (pc := 29) dX12_drop_29 fX12_13_11 rfl hM.o hM.f3 ?_
    refine V.bipush (v := 82) (pc := 32) dX12_drop_32 (by decide) ?_
    refine V.iload_n (pc := 34) dX12_drop_34 rfl ?_
    refine V.iadd (pc := 35) dX12_drop_35 ?_
    refine V.aload_n (pc := 36) dX12_drop_36 rfl ?_
    refine V.getR (pc := 37) dX12_drop_37 fX12_13_11 rfl hM.o hM.f3 ?_
    refine V.bipush (v := 82) (pc := 40) dX12_drop_40 (by decide) ?_
    refine V.iload_n (pc := 42) dX12_drop_42 rfl ?_
    refine V.iadd (pc := 43) dX12_drop_43 ?_
    refine V.iconst (v := 1) (pc := 44) dX12_drop_44 (by decide) ?_
    refine V.iadd (pc := 45) dX12_drop_45 ?_
    refine V.iald' (k := 82 + j + 1) (pc := 46) dX12_drop_46 hM.t3 (by simp only [L82, L1, nI_add]) (by omega) (by decide) ?_
    refine V.iast' (k := 82 + j) (pc := 47) dX12_drop_47 hM.t3 (by simp only [L82, nI_add]) (by omega) (by decide) ?_
    refine V.iinc1 (pc := 48) dX12_drop_48 (by decide) rfl (st1_2 rfl) ?_
    refine V.goto 22 (pc := 51) dX12_drop_51 (by decide) ?_
    rw [nI_1]
    refine ih (j + 1) _ (by omega) ⟨by omega, fun b hb => by rw [up2_off hb]; exact hi.2.1 b hb, fun i h1 h2 => ?_, fun i h1 => by rw [up2_ne (by omega)]; exact hi.2.2.2 i (by omega)⟩
    by_cases q : i = j
    · subst q; rw [up2_same]; exact hi.2.2.2 _ (by omega)
    · rw [up2_ne (by omega)]; exact hi.2.2.1 i h1 (by omega)
theorem p_drop {g : gG} {d : Nat} {T : mT} {n : Nat} {I : mI} {J : mJ} {F : mF} {m : Nat} {A : Ab} (x : Int32) (hM : MS T F m) (hA : AbOK A) (hR : RepM I J m A)  : Ct g mX12_drop (d + 3) [.ref m, .int x] 0 0 T n I J F (QM m T n I J F (some (.int (iI (s_drop A x.toInt).1))) (s_drop A x.toInt).2) := by
  refine Ct.ofV (k := 1) (by decide) (Nat.le_of_ble_eq_true rfl) ?_
  show V g mX12_drop (d + 3) _ 0 0 0 [some (.ref m), some (.int x), none] [] T n I J F
  refine V.aload_n (pc := 0) dX12_drop_0 rfl ?_
  refine V.iconst (v := 0) (pc := 1) dX12_drop_1 (by decide) ?_
  refine V.putI (pc := 2) dX12_drop_2 fX12_88_11 (fun r h => by cases h; exact Or.inl rfl) rfl hM.o ?_
  refine V.thr hR (fun I1 hR1 hf => ?_)
  clear hR
  have hR := hR1
  clear hR1
  refine V.aload_n (pc := 5) dX12_drop_5 rfl ?_
  refine V.iload_n (pc := 6) dX12_drop_6 rfl ?_
  refine V.pV (as := [_]) (pc := 7) dX12_drop_7 lX12_135 bX12_isWheel nX12_isWheel (ci := 11) rfl eX12_isWheel hM.o (c_isWheel (d := d + 1) _ hM (by have := hA.1.2.2.1; omega) hR.h1) (by omega) rfl (Nat.le_of_ble_eq_true rfl) ?_
  refine V.if_ne 20 (pc := 10) dX12_drop_10 (by decide) (fun h10 => ?_) (fun h10 => ?_)
  · have q := bi_ne.mp h10
    have h12 := hA.1.2.2.1
    refine V.iload_n (pc := 20) dX12_drop_20 rfl ?_
    refine V.isn (pc := 21) dX12_drop_21 (by decide) (st1_2 rfl) ?_
    have ex : x = nI x.toInt.toNat := nIx q.1 rfl
    conv => arg 8; rw [ex]
    refine l_drop hM (w := x.toInt.toNat) (fun I2 g1 g2 g3 => ?_) (11 - x.toInt.toNat) x.toInt.toNat _ (by omega) ⟨Nat.le_refl _, fun _ _ => rfl, fun i h h2 => absurd h (by omega), fun _ _ => rfl⟩
    refine V.aload_n (pc := 54) dX12_drop_54 rfl ?_
    refine V.getR (pc := 55) dX12_drop_55 fX12_13_11 rfl hM.o hM.f3 ?_
    refine V.iconst (v := 1) (pc := 58) dX12_drop_58 (by decide) ?_
    refine V.dup2 (pc := 59) dX12_drop_59 rfl rfl ?_
    refine V.iald' (k := 1) (pc := 60) dX12_drop_60 hM.t3 rfl (by decide) (by decide) ?_
    rw [g3 1 (by omega), hR.h1]
    refine V.iconst (v := 1) (pc := 61) dX12_drop_61 (by decide) ?_
    refine V.isub (pc := 62) dX12_drop_62 ?_
    rw [L1, pk_sub (by omega)]
    refine V.iast' (k := 1) (pc := 63) dX12_drop_63 hM.t3 rfl (by decide) (by decide) ?_
    refine V.aload_n (pc := 64) dX12_drop_64 rfl ?_
    refine V.aload_n (pc := 65) dX12_drop_65 rfl ?_
    refine V.getR (pc := 66) dX12_drop_66 fX12_13_11 rfl hM.o hM.f3 ?_
    refine V.iconst (v := 1) (pc := 69) dX12_drop_69 (by decide) ?_
    refine V.iald' (k := 1) (pc := 70) dX12_drop_70 hM.t3 rfl (by decide) (by decide) ?_
    rw [up2_same]
    refine V.invV0 (as := [_]) (pc := 71) dX12_drop_71 lX12_102 bX12_tell nX12_tell (ci := 11) rfl eX12_tell hM.o (c_tell (d := d + 2) _ hM (by first | decide | (rw [nI_toInt (by omega)]; omega))) (by omega) rfl (Nat.le_of_ble_eq_true rfl) ?_
    rintro _ _ _ _ _ _ ⟨rfl, rfl, rfl, rfl, rfl, rfl⟩
    exact V.iret (pc := 74) dX12_drop_74 rfl ⟨by rw [s_drop, if_pos q]; simp only [okYes]; rw [iI_nat], rfl, rfl, rfl, Frm.tell ((hf.trans (fun b hb => g1 b (by omega))).up ⟨by omega, by omega⟩), Frm.rf, by
    rw [s_drop, if_pos q]; simp only [okYes]
    refine RepM.okay (hR.setRow (fun b hb => by rw [up2_off hb]; exact g1 b hb) ?_) _ (nI_pos' (by omega))
    refine RowRep.drop hA.1 hR.2.2.1 (by omega) up2_same (fun i hi => by rw [up2_ne (by omega)]; exact g3 _ (by omega)) (fun i h1 h2 => by rw [up2_ne (by omega)]; exact g2 i h1 h2) (fun j q1 q2 => by rw [up2_ne (by omega)]; exact g3 j (by omega))⟩
  · have q := bi_eq.mp h10
    refine V.aload_n (pc := 13) dX12_drop_13 rfl ?_
    refine V.bipush (v := (-2)) (pc := 14) dX12_drop_14 (by decide) ?_
    refine V.invV0 (as := [_]) (pc := 16) dX12_drop_16 lX12_102 bX12_tell nX12_tell (ci := 11) rfl eX12_tell hM.o (c_tell (d := d + 2) _ hM (by first | decide | (rw [nI_toInt (by omega)]; omega))) (by omega) rfl (Nat.le_of_ble_eq_true rfl) ?_
    rintro _ _ _ _ _ _ ⟨rfl, rfl, rfl, rfl, rfl, rfl⟩
    exact V.iret (pc := 19) dX12_drop_19 rfl (QM.no hR hf (by decide) (by rw [s_drop, if_neg q]; rfl))
theorem L5550b : (5550 : Int32) = nI 5550 := rfl
theorem l_image {g : gG} {d : Nat} {T : mT} {n : Nat} {I : mI} {J : mJ} {F : mF} {Q : mQ} {m k : Nat} (hM : MS T F m) (hk : k < 2) (kk : ∀ I' : mI, (∀ b, b ≠ m + 3 → I' b = I b) → (∀ i, i < 5550 → I' (m + 3) (5550 * k + i) = I (m + 2) i) → (∀ i, (i < 5550 * k ∨ 5550 * k + 5550 ≤ i) → I' (m + 3) i = I (m + 3) i) → V g mX12_image (d + 3) Q 0 0 54 [some (.ref m), some (.int (nI k)), some (.int (nI 5550))] [] T n I' J F) : ∀ (t j : Nat) (I' : mI), j + t = 5550 → ((∀ b, b ≠ m + 3 → I' b = I b) ∧ (∀ i, i < j → I' (m + 3) (5550 * k + i) = I (m + 2) i) ∧ ∀ i, (i < 5550 * k ∨ 5550 * k + j ≤ i) → I' (m + 3) i = I (m + 3) i) → V g mX12_image (d + 3) Q 0 0 23 [some (.ref m), some (.int (nI k)), some (.int (nI j))] [] T n I' J F := by
  intro t
  induction t with
  | zero =>
    intro j I' hj hi
    obtain rfl : j = 5550 := by omega
    refine V.iload_n (pc := 23) dX12_image_23 rfl ?_
    refine V.sipush (v := 5550) (pc := 24) dX12_image_24 (by decide) ?_
    refine V.icmp_ge 54 (pc := 27) dX12_image_27 (by decide) (fun h27 => ?_) (fun h27 => absurd (by rw [L5550]; exact nI_le (by omega) (by omega)) h27)
    exact kk I' hi.1 hi.2.1 hi.2.2
  | succ t ih =>
    intro j I' hj hi
    refine V.iload_n (pc := 23) dX12_image_23 rfl ?_
    refine V.sipush (v := 5550) (pc := 24) dX12_image_24 (by decide) ?_
    refine V.icmp_ge 54 (pc := 27) dX12_image_27 (by decide) (fun h27 => absurd h27 (by rw [L5550]; exact nI_ge (by omega) (by omega))) (fun h27 => ?_)
    refine V.aload_n (pc := 30) dX12_image_30 rfl ?_
    refine V.getR (pc := 31) dX12_image_31 fX12_16_11 rfl hM.o hM.f4 ?_
    refine V.sipush (v := 5550) (pc := 34) dX12_image_34 (by decide) ?_
    refine V.iload_n (pc := 37) dX12_image_37 rfl ?_
    refine V.imul (pc := 38) dX12_image_38 ?_
    refine V.iload_n (pc := 39) dX12_image_39 rfl ?_
    refine V.iadd (pc := 40) dX12_image_40 ?_
    refine V.aload_n (pc := 41) dX12_image_41 rfl ?_
    refine V.getR (pc := 42) dX12_image_42 fX12_13_11 rfl hM.o hM.f3 ?_
    refine V.iload_n (pc := 45) dX12_image_45 rfl ?_
    refine V.iald' (k := j) (pc := 46) dX12_image_46 hM.t3 rfl (by omega) (by decide) ?_
    refine V.iast' (k := 5550 * k + j) (pc := 47) dX12_image_47 hM.t4 (by simp only [L5550, pk_mul, nI_add]) (by omega) (by decide) ?_
    refine V.iinc1 (pc := 48) dX12_image_48 (by decide) rfl (st1_2 rfl) ?_
    refine V.goto 23 (pc := 51) dX12_image_51 (by decide) ?_
    rw [nI_1]
    refine ih (j + 1) _ (by omega) ⟨fun b hb => by rw [up2_off hb]; exact hi.1 b hb, fun i h1 => ?_, fun i h1 => by rw [up2_ne (by omega)]; exact hi.2.2 i (by omega)⟩
    by_cases q : i = j
    · subst q; rw [up2_same, hi.1 (m + 2) (by omega)]
    · rw [up2_ne (by omega)]; exact hi.2.1 i (by omega)
theorem p_image {g : gG} {d : Nat} {T : mT} {n : Nat} {I : mI} {J : mJ} {F : mF} {m : Nat} {A : Ab} (x : Int32) (hM : MS T F m) (hA : AbOK A) (hR : RepM I J m A)  : Ct g mX12_image (d + 3) [.ref m, .int x] 0 0 T n I J F (QM m T n I J F (some (.int (iI (s_image A x.toInt).1))) (s_image A x.toInt).2) := by
  refine Ct.ofV (k := 1) (by decide) (Nat.le_of_ble_eq_true rfl) ?_
  show V g mX12_image (d + 3) _ 0 0 0 [some (.ref m), some (.int x), none] [] T n I J F
  refine V.aload_n (pc := 0) dX12_image_0 rfl ?_
  refine V.iconst (v := 0) (pc := 1) dX12_image_1 (by decide) ?_
  refine V.putI (pc := 2) dX12_image_2 fX12_88_11 (fun r h => by cases h; exact Or.inl rfl) rfl hM.o ?_
  refine V.thr hR (fun I1 hR1 hf => ?_)
  clear hR
  have hR := hR1
  clear hR1
  refine V.iload_n (pc := 5) dX12_image_5 rfl ?_
  refine V.i2l (pc := 6) dX12_image_6 ?_
  refine V.lconst (v := 0) (pc := 7) dX12_image_7 (by decide) ?_
  refine V.lconst (v := 1) (pc := 8) dX12_image_8 (by decide) ?_
  refine V.pS (as := [_, _, _]) (pc := 9) dX12_image_9 lX12_98 bX12_in sX12_in (c_in (d := d + 2) _ _ _) (by omega) rfl (Nat.le_of_ble_eq_true rfl) ?_
  refine V.if_ne 21 (pc := 12) dX12_image_12 (by decide) (fun h12 => ?_) (fun h12 => ?_)
  · have q : 0 ≤ x.toInt ∧ x.toInt ≤ 1 := (in64 x 0 1 0 1 rfl rfl).mp (bi_ne.mp h12)
    refine V.iconst (v := 0) (pc := 21) dX12_image_21 (by decide) ?_
    refine V.isn (pc := 22) dX12_image_22 (by decide) (st1_2 rfl) ?_
    have ex : x = nI x.toInt.toNat := nIx q.1 rfl
    conv => arg 8; rw [ex]
    refine l_image hM (k := x.toInt.toNat) (by omega) (fun I2 g1 g2 g3 => ?_) 5550 0 _ (by omega) ⟨fun _ _ => rfl, fun i h => absurd h (by omega), fun _ _ => rfl⟩
    refine V.aload_n (pc := 54) dX12_image_54 rfl ?_
    refine V.getR (pc := 55) dX12_image_55 fX12_19_11 rfl hM.o hM.f5 ?_
    refine V.iload_n (pc := 58) dX12_image_58 rfl ?_
    refine V.iconst (v := 1) (pc := 59) dX12_image_59 (by decide) ?_
    refine V.zast' (k := x.toInt.toNat) (pc := 60) dX12_image_60 hM.t5 rfl (by omega) (by decide) (by first | exact Or.inl rfl | exact Or.inr rfl) ?_
    refine V.aload_n (pc := 61) dX12_image_61 rfl ?_
    refine V.iconst (v := 0) (pc := 62) dX12_image_62 (by decide) ?_
    refine V.invV0 (as := [_]) (pc := 63) dX12_image_63 lX12_102 bX12_tell nX12_tell (ci := 11) rfl eX12_tell hM.o (c_tell (d := d + 2) _ hM (by first | decide | (rw [nI_toInt (by omega)]; omega))) (by omega) rfl (Nat.le_of_ble_eq_true rfl) ?_
    rintro _ _ _ _ _ _ ⟨rfl, rfl, rfl, rfl, rfl, rfl⟩
    exact V.iret (pc := 66) dX12_image_66 rfl ⟨by rw [s_image, if_pos q]; rfl, rfl, rfl, rfl, Frm.tell ((hf.trans (fun b hb => g1 b (by omega))).up ⟨by omega, by omega⟩), Frm.rf, by
    rw [s_image, if_pos q]
    refine RepM.okay (RepM.image hR hA (k := x.toInt.toNat) (by omega) (fun b q1 q2 => by rw [up2_off q2]; exact g1 b q1) (fun i hi => by rw [up2_off (by omega)]; exact g2 i hi) (fun j hj => by rw [up2_off (by omega)]; exact g3 j hj) up2_same (fun j hj => by rw [up2_ne (by omega), g1 (m + 4) (by omega)])) 0 (by decide)⟩
  · have q : ¬ (0 ≤ x.toInt ∧ x.toInt ≤ 1) := fun z => bi_eq.mp h12 ((in64 x 0 1 0 1 rfl rfl).mpr z)
    refine V.aload_n (pc := 15) dX12_image_15 rfl ?_
    refine V.iconst (v := (-1)) (pc := 16) dX12_image_16 (by decide) ?_
    refine V.invV0 (as := [_]) (pc := 17) dX12_image_17 lX12_102 bX12_tell nX12_tell (ci := 11) rfl eX12_tell hM.o (c_tell (d := d + 2) _ hM (by first | decide | (rw [nI_toInt (by omega)]; omega))) (by omega) rfl (Nat.le_of_ble_eq_true rfl) ?_
    rintro _ _ _ _ _ _ ⟨rfl, rfl, rfl, rfl, rfl, rfl⟩
    exact V.iret (pc := 20) dX12_image_20 rfl (QM.no hR hf (by decide) (by rw [s_image, if_neg q]; rfl))
theorem l_back {g : gG} {d : Nat} {T : mT} {n : Nat} {I : mI} {J : mJ} {F : mF} {Q : mQ} {m k : Nat} (hM : MS T F m) (hk : k < 2) (kk : ∀ I' : mI, (∀ b, b ≠ m + 2 → I' b = I b) → (∀ i, i < 5550 → I' (m + 2) i = I (m + 3) (5550 * k + i)) → V g mX12_back (d + 3) Q 0 0 70 [some (.ref m), some (.int (nI k)), some (.int (nI 5550))] [] T n I' J F) : ∀ (t j : Nat) (I' : mI), j + t = 5550 → ((∀ b, b ≠ m + 2 → I' b = I b) ∧ (∀ i, i < j → I' (m + 2) i = I (m + 3) (5550 * k + i))) → V g mX12_back (d + 3) Q 0 0 39 [some (.ref m), some (.int (nI k)), some (.int (nI j))] [] T n I' J F := by
  intro t
  induction t with
  | zero =>
    intro j I' hj hi
    obtain rfl : j = 5550 := by omega
    refine V.iload_n (pc := 39) dX12_back_39 rfl ?_
    refine V.sipush (v := 5550) (pc := 40) dX12_back_40 (by decide) ?_
    refine V.icmp_ge 70 (pc := 43) dX12_back_43 (by decide) (fun h43 => ?_) (fun h43 => absurd (by rw [L5550]; exact nI_le (by omega) (by omega)) h43)
    exact kk I' hi.1 hi.2
  | succ t ih =>
    intro j I' hj hi
    refine V.iload_n (pc := 39) dX12_back_39 rfl ?_
    refine V.sipush (v := 5550) (pc := 40) dX12_back_40 (by decide) ?_
    refine V.icmp_ge 70 (pc := 43) dX12_back_43 (by decide) (fun h43 => absurd h43 (by rw [L5550]; exact nI_ge (by omega) (by omega))) (fun h43 => ?_)
    refine V.aload_n (pc := 46) dX12_back_46 rfl ?_
    refine V.getR (pc := 47) dX12_back_47 fX12_13_11 rfl hM.o hM.f3 ?_
    refine V.iload_n (pc := 50) dX12_back_50 rfl ?_
    refine V.aload_n (pc := 51) dX12_back_51 rfl ?_
    refine V.getR (pc := 52) dX12_back_52 fX12_16_11 rfl hM.o hM.f4 ?_
    refine V.sipush (v := 5550) (pc := 55) dX12_back_55 (by decide) ?_
    refine V.iload_n (pc := 58) dX12_back_58 rfl ?_
    refine V.imul (pc := 59) dX12_back_59 ?_
    refine V.iload_n (pc := 60) dX12_back_60 rfl ?_
    refine V.iadd (pc := 61) dX12_back_61 ?_
    refine V.iald' (k := 5550 * k + j) (pc := 62) dX12_back_62 hM.t4 (by simp only [L5550, pk_mul, nI_add]) (by omega) (by decide) ?_
    refine V.iast' (k := j) (pc := 63) dX12_back_63 hM.t3 rfl (by omega) (by decide) ?_
    refine V.iinc1 (pc := 64) dX12_back_64 (by decide) rfl (st1_2 rfl) ?_
    refine V.goto 39 (pc := 67) dX12_back_67 (by decide) ?_
    rw [nI_1]
    refine ih (j + 1) _ (by omega) ⟨fun b hb => by rw [up2_off hb]; exact hi.1 b hb, fun i h1 => ?_⟩
    by_cases q : i = j
    · subst q; rw [up2_same, hi.1 (m + 3) (by omega)]
    · rw [up2_ne (by omega)]; exact hi.2 i (by omega)
theorem p_back {g : gG} {d : Nat} {T : mT} {n : Nat} {I : mI} {J : mJ} {F : mF} {m : Nat} {A : Ab} (x : Int32) (hM : MS T F m) (hA : AbOK A) (hR : RepM I J m A)  : Ct g mX12_back (d + 3) [.ref m, .int x] 0 0 T n I J F (QM m T n I J F (some (.int (iI (s_back A x.toInt).1))) (s_back A x.toInt).2) := by
  refine Ct.ofV (k := 1) (by decide) (Nat.le_of_ble_eq_true rfl) ?_
  show V g mX12_back (d + 3) _ 0 0 0 [some (.ref m), some (.int x), none] [] T n I J F
  refine V.aload_n (pc := 0) dX12_back_0 rfl ?_
  refine V.iconst (v := 0) (pc := 1) dX12_back_1 (by decide) ?_
  refine V.putI (pc := 2) dX12_back_2 fX12_88_11 (fun r h => by cases h; exact Or.inl rfl) rfl hM.o ?_
  refine V.thr hR (fun I1 hR1 hf => ?_)
  clear hR
  have hR := hR1
  clear hR1
  refine V.iload_n (pc := 5) dX12_back_5 rfl ?_
  refine V.i2l (pc := 6) dX12_back_6 ?_
  refine V.lconst (v := 0) (pc := 7) dX12_back_7 (by decide) ?_
  refine V.lconst (v := 1) (pc := 8) dX12_back_8 (by decide) ?_
  refine V.pS (as := [_, _, _]) (pc := 9) dX12_back_9 lX12_98 bX12_in sX12_in (c_in (d := d + 2) _ _ _) (by omega) rfl (Nat.le_of_ble_eq_true rfl) ?_
  refine V.if_ne 21 (pc := 12) dX12_back_12 (by decide) (fun h12 => ?_) (fun h12 => ?_)
  · have q : 0 ≤ x.toInt ∧ x.toInt ≤ 1 := (in64 x 0 1 0 1 rfl rfl).mp (bi_ne.mp h12)
    obtain ⟨gk1, gk2⟩ := hR.2.2.2.1 x.toInt.toNat (by omega)
    refine V.aload_n (pc := 21) dX12_back_21 rfl ?_
    refine V.getR (pc := 22) dX12_back_22 fX12_19_11 rfl hM.o hM.f5 ?_
    refine V.iload_n (pc := 25) dX12_back_25 rfl ?_
    refine V.zald' (k := x.toInt.toNat) (pc := 26) dX12_back_26 hM.t5 (nIx q.1 rfl) (by omega) (by decide) ?_
    refine V.if_ne 37 (pc := 27) dX12_back_27 (by decide) (fun h27 => ?_) (fun h27 => ?_)
    · have hs : (img A x.toInt.toNat).isSome = true := by
        cases z : (img A x.toInt.toNat).isSome with
        | true => rfl
        | false => rw [gk1, z] at h27; exact absurd rfl h27
      obtain ⟨c, hc⟩ := Option.isSome_iff_exists.mp hs
      refine V.iconst (v := 0) (pc := 37) dX12_back_37 (by decide) ?_
      refine V.isn (pc := 38) dX12_back_38 (by decide) (st1_2 rfl) ?_
      have ex : x = nI x.toInt.toNat := nIx q.1 rfl
      conv => arg 8; rw [ex]
      refine l_back hM (k := x.toInt.toNat) (by omega) (fun I2 g1 g2 => ?_) 5550 0 _ (by omega) ⟨fun _ _ => rfl, fun i h => absurd h (by omega)⟩
      refine V.aload_n (pc := 70) dX12_back_70 rfl ?_
      refine V.iconst (v := 0) (pc := 71) dX12_back_71 (by decide) ?_
      refine V.invV0 (as := [_]) (pc := 72) dX12_back_72 lX12_102 bX12_tell nX12_tell (ci := 11) rfl eX12_tell hM.o (c_tell (d := d + 2) _ hM (by first | decide | (rw [nI_toInt (by omega)]; omega))) (by omega) rfl (Nat.le_of_ble_eq_true rfl) ?_
      rintro _ _ _ _ _ _ ⟨rfl, rfl, rfl, rfl, rfl, rfl⟩
      exact V.iret (pc := 75) dX12_back_75 rfl ⟨by rw [s_back, if_pos q]; simp only [hc]; rfl, rfl, rfl, rfl, Frm.tell (hf.trans (fun b hb => g1 b (by omega))), Frm.rf, by
    rw [s_back, if_pos q]; simp only [hc, okYes]
    refine RepM.okay (hR.setRow g1 (RowRep.congr (hA.2.1 _ c hc) (gk2 c hc) (fun j hj => g2 j hj))) 0 (by decide)⟩
    · have hc : img A x.toInt.toNat = none := by
        cases z : img A x.toInt.toNat with
        | none => rfl
        | some c => rw [gk1, z] at h27; simp at h27
      refine V.aload_n (pc := 30) dX12_back_30 rfl ?_
      refine V.bipush (v := (-2)) (pc := 31) dX12_back_31 (by decide) ?_
      refine V.invV0 (as := [_]) (pc := 33) dX12_back_33 lX12_102 bX12_tell nX12_tell (ci := 11) rfl eX12_tell hM.o (c_tell (d := d + 2) _ hM (by first | decide | (rw [nI_toInt (by omega)]; omega))) (by omega) rfl (Nat.le_of_ble_eq_true rfl) ?_
      rintro _ _ _ _ _ _ ⟨rfl, rfl, rfl, rfl, rfl, rfl⟩
      exact V.iret (pc := 36) dX12_back_36 rfl (QM.no hR hf (by decide) (by rw [s_back, if_pos q]; simp only [hc]; rfl))
  · have q : ¬ (0 ≤ x.toInt ∧ x.toInt ≤ 1) := fun z => bi_eq.mp h12 ((in64 x 0 1 0 1 rfl rfl).mpr z)
    refine V.aload_n (pc := 15) dX12_back_15 rfl ?_
    refine V.iconst (v := (-1)) (pc := 16) dX12_back_16 (by decide) ?_
    refine V.invV0 (as := [_]) (pc := 17) dX12_back_17 lX12_102 bX12_tell nX12_tell (ci := 11) rfl eX12_tell hM.o (c_tell (d := d + 2) _ hM (by first | decide | (rw [nI_toInt (by omega)]; omega))) (by omega) rfl (Nat.le_of_ble_eq_true rfl) ?_
    rintro _ _ _ _ _ _ ⟨rfl, rfl, rfl, rfl, rfl, rfl⟩
    exact V.iret (pc := 20) dX12_back_20 rfl (QM.no hR hf (by decide) (by rw [s_back, if_neg q]; rfl))
theorem L255 : (255 : Int32) = nI 255 := rfl
theorem c_four {g : gG} {d : Nat} {T : mT} {n : Nat} {I : mI} {J : mJ} {F : mF} {m k : Nat} (v : Int32) (hM : MS T F m) (hk : k + 4 ≤ 400) (h8 : I m 8 = nI k) : Ct g mX12_four (d + 0) [.ref m, .int v] 0 0 T n I J F (fun r' T' n' I' J' F' => r' = none ∧ T' = T ∧ n' = n ∧ J' = J ∧ F' = F ∧ (∀ b, b ≠ m → b ≠ m + 5 → I' b = I b) ∧ (∀ j, j ≠ 8 → I' m j = I m j) ∧ I' m 8 = nI (k + 4) ∧ (∀ j, (j < k ∨ k + 4 ≤ j) → I' (m + 5) j = I (m + 5) j) ∧ I' (m + 5) k = nI (byt v 24) ∧ I' (m + 5) (k + 1) = nI (byt v 16) ∧ I' (m + 5) (k + 2) = nI (byt v 8) ∧ I' (m + 5) (k + 3) = nI (byt v 0)) := by
  refine Ct.ofV (k := 1) (by decide) (Nat.le_of_ble_eq_true rfl) ?_
  show V g mX12_four (d + 0) _ 0 0 0 [some (.ref m), some (.int v), none] [] T n I J F
  refine V.bipush (v := 24) (pc := 0) dX12_four_0 (by decide) ?_
  refine V.isn (pc := 2) dX12_four_2 (by decide) (st1_2 rfl) ?_
  refine V.iload_n (pc := 3) dX12_four_3 rfl ?_
  refine V.if_lt 39 (pc := 4) dX12_four_4 (by decide) (fun h4 => absurd h4 (by decide)) (fun h4 => ?_)
  refine V.aload_n (pc := 7) dX12_four_7 rfl ?_
  refine V.getR (pc := 8) dX12_four_8 fX12_23_11 rfl hM.o hM.f7 ?_
  refine V.aload_n (pc := 11) dX12_four_11 rfl ?_
  refine V.getI (pc := 12) dX12_four_12 fX12_138_11 rfl hM.o ?_
  refine V.topi h8 ?_
  refine V.iload_n (pc := 15) dX12_four_15 rfl ?_
  refine V.iload_n (pc := 16) dX12_four_16 rfl ?_
  refine V.ishr (pc := 17) dX12_four_17 ?_
  refine V.sipush (v := 255) (pc := 18) dX12_four_18 (by decide) ?_
  refine V.iand (pc := 21) dX12_four_21 ?_
  rw [byt_and]
  refine V.iast' (k := k) (pc := 22) dX12_four_22 hM.t7 rfl (by omega) (by decide) ?_
  refine V.aload_n (pc := 23) dX12_four_23 rfl ?_
  refine V.dup (pc := 24) dX12_four_24 rfl ?_
  refine V.getI (pc := 25) dX12_four_25 fX12_138_11 rfl hM.o ?_
  rw [up2_off (by omega), h8]
  refine V.iconst (v := 1) (pc := 28) dX12_four_28 (by decide) ?_
  refine V.iadd (pc := 29) dX12_four_29 ?_
  rw [nI_1]
  refine V.putI (pc := 30) dX12_four_30 fX12_138_11 (fun r h => by cases h; exact Or.inl rfl) rfl hM.o ?_
  refine V.iinc (v := 16) (pc := 33) dX12_four_33 (by decide) rfl (by decide) (st1_2 rfl) ?_
  refine V.goto 3 (pc := 36) dX12_four_36 (by decide) ?_
  refine V.iload_n (pc := 3) dX12_four_3 rfl ?_
  refine V.if_lt 39 (pc := 4) dX12_four_4 (by decide) (fun h4 => absurd h4 (by decide)) (fun h4 => ?_)
  refine V.aload_n (pc := 7) dX12_four_7 rfl ?_
  refine V.getR (pc := 8) dX12_four_8 fX12_23_11 rfl hM.o hM.f7 ?_
  refine V.aload_n (pc := 11) dX12_four_11 rfl ?_
  refine V.getI (pc := 12) dX12_four_12 fX12_138_11 rfl hM.o ?_
  rw [up2_same]
  refine V.iload_n (pc := 15) dX12_four_15 rfl ?_
  refine V.iload_n (pc := 16) dX12_four_16 rfl ?_
  refine V.ishr (pc := 17) dX12_four_17 ?_
  refine V.sipush (v := 255) (pc := 18) dX12_four_18 (by decide) ?_
  refine V.iand (pc := 21) dX12_four_21 ?_
  rw [byt_and]
  refine V.iast' (k := k + 1) (pc := 22) dX12_four_22 hM.t7 rfl (by omega) (by decide) ?_
  refine V.aload_n (pc := 23) dX12_four_23 rfl ?_
  refine V.dup (pc := 24) dX12_four_24 rfl ?_
  refine V.getI (pc := 25) dX12_four_25 fX12_138_11 rfl hM.o ?_
  rw [up2_off (by omega), up2_same]
  refine V.iconst (v := 1) (pc := 28) dX12_four_28 (by decide) ?_
  refine V.iadd (pc := 29) dX12_four_29 ?_
  rw [nI_1]
  refine V.putI (pc := 30) dX12_four_30 fX12_138_11 (fun r h => by cases h; exact Or.inl rfl) rfl hM.o ?_
  refine V.iinc (v := 8) (pc := 33) dX12_four_33 (by decide) rfl (by decide) (st1_2 rfl) ?_
  refine V.goto 3 (pc := 36) dX12_four_36 (by decide) ?_
  refine V.iload_n (pc := 3) dX12_four_3 rfl ?_
  refine V.if_lt 39 (pc := 4) dX12_four_4 (by decide) (fun h4 => absurd h4 (by decide)) (fun h4 => ?_)
  refine V.aload_n (pc := 7) dX12_four_7 rfl ?_
  refine V.getR (pc := 8) dX12_four_8 fX12_23_11 rfl hM.o hM.f7 ?_
  refine V.aload_n (pc := 11) dX12_four_11 rfl ?_
  refine V.getI (pc := 12) dX12_four_12 fX12_138_11 rfl hM.o ?_
  rw [up2_same]
  refine V.iload_n (pc := 15) dX12_four_15 rfl ?_
  refine V.iload_n (pc := 16) dX12_four_16 rfl ?_
  refine V.ishr (pc := 17) dX12_four_17 ?_
  refine V.sipush (v := 255) (pc := 18) dX12_four_18 (by decide) ?_
  refine V.iand (pc := 21) dX12_four_21 ?_
  rw [byt_and]
  refine V.iast' (k := k + 2) (pc := 22) dX12_four_22 hM.t7 rfl (by omega) (by decide) ?_
  refine V.aload_n (pc := 23) dX12_four_23 rfl ?_
  refine V.dup (pc := 24) dX12_four_24 rfl ?_
  refine V.getI (pc := 25) dX12_four_25 fX12_138_11 rfl hM.o ?_
  rw [up2_off (by omega), up2_same]
  refine V.iconst (v := 1) (pc := 28) dX12_four_28 (by decide) ?_
  refine V.iadd (pc := 29) dX12_four_29 ?_
  rw [nI_1]
  refine V.putI (pc := 30) dX12_four_30 fX12_138_11 (fun r h => by cases h; exact Or.inl rfl) rfl hM.o ?_
  refine V.iinc (v := 0) (pc := 33) dX12_four_33 (by decide) rfl (by decide) (st1_2 rfl) ?_
  refine V.goto 3 (pc := 36) dX12_four_36 (by decide) ?_
  refine V.iload_n (pc := 3) dX12_four_3 rfl ?_
  refine V.if_lt 39 (pc := 4) dX12_four_4 (by decide) (fun h4 => absurd h4 (by decide)) (fun h4 => ?_)
  refine V.aload_n (pc := 7) dX12_four_7 rfl ?_
  refine V.getR (pc := 8) dX12_four_8 fX12_23_11 rfl hM.o hM.f7 ?_
  refine V.aload_n (pc := 11) dX12_four_11 rfl ?_
  refine V.getI (pc := 12) dX12_four_12 fX12_138_11 rfl hM.o ?_
  rw [up2_same]
  refine V.iload_n (pc := 15) dX12_four_15 rfl ?_
  refine V.iload_n (pc := 16) dX12_four_16 rfl ?_
  refine V.ishr (pc := 17) dX12_four_17 ?_
  refine V.sipush (v := 255) (pc := 18) dX12_four_18 (by decide) ?_
  refine V.iand (pc := 21) dX12_four_21 ?_
  rw [byt_and]
  refine V.iast' (k := k + 3) (pc := 22) dX12_four_22 hM.t7 rfl (by omega) (by decide) ?_
  refine V.aload_n (pc := 23) dX12_four_23 rfl ?_
  refine V.dup (pc := 24) dX12_four_24 rfl ?_
  refine V.getI (pc := 25) dX12_four_25 fX12_138_11 rfl hM.o ?_
  rw [up2_off (by omega), up2_same]
  refine V.iconst (v := 1) (pc := 28) dX12_four_28 (by decide) ?_
  refine V.iadd (pc := 29) dX12_four_29 ?_
  rw [nI_1]
  refine V.putI (pc := 30) dX12_four_30 fX12_138_11 (fun r h => by cases h; exact Or.inl rfl) rfl hM.o ?_
  refine V.iinc (v := (-8)) (pc := 33) dX12_four_33 (by decide) rfl (by decide) (st1_2 rfl) ?_
  refine V.goto 3 (pc := 36) dX12_four_36 (by decide) ?_
  refine V.iload_n (pc := 3) dX12_four_3 rfl ?_
  refine V.if_lt 39 (pc := 4) dX12_four_4 (by decide) (fun h4 => ?_) (fun h4 => absurd (by decide) h4)
  exact V.vret (pc := 39) dX12_four_39 rfl ⟨rfl, rfl, rfl, rfl, rfl, fun b h1 h2 => by rw [up2_off h1, up2_off h2, up2_off h1, up2_off h2, up2_off h1, up2_off h2, up2_off h1, up2_off h2], fun j hj => by rw [up2_ne (by omega), up2_off (by omega), up2_ne (by omega), up2_off (by omega), up2_ne (by omega), up2_off (by omega), up2_ne (by omega), up2_off (by omega)], up2_same, fun j hj => by rw [up2_off (by omega), up2_ne (by omega), up2_off (by omega), up2_ne (by omega), up2_off (by omega), up2_ne (by omega), up2_off (by omega), up2_ne (by omega)], by rw [up2_off (by omega), up2_ne (by omega), up2_off (by omega), up2_ne (by omega), up2_off (by omega), up2_ne (by omega), up2_off (by omega), up2_same], by rw [up2_off (by omega), up2_ne (by omega), up2_off (by omega), up2_ne (by omega), up2_off (by omega), up2_same], by rw [up2_off (by omega), up2_ne (by omega), up2_off (by omega), up2_same], by rw [up2_off (by omega), up2_same]⟩
def Fed (m k : Nat) (bs : List Nat) (I I' : mI) : Prop := (∀ b, b ≠ m → b ≠ m + 5 → I' b = I b) ∧ (∀ j, j ≠ 8 → I' m j = I m j) ∧ I' m 8 = nI (k + bs.length) ∧ (∀ j, (j < k ∨ k + bs.length ≤ j) → I' (m + 5) j = I (m + 5) j) ∧ ∀ (i t : Nat), bs[i]? = some t → I' (m + 5) (k + i) = nI t
theorem Fed.app {m k k2 : Nat} {b1 b2 : List Nat} {I I1 I2 : mI} (h1 : Fed m k b1 I I1) (h2 : Fed m k2 b2 I1 I2) (hk : k2 = k + b1.length) : Fed m k (b1 ++ b2) I I2 := by
  subst hk
  obtain ⟨p1, p2, p3, p4, p5⟩ := h1
  obtain ⟨q1, q2, q3, q4, q5⟩ := h2
  refine ⟨fun b u v => (q1 b u v).trans (p1 b u v), fun j u => (q2 j u).trans (p2 j u), by rw [q3, List.length_append, Nat.add_assoc], fun j u => ?_, fun i t hi => ?_⟩
  · rw [List.length_append] at u
    rw [q4 j (by omega), p4 j (by omega)]
  · by_cases e : i < b1.length
    · rw [List.getElem?_append_left e] at hi
      rw [q4 _ (by omega)]
      exact p5 i t hi
    · rw [List.getElem?_append_right (by omega)] at hi
      have := q5 _ t hi
      rw [show k + b1.length + (i - b1.length) = k + i by omega] at this
      exact this
theorem Frm.fed {m k : Nat} {bs : List Nat} {I I' I0 : mI} (h : Fed m k bs I I') (h0 : Frm m I0 I) : Frm m I0 I' := fun b hb => (h.1 b (by omega) (by omega)).trans (h0 b hb)
theorem c_fourF {g : gG} {d : Nat} {T : mT} {n : Nat} {I : mI} {J : mJ} {F : mF} {m k : Nat} (v : Int32) (hM : MS T F m) (hk : k + 4 ≤ 400) (h8 : I m 8 = nI k) : Ct g mX12_four (d + 0) [.ref m, .int v] 0 0 T n I J F (fun r' T' n' I' J' F' => r' = none ∧ T' = T ∧ n' = n ∧ J' = J ∧ F' = F ∧ Fed m k (byt4 v) I I') := by
  refine (c_four v hM hk h8).imp ?_
  rintro r' T' n' I' J' F' ⟨a1, a2, a3, a4, a5, b1, b2, b3, b4, b5, b6, b7, b8⟩
  refine ⟨a1, a2, a3, a4, a5, b1, b2, b3, b4, fun i t hi => ?_⟩
  match i, hi with
  | 0, hi => cases hi; exact b5
  | 1, hi => cases hi; exact b6
  | 2, hi => cases hi; exact b7
  | 3, hi => cases hi; exact b8
  | i + 4, hi => cases hi
theorem p_feed {g : gG} {d : Nat} {T : mT} {n : Nat} {I : mI} {J : mJ} {F : mF} {m : Nat} {A : Ab} (a b c e f : Int32) (hM : MS T F m) (hA : AbOK A) (hR : RepM I J m A)  : Ct g mX12_feed (d + 3) [.ref m, .int a, .int b, .int c, .int e, .int f] 0 0 T n I J F (QM m T n I J F (some (.int (iI (s_feed A a b c e f).1))) (s_feed A a b c e f).2) := by
  refine Ct.ofV (k := 0) (by decide) (Nat.le_of_ble_eq_true rfl) ?_
  show V g mX12_feed (d + 3) _ 0 0 0 [some (.ref m), some (.int a), some (.int b), some (.int c), some (.int e), some (.int f)] [] T n I J F
  refine V.aload_n (pc := 0) dX12_feed_0 rfl ?_
  refine V.iconst (v := 0) (pc := 1) dX12_feed_1 (by decide) ?_
  refine V.putI (pc := 2) dX12_feed_2 fX12_88_11 (fun r h => by cases h; exact Or.inl rfl) rfl hM.o ?_
  refine V.thr hR (fun I1 hR1 hf => ?_)
  clear hR
  have hR := hR1
  clear hR1
  refine V.aload_n (pc := 5) dX12_feed_5 rfl ?_
  refine V.getI (pc := 6) dX12_feed_6 fX12_138_11 rfl hM.o ?_
  have h400 := hA.2.2.1
  refine V.topi hR.1.2.2.1 ?_
  refine V.bipush (v := 20) (pc := 9) dX12_feed_9 (by decide) ?_
  refine V.iadd (pc := 11) dX12_feed_11 ?_
  rw [L20, nI_add]
  refine V.sipush (v := 400) (pc := 12) dX12_feed_12 (by decide) ?_
  refine V.icmp_le 20 (pc := 15) dX12_feed_15 (by decide) (fun h15 => ?_) (fun h15 => ?_)
  · have q : (tap A).length + 20 ≤ 400 := by
      rw [L400, nI_leI (by omega) (by omega)] at h15
      exact h15
    refine V.aload_n (pc := 20) dX12_feed_20 rfl ?_
    refine V.iload_n (pc := 21) dX12_feed_21 rfl ?_
    refine V.invV0 (as := [_]) (pc := 22) dX12_feed_22 lX12_144 bX12_four nX12_four (ci := 11) rfl eX12_four hM.o (c_fourF (d := d + 2) (k := (tap A).length + 0) _ hM (by omega) hR.1.2.2.1) (by omega) rfl (Nat.le_of_ble_eq_true rfl) ?_
    rintro _ _ _ I2 _ _ ⟨rfl, rfl, rfl, rfl, rfl, e1⟩
    have f1 := e1
    refine V.aload_n (pc := 25) dX12_feed_25 rfl ?_
    refine V.iload_n (pc := 26) dX12_feed_26 rfl ?_
    refine V.invV0 (as := [_]) (pc := 27) dX12_feed_27 lX12_144 bX12_four nX12_four (ci := 11) rfl eX12_four hM.o (c_fourF (d := d + 2) (k := (tap A).length + 4) _ hM (by omega) f1.2.2.1) (by omega) rfl (Nat.le_of_ble_eq_true rfl) ?_
    rintro _ _ _ I3 _ _ ⟨rfl, rfl, rfl, rfl, rfl, e2⟩
    have f2 := Fed.app f1 e2 (by simp [byt4])
    refine V.aload_n (pc := 30) dX12_feed_30 rfl ?_
    refine V.iload_n (pc := 31) dX12_feed_31 rfl ?_
    refine V.invV0 (as := [_]) (pc := 32) dX12_feed_32 lX12_144 bX12_four nX12_four (ci := 11) rfl eX12_four hM.o (c_fourF (d := d + 2) (k := (tap A).length + 8) _ hM (by omega) f2.2.2.1) (by omega) rfl (Nat.le_of_ble_eq_true rfl) ?_
    rintro _ _ _ I4 _ _ ⟨rfl, rfl, rfl, rfl, rfl, e3⟩
    have f3 := Fed.app f2 e3 (by simp [byt4])
    refine V.aload_n (pc := 35) dX12_feed_35 rfl ?_
    refine V.iload (pc := 36) dX12_feed_36 rfl ?_
    refine V.invV0 (as := [_]) (pc := 38) dX12_feed_38 lX12_144 bX12_four nX12_four (ci := 11) rfl eX12_four hM.o (c_fourF (d := d + 2) (k := (tap A).length + 12) _ hM (by omega) f3.2.2.1) (by omega) rfl (Nat.le_of_ble_eq_true rfl) ?_
    rintro _ _ _ I5 _ _ ⟨rfl, rfl, rfl, rfl, rfl, e4⟩
    have f4 := Fed.app f3 e4 (by simp [byt4])
    refine V.aload_n (pc := 41) dX12_feed_41 rfl ?_
    refine V.iload (pc := 42) dX12_feed_42 rfl ?_
    refine V.invV0 (as := [_]) (pc := 44) dX12_feed_44 lX12_144 bX12_four nX12_four (ci := 11) rfl eX12_four hM.o (c_fourF (d := d + 2) (k := (tap A).length + 16) _ hM (by omega) f4.2.2.1) (by omega) rfl (Nat.le_of_ble_eq_true rfl) ?_
    rintro _ _ _ I6 _ _ ⟨rfl, rfl, rfl, rfl, rfl, e5⟩
    have f5 := Fed.app f4 e5 (by simp [byt4])
    refine V.aload_n (pc := 47) dX12_feed_47 rfl ?_
    refine V.getI (pc := 48) dX12_feed_48 fX12_138_11 rfl hM.o ?_
    exact V.iret (pc := 51) dX12_feed_51 rfl ⟨by rw [s_feed, if_pos q, f5.2.2.1, iI_nat]; rfl, rfl, rfl, rfl, Frm.fed f5 hf, Frm.rf, by
    rw [s_feed, if_pos q]
    obtain ⟨p1, p2, p3, p4, p5⟩ := f5
    obtain ⟨⟨a1, a2, a3, a4, a5⟩, h2, h3, h4, h5, h6, h7⟩ := hR
    refine ⟨⟨?_, ?_, ?_, ?_, ?_⟩, ?_, ?_, fun k hk => ?_, fun i t hi => ?_, fun h x hx => ?_, h7⟩
    · rw [p2 _ (by omega)]; exact a1
    · rw [p2 _ (by omega)]; exact a2
    · rw [p3]; show _ = nI (tap A ++ (byt4 a ++ byt4 b ++ byt4 c ++ byt4 e ++ byt4 f)).length; rw [List.length_append (as := tap A)]; rfl
    · rw [p2 _ (by omega)]; exact a4
    · rw [p2 _ (by omega)]; exact a5
    · rw [p1 _ (by omega) (by omega)]; exact h2
    · rw [p1 _ (by omega) (by omega)]; exact h3
    · rw [p1 _ (by omega) (by omega), p1 _ (by omega) (by omega)]; exact h4 k hk
    · have hi2 : (tap A ++ (byt4 a ++ byt4 b ++ byt4 c ++ byt4 e ++ byt4 f))[i]? = some t := hi
      by_cases z : i < (tap A).length
      · rw [List.getElem?_append_left z] at hi2
        rw [p4 _ (by omega)]
        exact h5 i t hi2
      · rw [List.getElem?_append_right (by omega)] at hi2
        have := p5 _ t hi2
        rw [show (tap A).length + 0 + (i - (tap A).length) = i by omega] at this
        exact this
    · rw [p1 _ (by omega) (by omega), p1 _ (by omega) (by omega)]; exact h6 h x hx⟩
  · have q : ¬ (tap A).length + 20 ≤ 400 := by
      rw [L400, nI_leI (by omega) (by omega)] at h15
      exact h15
    refine V.iconst (v := (-1)) (pc := 18) dX12_feed_18 (by decide) ?_
    exact V.iret (pc := 19) dX12_feed_19 rfl ⟨by rw [s_feed, if_neg q]; rfl, rfl, rfl, rfl, hf, Frm.rf, by rw [s_feed, if_neg q]; exact hR⟩
