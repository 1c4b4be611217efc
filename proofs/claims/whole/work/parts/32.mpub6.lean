theorem l_row {g : gG} {d : Nat} {T : mT} {n : Nat} {I : mI} {J : mJ} {F : mF} {Q : mQ} {m : Nat} {A : Ab} (hM : MS T F m) (hA : AbOK A) (ht : ∀ (i t : Nat), (tap A)[i]? = some t → I (m + 5) i = nI t) (kk : ∀ I' : mI, (∀ b, b ≠ m → b ≠ m + 2 → I' b = I b) → (∀ i, i ≠ 6 → I' m i = I m i) → I' m 6 = nI ((tap A).length - ((rowF (stk (cor A)) (tap A)).length - (stk (cor A)).length)) → RowRep (I' (m + 2)) (stkC (cor A) (rowF (stk (cor A)) (tap A))) → V g mX12_row (d + 3) Q 0 0 115 [some (.ref m), some (.int (nI (tap A).length)), some (.int (nI ((rowF (stk (cor A)) (tap A)).length - (stk (cor A)).length))), some (.int (nI (tap A).length))] [] T n I' J F) : ∀ (t j : Nat) (I' : mI), j + t = (tap A).length → ((∀ b, b ≠ m → b ≠ m + 2 → I' b = I b) ∧ (∀ i, i ≠ 6 → I' m i = I m i) ∧ I' m 6 = nI (j - ((rowF (stk (cor A)) ((tap A).take j)).length - (stk (cor A)).length)) ∧ RowRep (I' (m + 2)) (stkC (cor A) (rowF (stk (cor A)) ((tap A).take j)))) → V g mX12_row (d + 3) Q 0 0 35 [some (.ref m), some (.int (nI (tap A).length)), some (.int (nI ((rowF (stk (cor A)) ((tap A).take j)).length - (stk (cor A)).length))), some (.int (nI j))] [] T n I' J F := by
  intro t
  induction t with
  | zero =>
    intro j I' hj hi
    obtain rfl : j = (tap A).length := by omega
    refine V.iload_n (pc := 35) dX12_row_35 rfl ?_
    refine V.iload_n (pc := 36) dX12_row_36 rfl ?_
    refine V.icmp_ge 115 (pc := 37) dX12_row_37 (by decide) (fun h37 => ?_) (fun h37 => absurd (nI_le (Nat.le_refl _) (by have := hA.2.2.1; omega)) h37)
    rw [List.take_length] at hi ⊢
    exact kk I' hi.1 hi.2.1 hi.2.2.1 hi.2.2.2
  | succ t ih =>
    intro j I' hj hi
    have hjl : j < (tap A).length := by omega
    obtain ⟨t, ht'⟩ : ∃ t, (tap A)[j]? = some t := ⟨_, List.getElem?_eq_getElem hjl⟩
    have et : I' (m + 5) j = nI t := by rw [hi.1 (m + 5) (by omega) (by omega)]; exact ht j t ht'
    have t255 := hA.2.2.2.1 t (List.mem_of_getElem? ht')
    have hok := rowF_ok (ts := (tap A).take j) hA.1.2.2.1 hA.1.2.2.2.1
    have hgr := rowF_grow (s := stk (cor A)) (ts := (tap A).take j)
    rw [List.length_take, Nat.min_eq_left (by omega)] at hgr
    have hle := rowF_len (s := stk (cor A)) (ts := (tap A).take j)
    have h400 := hA.2.2.1
    have hst := rowF_take (s := stk (cor A)) ht'
    have hln : I' (m + 2) 1 = nI (rowF (stk (cor A)) ((tap A).take j)).length := hi.2.2.2.1.2.1
    have hcR := stk_ok hA.1 hok.1 hok.2
    refine V.iload_n (pc := 35) dX12_row_35 rfl ?_
    refine V.iload_n (pc := 36) dX12_row_36 rfl ?_
    refine V.icmp_ge 115 (pc := 37) dX12_row_37 (by decide) (fun h37 => absurd h37 (nI_ge (by omega) (by omega))) (fun h37 => ?_)
    refine V.aload_n (pc := 40) dX12_row_40 rfl ?_
    refine V.getR (pc := 41) dX12_row_41 fX12_23_11 rfl hM.o hM.f7 ?_
    refine V.iload_n (pc := 44) dX12_row_44 rfl ?_
    refine V.iald' (k := j) (pc := 45) dX12_row_45 hM.t7 rfl (by omega) (by decide) ?_
    refine V.topi et ?_
    refine V.pS (as := [_]) (pc := 46) dX12_row_46 lX12_126 bX12_areTeeth sX12_areTeeth (c_areTeeth (d := d + 1) _) (by omega) rfl (Nat.le_of_ble_eq_true rfl) ?_
    refine V.if_eq 99 (pc := 49) dX12_row_49 (by decide) (fun h49 => ?_) (fun h49 => ?_)
    · have q := bi_eq.mp h49
      rw [nI_toInt (by omega)] at q
      refine V.aload_n (pc := 99) dX12_row_99 rfl ?_
      refine V.dup (pc := 100) dX12_row_100 rfl ?_
      refine V.getI (pc := 101) dX12_row_101 fX12_141_11 rfl hM.o ?_
      refine V.iconst (v := 1) (pc := 104) dX12_row_104 (by decide) ?_
      refine V.iadd (pc := 105) dX12_row_105 ?_
      refine V.putI (pc := 106) dX12_row_106 fX12_141_11 (fun r h => by cases h; exact Or.inl rfl) rfl hM.o ?_
      refine V.iinc1 (pc := 109) dX12_row_109 (by decide) rfl (st1_3 rfl) ?_
      refine V.goto 35 (pc := 112) dX12_row_112 (by decide) ?_
      rw [rowStep, if_neg (by omega)] at hst
      have z := ih (j + 1) (up2 I' m 6 (I' m 6 + 1)) (by omega) (by
        rw [hst]
        refine ⟨fun b q1 q2 => by rw [up2_off q1]; exact hi.1 b q1 q2, fun i q1 => by rw [up2_ne (by omega)]; exact hi.2.1 i q1, ?_, by rw [up2_off (by omega)]; exact hi.2.2.2⟩
        rw [up2_same, hi.2.2.1, nI_1]
        congr 1
        omega)
      rw [hst] at z
      rw [nI_1]
      exact z
    · have q := bi_ne.mp h49
      rw [nI_toInt (by omega)] at q
      refine V.aload_n (pc := 52) dX12_row_52 rfl ?_
      refine V.getR (pc := 53) dX12_row_53 fX12_13_11 rfl hM.o hM.f3 ?_
      refine V.iconst (v := 1) (pc := 56) dX12_row_56 (by decide) ?_
      refine V.iald' (k := 1) (pc := 57) dX12_row_57 hM.t3 rfl (by decide) (by decide) ?_
      refine V.topi hln ?_
      refine V.bipush (v := 12) (pc := 58) dX12_row_58 (by decide) ?_
      refine V.icmp_ge 99 (pc := 60) dX12_row_60 (by decide) (fun h60 => ?_) (fun h60 => ?_)
      · have q12 : ¬ (rowF (stk (cor A)) ((tap A).take j)).length < 12 := by
          rw [L12, nI_leI (by omega) (by omega)] at h60
          omega
        refine V.aload_n (pc := 99) dX12_row_99 rfl ?_
        refine V.dup (pc := 100) dX12_row_100 rfl ?_
        refine V.getI (pc := 101) dX12_row_101 fX12_141_11 rfl hM.o ?_
        refine V.iconst (v := 1) (pc := 104) dX12_row_104 (by decide) ?_
        refine V.iadd (pc := 105) dX12_row_105 ?_
        refine V.putI (pc := 106) dX12_row_106 fX12_141_11 (fun r h => by cases h; exact Or.inl rfl) rfl hM.o ?_
        refine V.iinc1 (pc := 109) dX12_row_109 (by decide) rfl (st1_3 rfl) ?_
        refine V.goto 35 (pc := 112) dX12_row_112 (by decide) ?_
        rw [rowStep, if_neg (by omega)] at hst
        have z := ih (j + 1) (up2 I' m 6 (I' m 6 + 1)) (by omega) (by
          rw [hst]
          refine ⟨fun b q1 q2 => by rw [up2_off q1]; exact hi.1 b q1 q2, fun i q1 => by rw [up2_ne (by omega)]; exact hi.2.1 i q1, ?_, by rw [up2_off (by omega)]; exact hi.2.2.2⟩
          rw [up2_same, hi.2.2.1, nI_1]
          congr 1
          omega)
        rw [hst] at z
        rw [nI_1]
        exact z
      · have q12 : (rowF (stk (cor A)) ((tap A).take j)).length < 12 := by
          rw [L12, nI_leI (by omega) (by omega)] at h60
          omega
        refine V.aload_n (pc := 63) dX12_row_63 rfl ?_
        refine V.getR (pc := 64) dX12_row_64 fX12_13_11 rfl hM.o hM.f3 ?_
        refine V.bipush (v := 82) (pc := 67) dX12_row_67 (by decide) ?_
        refine V.aload_n (pc := 69) dX12_row_69 rfl ?_
        refine V.getR (pc := 70) dX12_row_70 fX12_13_11 rfl hM.o hM.f3 ?_
        refine V.iconst (v := 1) (pc := 73) dX12_row_73 (by decide) ?_
        refine V.iald' (k := 1) (pc := 74) dX12_row_74 hM.t3 rfl (by decide) (by decide) ?_
        refine V.topi hln ?_
        refine V.iadd (pc := 75) dX12_row_75 ?_
        refine V.aload_n (pc := 76) dX12_row_76 rfl ?_
        refine V.getR (pc := 77) dX12_row_77 fX12_23_11 rfl hM.o hM.f7 ?_
        refine V.iload_n (pc := 80) dX12_row_80 rfl ?_
        refine V.iald' (k := j) (pc := 81) dX12_row_81 hM.t7 rfl (by omega) (by decide) ?_
        refine V.topi et ?_
        refine V.iast' (k := 82 + (rowF (stk (cor A)) ((tap A).take j)).length) (pc := 82) dX12_row_82 hM.t3 (by simp only [L82, nI_add]) (by omega) (by decide) ?_
        refine V.aload_n (pc := 83) dX12_row_83 rfl ?_
        refine V.getR (pc := 84) dX12_row_84 fX12_13_11 rfl hM.o hM.f3 ?_
        refine V.iconst (v := 1) (pc := 87) dX12_row_87 (by decide) ?_
        refine V.dup2 (pc := 88) dX12_row_88 rfl rfl ?_
        refine V.iald' (k := 1) (pc := 89) dX12_row_89 hM.t3 rfl (by decide) (by decide) ?_
        rw [up2_ne (by omega), hln]
        refine V.iconst (v := 1) (pc := 90) dX12_row_90 (by decide) ?_
        refine V.iadd (pc := 91) dX12_row_91 ?_
        rw [nI_1]
        refine V.iast' (k := 1) (pc := 92) dX12_row_92 hM.t3 rfl (by decide) (by decide) ?_
        refine V.iinc1 (pc := 93) dX12_row_93 (by decide) rfl (st1_2 rfl) ?_
        refine V.goto 109 (pc := 96) dX12_row_96 (by decide) ?_
        refine V.iinc1 (pc := 109) dX12_row_109 (by decide) rfl (st1_3 rfl) ?_
        refine V.goto 35 (pc := 112) dX12_row_112 (by decide) ?_
        rw [rowStep, if_pos (by omega)] at hst
        have z := ih (j + 1) (up2 (up2 I' (m + 2) (82 + (rowF (stk (cor A)) ((tap A).take j)).length) (nI t)) (m + 2) 1 (nI ((rowF (stk (cor A)) ((tap A).take j)).length + 1))) (by omega) (by
          rw [hst]
          refine ⟨fun b q1 q2 => by rw [up2_off q2, up2_off q2]; exact hi.1 b q1 q2, fun i q1 => by rw [up2_off (by omega), up2_off (by omega)]; exact hi.2.1 i q1, ?_, ?_⟩
          · rw [up2_off (by omega), up2_off (by omega), hi.2.2.1, List.length_append, List.length_singleton]
            congr 1
            omega
          · exact RowRep.wheel (t := t) hcR hi.2.2.2 q12 up2_same (by rw [up2_ne (by omega), up2_same]) (fun i q1 q2 => by
              have q2' : i ≠ 82 + (rowF (stk (cor A)) ((tap A).take j)).length := q2
              rw [up2_ne (by omega), up2_ne (by omega)]))
        rw [hst, List.length_append, List.length_singleton] at z
        rw [nI_1, nI_1, show (rowF (stk (cor A)) ((tap A).take j)).length - (stk (cor A)).length + 1 = (rowF (stk (cor A)) ((tap A).take j)).length + 1 - (stk (cor A)).length by omega]
        exact z
theorem p_row {g : gG} {d : Nat} {T : mT} {n : Nat} {I : mI} {J : mJ} {F : mF} {m : Nat} {A : Ab}  (hM : MS T F m) (hA : AbOK A) (hR : RepM I J m A)  : Ct g mX12_row (d + 3) [.ref m] 0 0 T n I J F (QM m T n I J F (some (.int (iI (s_row A).1))) (s_row A).2) := by
  refine Ct.ofV (k := 3) (by decide) (Nat.le_of_ble_eq_true rfl) ?_
  show V g mX12_row (d + 3) _ 0 0 0 [some (.ref m), none, none, none] [] T n I J F
  refine V.aload_n (pc := 0) dX12_row_0 rfl ?_
  refine V.iconst (v := 0) (pc := 1) dX12_row_1 (by decide) ?_
  refine V.putI (pc := 2) dX12_row_2 fX12_88_11 (fun r h => by cases h; exact Or.inl rfl) rfl hM.o ?_
  refine V.thr hR (fun I1 hR1 hf => ?_)
  clear hR
  have hR := hR1
  clear hR1
  refine V.aload_n (pc := 5) dX12_row_5 rfl ?_
  refine V.getI (pc := 6) dX12_row_6 fX12_138_11 rfl hM.o ?_
  have h400 := hA.2.2.1
  refine V.topi hR.1.2.2.1 ?_
  refine V.isn (pc := 9) dX12_row_9 (by decide) (st1_1 rfl) ?_
  refine V.aload_n (pc := 10) dX12_row_10 rfl ?_
  refine V.iconst (v := 0) (pc := 11) dX12_row_11 (by decide) ?_
  refine V.putI (pc := 12) dX12_row_12 fX12_138_11 (fun r h => by cases h; exact Or.inl rfl) rfl hM.o ?_
  refine V.iload_n (pc := 15) dX12_row_15 rfl ?_
  refine V.if_ne 26 (pc := 16) dX12_row_16 (by decide) (fun h16 => ?_) (fun h16 => ?_)
  · have q : ¬ (tap A).length = 0 := fun z => h16 (by rw [z]; rfl)
    refine V.aload_n (pc := 26) dX12_row_26 rfl ?_
    refine V.iconst (v := 0) (pc := 27) dX12_row_27 (by decide) ?_
    refine V.putI (pc := 28) dX12_row_28 fX12_141_11 (fun r h => by cases h; exact Or.inl rfl) rfl hM.o ?_
    refine V.iconst (v := 0) (pc := 31) dX12_row_31 (by decide) ?_
    refine V.isn (pc := 32) dX12_row_32 (by decide) (st1_2 rfl) ?_
    refine V.iconst (v := 0) (pc := 33) dX12_row_33 (by decide) ?_
    refine V.isn (pc := 34) dX12_row_34 (by decide) (st1_3 rfl) ?_
    have z := l_row (A := A) hM hA (I := up2 (up2 I1 m 8 0) m 6 0) (Q := QM m T n I J F (some (.int (iI (s_row A).1))) (s_row A).2) (g := g) (d := d) (n := n) (J := J) (fun i t hi => by rw [up2_off (by omega), up2_off (by omega)]; exact hR.2.2.2.2.1 i t hi) (fun I2 g1 g2 g3 g4 => ?_) (tap A).length 0 _ (by omega) ⟨fun _ _ _ => rfl, fun _ _ => rfl, by rw [up2_same]; simp [rowF, nI_0], by rw [up2_off (by omega), up2_off (by omega)]; exact hR.2.2.1⟩
    · simpa [rowF, nI_0] using z
    refine V.aload_n (pc := 115) dX12_row_115 rfl ?_
    refine V.iload_n (pc := 116) dX12_row_116 rfl ?_
    refine V.invV0 (as := [_]) (pc := 117) dX12_row_117 lX12_102 bX12_tell nX12_tell (ci := 11) rfl eX12_tell hM.o (c_tell (d := d + 2) _ hM (by have := rowF_grow (s := stk (cor A)) (ts := tap A); rw [nI_toInt (by omega)]; omega)) (by omega) rfl (Nat.le_of_ble_eq_true rfl) ?_
    rintro _ _ _ _ _ _ ⟨rfl, rfl, rfl, rfl, rfl, rfl⟩
    exact V.iret (pc := 120) dX12_row_120 rfl ⟨by rw [s_row, if_neg q, iI_nat], rfl, rfl, rfl, Frm.tell (((hf.up ⟨by omega, by omega⟩).up ⟨by omega, by omega⟩).trans (fun b hb => g1 b (by omega) (by omega))), Frm.rf, by
    rw [s_row, if_neg q]
    obtain ⟨⟨b1, b2, b3, b4, b5⟩, h2, h3, h4, h5, h6, h7⟩ := hR
    refine RepM.okay (A := (stkC (cor A) (rowF (stk (cor A)) (tap A)), img A, [], flt A, (tap A).length - ((rowF (stk (cor A)) (tap A)).length - (stk (cor A)).length), rfs A, sts A, stm A)) ⟨⟨?_, g3, ?_, ?_, ?_⟩, ?_, g4, fun k hk => ?_, fun i t hi => by have h0 : ([] : List Nat)[i]? = some t := hi; simp at h0, fun h x hx => ?_, h7⟩ _ (nI_pos' (by have := rowF_grow (s := stk (cor A)) (ts := tap A); omega))
    · rw [g2 _ (by omega), up2_ne (by omega), up2_ne (by omega)]; exact b1
    · rw [g2 _ (by omega), up2_ne (by omega), up2_same]; rfl
    · rw [g2 _ (by omega), up2_ne (by omega), up2_ne (by omega)]; exact b4
    · rw [g2 _ (by omega), up2_ne (by omega), up2_ne (by omega)]; exact b5
    · rw [g1 _ (by omega) (by omega), up2_off (by omega), up2_off (by omega)]; exact h2
    · rw [g1 _ (by omega) (by omega), g1 _ (by omega) (by omega), up2_off (by omega), up2_off (by omega), up2_off (by omega), up2_off (by omega)]; exact h4 k hk
    · rw [g1 _ (by omega) (by omega), g1 _ (by omega) (by omega), up2_off (by omega), up2_off (by omega), up2_off (by omega), up2_off (by omega)]; exact h6 h x hx⟩
  · have q : (tap A).length = 0 := by
      rw [L0, nI_eq (by omega) (by omega)] at h16
      exact h16
    refine V.aload_n (pc := 19) dX12_row_19 rfl ?_
    refine V.bipush (v := (-6)) (pc := 20) dX12_row_20 (by decide) ?_
    refine V.invV0 (as := [_]) (pc := 22) dX12_row_22 lX12_102 bX12_tell nX12_tell (ci := 11) rfl eX12_tell hM.o (c_tell (d := d + 2) _ hM (by first | decide | (rw [nI_toInt (by omega)]; omega))) (by omega) rfl (Nat.le_of_ble_eq_true rfl) ?_
    rintro _ _ _ _ _ _ ⟨rfl, rfl, rfl, rfl, rfl, rfl⟩
    exact V.iret (pc := 25) dX12_row_25 rfl (QM.no (A := A) (hR.sc (fun b hb => up2_off hb) A ⟨rfl, rfl, rfl, rfl⟩ (fun _ _ z => z) (by
        simp only [up2_at]
        obtain ⟨b1, b2, b3, b4, b5⟩ := hR.1
        exact ⟨b1, b2, by rw [q]; rfl, b4, b5⟩)) (hf.up ⟨by omega, by omega⟩) (by decide) (by rw [s_row, if_pos q]; rfl))
