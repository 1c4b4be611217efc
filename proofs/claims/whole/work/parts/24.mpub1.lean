theorem rt_teeth {I : mI} {J : mJ} {m : Nat} {A : Ab} {z : Int} (hR : RepM I J m A) (q : 0 ≤ z ∧ z < (stk (cor A)).length) : I (m + 2) (82 + z.toNat) = iI (s_teeth A z).1 := by
  have hl : z.toNat < (stk (cor A)).length := by omega
  rw [s_teeth]
  simp only [if_pos q]
  rw [iI_nat, List.getD_eq_getElem?_getD, hR.2.2.1.2.2.1 _ _ (List.getElem?_eq_getElem hl), List.getElem?_eq_getElem hl]
  rfl
theorem ixa {x : Int32} {a k : Nat} (hx : x = nI k) : nI a + x = nI (a + k) := by rw [hx, nI_add]
theorem p_bent {g : gG} {d : Nat} {T : mT} {n : Nat} {I : mI} {J : mJ} {F : mF} {m : Nat} {A : Ab}  (hM : MS T F m) (hA : AbOK A) (hR : RepM I J m A)  : Ct g mX12_bent (d + 3) [.ref m] 0 0 T n I J F (QM m T n I J F (some (.int (iI (((bnt A : Int), A)).1))) (((bnt A : Int), A)).2) := by
  refine Ct.ofV (k := 0) (by decide) (Nat.le_of_ble_eq_true rfl) ?_
  show V g mX12_bent (d + 3) _ 0 0 0 [some (.ref m)] [] T n I J F
  refine V.aload_n (pc := 0) dX12_bent_0 rfl ?_
  refine V.iconst (v := 0) (pc := 1) dX12_bent_1 (by decide) ?_
  refine V.putI (pc := 2) dX12_bent_2 fX12_88_11 (fun r h => by cases h; exact Or.inl rfl) rfl hM.o ?_
  refine V.thr hR (fun I1 hR1 hf => ?_)
  clear hR
  have hR := hR1
  clear hR1
  refine V.aload_n (pc := 5) dX12_bent_5 rfl ?_
  refine V.getI (pc := 6) dX12_bent_6 fX12_141_11 rfl hM.o ?_
  exact V.iret (pc := 9) dX12_bent_9 rfl ⟨by rw [hR.1.2.1, iI_nat], rfl, rfl, rfl, hf, Frm.rf, hR⟩
theorem p_fault {g : gG} {d : Nat} {T : mT} {n : Nat} {I : mI} {J : mJ} {F : mF} {m : Nat} {A : Ab}  (hM : MS T F m) (hA : AbOK A) (hR : RepM I J m A)  : Ct g mX12_fault (d + 3) [.ref m] 0 0 T n I J F (QM m T n I J F (some (.int (iI ((flt A, A)).1))) ((flt A, A)).2) := by
  refine Ct.ofV (k := 0) (by decide) (Nat.le_of_ble_eq_true rfl) ?_
  show V g mX12_fault (d + 3) _ 0 0 0 [some (.ref m)] [] T n I J F
  refine V.aload_n (pc := 0) dX12_fault_0 rfl ?_
  refine V.iconst (v := 0) (pc := 1) dX12_fault_1 (by decide) ?_
  refine V.putI (pc := 2) dX12_fault_2 fX12_88_11 (fun r h => by cases h; exact Or.inl rfl) rfl hM.o ?_
  refine V.thr hR (fun I1 hR1 hf => ?_)
  clear hR
  have hR := hR1
  clear hR1
  refine V.aload_n (pc := 5) dX12_fault_5 rfl ?_
  refine V.getI (pc := 6) dX12_fault_6 fX12_26_11 rfl hM.o ?_
  exact V.iret (pc := 9) dX12_fault_9 rfl ⟨by rw [hR.1.2.2.2.1], rfl, rfl, rfl, hf, Frm.rf, hR⟩
theorem p_status {g : gG} {d : Nat} {T : mT} {n : Nat} {I : mI} {J : mJ} {F : mF} {m : Nat} {A : Ab}  (hM : MS T F m) (hA : AbOK A) (hR : RepM I J m A)  : Ct g mX12_status (d + 3) [.ref m] 0 0 T n I J F (QM m T n I J F (some (.int (iI ((sts A, A)).1))) ((sts A, A)).2) := by
  refine Ct.ofV (k := 0) (by decide) (Nat.le_of_ble_eq_true rfl) ?_
  show V g mX12_status (d + 3) _ 0 0 0 [some (.ref m)] [] T n I J F
  refine V.aload_n (pc := 0) dX12_status_0 rfl ?_
  refine V.iconst (v := 0) (pc := 1) dX12_status_1 (by decide) ?_
  refine V.putI (pc := 2) dX12_status_2 fX12_88_11 (fun r h => by cases h; exact Or.inl rfl) rfl hM.o ?_
  refine V.thr hR (fun I1 hR1 hf => ?_)
  clear hR
  have hR := hR1
  clear hR1
  refine V.aload_n (pc := 5) dX12_status_5 rfl ?_
  refine V.getI (pc := 6) dX12_status_6 fX12_91_11 rfl hM.o ?_
  exact V.iret (pc := 9) dX12_status_9 rfl ⟨by rw [hR.1.1], rfl, rfl, rfl, hf, Frm.rf, hR⟩
theorem p_teeth {g : gG} {d : Nat} {T : mT} {n : Nat} {I : mI} {J : mJ} {F : mF} {m : Nat} {A : Ab} (x : Int32) (hM : MS T F m) (hA : AbOK A) (hR : RepM I J m A)  : Ct g mX12_teeth (d + 3) [.ref m, .int x] 0 0 T n I J F (QM m T n I J F (some (.int (iI (s_teeth A x.toInt).1))) (s_teeth A x.toInt).2) := by
  refine Ct.ofV (k := 0) (by decide) (Nat.le_of_ble_eq_true rfl) ?_
  show V g mX12_teeth (d + 3) _ 0 0 0 [some (.ref m), some (.int x)] [] T n I J F
  refine V.aload_n (pc := 0) dX12_teeth_0 rfl ?_
  refine V.iconst (v := 0) (pc := 1) dX12_teeth_1 (by decide) ?_
  refine V.putI (pc := 2) dX12_teeth_2 fX12_88_11 (fun r h => by cases h; exact Or.inl rfl) rfl hM.o ?_
  refine V.thr hR (fun I1 hR1 hf => ?_)
  clear hR
  have hR := hR1
  clear hR1
  refine V.aload_n (pc := 5) dX12_teeth_5 rfl ?_
  refine V.iload_n (pc := 6) dX12_teeth_6 rfl ?_
  refine V.pV (as := [_]) (pc := 7) dX12_teeth_7 lX12_135 bX12_isWheel nX12_isWheel (ci := 11) rfl eX12_isWheel hM.o (c_isWheel (d := d + 1) _ hM (by have := hA.1.2.2.1; omega) hR.h1) (by omega) rfl (Nat.le_of_ble_eq_true rfl) ?_
  refine V.if_eq 25 (pc := 10) dX12_teeth_10 (by decide) (fun h10 => ?_) (fun h10 => ?_)
  · have q := bi_eq.mp h10
    refine V.iconst (v := (-1)) (pc := 25) dX12_teeth_25 (by decide) ?_
    exact V.iret (pc := 26) dX12_teeth_26 rfl ⟨by rw [s_teeth, if_neg q]; rfl, rfl, rfl, rfl, hf, Frm.rf, hR⟩
  · have q := bi_ne.mp h10
    have hx := nIx q.1 rfl
    have hb := hA.1.2.2.1
    refine V.aload_n (pc := 13) dX12_teeth_13 rfl ?_
    refine V.getR (pc := 14) dX12_teeth_14 fX12_13_11 rfl hM.o hM.f3 ?_
    refine V.bipush (v := 82) (pc := 17) dX12_teeth_17 (by decide) ?_
    refine V.iload_n (pc := 19) dX12_teeth_19 rfl ?_
    refine V.iadd (pc := 20) dX12_teeth_20 ?_
    refine V.iald' (k := 82 + x.toInt.toNat) (pc := 21) dX12_teeth_21 hM.t3 (by rw [L82]; exact ixa hx) (by omega) (by decide) ?_
    refine V.goto 26 (pc := 22) dX12_teeth_22 (by decide) ?_
    exact V.iret (pc := 26) dX12_teeth_26 rfl ⟨congrArg (fun z => some (Value.int z)) (rt_teeth hR q), rfl, rfl, rfl, hf, Frm.rf, hR⟩
theorem p_wheel {g : gG} {d : Nat} {T : mT} {n : Nat} {I : mI} {J : mJ} {F : mF} {m : Nat} {A : Ab} (x : Int32) (hM : MS T F m) (hA : AbOK A) (hR : RepM I J m A)  : Ct g mX12_wheel (d + 3) [.ref m, .int x] 0 0 T n I J F (QM m T n I J F (some (.int (iI (s_wheel A x.toInt).1))) (s_wheel A x.toInt).2) := by
  refine Ct.ofV (k := 1) (by decide) (Nat.le_of_ble_eq_true rfl) ?_
  show V g mX12_wheel (d + 3) _ 0 0 0 [some (.ref m), some (.int x), none] [] T n I J F
  refine V.aload_n (pc := 0) dX12_wheel_0 rfl ?_
  refine V.iconst (v := 0) (pc := 1) dX12_wheel_1 (by decide) ?_
  refine V.putI (pc := 2) dX12_wheel_2 fX12_88_11 (fun r h => by cases h; exact Or.inl rfl) rfl hM.o ?_
  refine V.thr hR (fun I1 hR1 hf => ?_)
  clear hR
  have hR := hR1
  clear hR1
  refine V.iload_n (pc := 5) dX12_wheel_5 rfl ?_
  refine V.pS (as := [_]) (pc := 6) dX12_wheel_6 lX12_126 bX12_areTeeth sX12_areTeeth (c_areTeeth (d := d + 1) _) (by omega) rfl (Nat.le_of_ble_eq_true rfl) ?_
  refine V.if_ne 18 (pc := 9) dX12_wheel_9 (by decide) (fun h9 => ?_) (fun h9 => ?_)
  · have q := bi_ne.mp h9
    have hb := hA.1.2.2.1
    refine V.aload_n (pc := 18) dX12_wheel_18 rfl ?_
    refine V.getR (pc := 19) dX12_wheel_19 fX12_13_11 rfl hM.o hM.f3 ?_
    refine V.iconst (v := 1) (pc := 22) dX12_wheel_22 (by decide) ?_
    refine V.iald' (k := 1) (pc := 23) dX12_wheel_23 hM.t3 rfl (by decide) (by decide) ?_
    refine V.topi hR.h1 ?_
    refine V.isn (pc := 24) dX12_wheel_24 (by decide) (st1_2 rfl) ?_
    refine V.iload_n (pc := 25) dX12_wheel_25 rfl ?_
    refine V.bipush (v := 12) (pc := 26) dX12_wheel_26 (by decide) ?_
    refine V.icmp_ne 38 (pc := 28) dX12_wheel_28 (by decide) (fun h28 => ?_) (fun h28 => ?_)
    · have h12 : ¬ (stk (cor A)).length = 12 := by
        rw [L12, nI_eq (by omega) (by omega)] at h28
        exact h28
      refine V.aload_n (pc := 38) dX12_wheel_38 rfl ?_
      refine V.getR (pc := 39) dX12_wheel_39 fX12_13_11 rfl hM.o hM.f3 ?_
      refine V.bipush (v := 82) (pc := 42) dX12_wheel_42 (by decide) ?_
      refine V.iload_n (pc := 44) dX12_wheel_44 rfl ?_
      refine V.iadd (pc := 45) dX12_wheel_45 ?_
      refine V.iload_n (pc := 46) dX12_wheel_46 rfl ?_
      refine V.iast' (k := 82 + (stk (cor A)).length) (pc := 47) dX12_wheel_47 hM.t3 (by simp only [L82, nI_add]) (by omega) (by decide) ?_
      refine V.aload_n (pc := 48) dX12_wheel_48 rfl ?_
      refine V.getR (pc := 49) dX12_wheel_49 fX12_13_11 rfl hM.o hM.f3 ?_
      refine V.iconst (v := 1) (pc := 52) dX12_wheel_52 (by decide) ?_
      refine V.dup2 (pc := 53) dX12_wheel_53 rfl rfl ?_
      refine V.iald' (k := 1) (pc := 54) dX12_wheel_54 hM.t3 rfl (by decide) (by decide) ?_
      refine V.iconst (v := 1) (pc := 55) dX12_wheel_55 (by decide) ?_
      refine V.iadd (pc := 56) dX12_wheel_56 ?_
      refine V.iast' (k := 1) (pc := 57) dX12_wheel_57 hM.t3 rfl (by decide) (by decide) ?_
      refine V.aload_n (pc := 58) dX12_wheel_58 rfl ?_
      refine V.iload_n (pc := 59) dX12_wheel_59 rfl ?_
      refine V.invV0 (as := [_]) (pc := 60) dX12_wheel_60 lX12_102 bX12_tell nX12_tell (ci := 11) rfl eX12_tell hM.o (c_tell (d := d + 2) _ hM (by first | decide | (rw [nI_toInt (by omega)]; omega))) (by omega) rfl (Nat.le_of_ble_eq_true rfl) ?_
      rintro _ _ _ _ _ _ ⟨rfl, rfl, rfl, rfl, rfl, rfl⟩
      exact V.iret (pc := 63) dX12_wheel_63 rfl ⟨by rw [s_wheel, if_pos q, if_neg h12, iI_nat], rfl, rfl, rfl, ((hf.up ⟨by omega, by omega⟩).up ⟨by omega, by omega⟩).tell, Frm.rf, by
        rw [s_wheel, if_pos q, if_neg h12]
        refine RepM.okay (hR.setRow (fun b hb => by rw [up2_off hb, up2_off hb]) ?_) _ (nI_pos' (by omega))
        refine RowRep.wheel hA.1 hR.2.2.1 (by omega) ?_ ?_ (fun j h1 h2 => by rw [up2_ne (by omega), up2_ne (by omega)])
        · rw [up2_same, up2_ne (by omega), hR.h1, nI_1]
        · rw [up2_ne (by omega), up2_same]; exact nIx (by omega) rfl⟩
    · have h12 : (stk (cor A)).length = 12 := by
        rw [L12, nI_eq (by omega) (by omega)] at h28
        exact h28
      refine V.aload_n (pc := 31) dX12_wheel_31 rfl ?_
      refine V.bipush (v := (-5)) (pc := 32) dX12_wheel_32 (by decide) ?_
      refine V.invV0 (as := [_]) (pc := 34) dX12_wheel_34 lX12_102 bX12_tell nX12_tell (ci := 11) rfl eX12_tell hM.o (c_tell (d := d + 2) _ hM (by first | decide | (rw [nI_toInt (by omega)]; omega))) (by omega) rfl (Nat.le_of_ble_eq_true rfl) ?_
      rintro _ _ _ _ _ _ ⟨rfl, rfl, rfl, rfl, rfl, rfl⟩
      exact V.iret (pc := 37) dX12_wheel_37 rfl (QM.no hR hf (by decide) (by rw [s_wheel, if_pos q, if_pos h12]; rfl))
  · have q := bi_eq.mp h9
    refine V.aload_n (pc := 12) dX12_wheel_12 rfl ?_
    refine V.iconst (v := (-1)) (pc := 13) dX12_wheel_13 (by decide) ?_
    refine V.invV0 (as := [_]) (pc := 14) dX12_wheel_14 lX12_102 bX12_tell nX12_tell (ci := 11) rfl eX12_tell hM.o (c_tell (d := d + 2) _ hM (by first | decide | (rw [nI_toInt (by omega)]; omega))) (by omega) rfl (Nat.le_of_ble_eq_true rfl) ?_
    rintro _ _ _ _ _ _ ⟨rfl, rfl, rfl, rfl, rfl, rfl⟩
    exact V.iret (pc := 17) dX12_wheel_17 rfl (QM.no hR hf (by decide) (by rw [s_wheel, if_neg q]; rfl))
theorem p_end {g : gG} {d : Nat} {T : mT} {n : Nat} {I : mI} {J : mJ} {F : mF} {m : Nat} {A : Ab} (x : Int32) (hM : MS T F m) (hA : AbOK A) (hR : RepM I J m A)  : Ct g mX12_end (d + 3) [.ref m, .int x] 0 0 T n I J F (QM m T n I J F (some (.int (iI (s_end A x.toInt).1))) (s_end A x.toInt).2) := by
  refine Ct.ofV (k := 0) (by decide) (Nat.le_of_ble_eq_true rfl) ?_
  show V g mX12_end (d + 3) _ 0 0 0 [some (.ref m), some (.int x)] [] T n I J F
  refine V.aload_n (pc := 0) dX12_end_0 rfl ?_
  refine V.iconst (v := 0) (pc := 1) dX12_end_1 (by decide) ?_
  refine V.putI (pc := 2) dX12_end_2 fX12_88_11 (fun r h => by cases h; exact Or.inl rfl) rfl hM.o ?_
  refine V.thr hR (fun I1 hR1 hf => ?_)
  clear hR
  have hR := hR1
  clear hR1
  refine V.iload_n (pc := 5) dX12_end_5 rfl ?_
  refine V.if_lt 17 (pc := 6) dX12_end_6 (by decide) (fun h6 => ?_) (fun h6 => ?_)
  · have q : ¬ (0 ≤ x.toInt ∧ x.toInt ≤ (tap A).length) := by
      rw [lt32] at h6
      have e0 : (0 : Int32).toInt = 0 := rfl
      omega
    refine V.iconst (v := (-1)) (pc := 17) dX12_end_17 (by decide) ?_
    exact V.iret (pc := 18) dX12_end_18 rfl ⟨by rw [s_end, if_neg q]; rfl, rfl, rfl, rfl, hf, Frm.rf, by rw [s_end, if_neg q]; exact hR⟩
  · have q0 : 0 ≤ x.toInt := by
      rw [lt32] at h6
      have e0 : (0 : Int32).toInt = 0 := rfl
      omega
    have ht := hA.2.2.1
    refine V.iload_n (pc := 9) dX12_end_9 rfl ?_
    refine V.aload_n (pc := 10) dX12_end_10 rfl ?_
    refine V.getI (pc := 11) dX12_end_11 fX12_138_11 rfl hM.o ?_
    rw [hR.1.2.2.1]
    refine V.icmp_le 19 (pc := 14) dX12_end_14 (by decide) (fun h14 => ?_) (fun h14 => ?_)
    · have q : x.toInt ≤ (tap A).length := by
        rw [le32, nI_toInt (by omega)] at h14
        exact h14
      refine V.aload_n (pc := 19) dX12_end_19 rfl ?_
      refine V.iload_n (pc := 20) dX12_end_20 rfl ?_
      refine V.putI (pc := 21) dX12_end_21 fX12_138_11 (fun r h => by cases h; exact Or.inl rfl) rfl hM.o ?_
      refine V.iload_n (pc := 24) dX12_end_24 rfl ?_
      exact V.iret (pc := 25) dX12_end_25 rfl ⟨by rw [s_end, if_pos ⟨q0, q⟩, ← iI_of], rfl, rfl, rfl, hf.up ⟨by omega, by omega⟩, Frm.rf, by
        rw [s_end, if_pos ⟨q0, q⟩]
        refine hR.sc (fun b hb => up2_off hb) _ ⟨rfl, rfl, rfl, rfl⟩ (fun i t hi => ?_) ?_
        · have hi2 : ((tap A).take x.toInt.toNat)[i]? = some t := hi
          rw [List.getElem?_take] at hi2
          split at hi2
          · exact hi2
          · cases hi2
        · simp only [up2_at]
          obtain ⟨b1, b2, b3, b4, b5⟩ := hR.1
          refine ⟨b1, b2, ?_, b4, b5⟩
          show x = nI ((tap A).take x.toInt.toNat).length
          rw [List.length_take, Nat.min_eq_left (by omega)]
          exact nIx q0 rfl⟩
    · have q : ¬ (0 ≤ x.toInt ∧ x.toInt ≤ (tap A).length) := by
        rw [le32, nI_toInt (by omega)] at h14
        omega
      refine V.iconst (v := (-1)) (pc := 17) dX12_end_17 (by decide) ?_
      exact V.iret (pc := 18) dX12_end_18 rfl ⟨by rw [s_end, if_neg q]; rfl, rfl, rfl, rfl, hf, Frm.rf, by rw [s_end, if_neg q]; exact hR⟩
theorem p_terms {g : gG} {d : Nat} {T : mT} {n : Nat} {I : mI} {J : mJ} {F : mF} {m : Nat} {A : Ab} (w x : Int32) (hM : MS T F m) (hA : AbOK A) (hR : RepM I J m A)  : Ct g mX12_terms (d + 3) [.ref m, .int w, .int x] 0 0 T n I J F (QM m T n I J F (some (.int (iI (s_terms A w.toInt x.toInt).1))) (s_terms A w.toInt x.toInt).2) := by
  refine Ct.ofV (k := 0) (by decide) (Nat.le_of_ble_eq_true rfl) ?_
  show V g mX12_terms (d + 3) _ 0 0 0 [some (.ref m), some (.int w), some (.int x)] [] T n I J F
  refine V.aload_n (pc := 0) dX12_terms_0 rfl ?_
  refine V.iconst (v := 0) (pc := 1) dX12_terms_1 (by decide) ?_
  refine V.putI (pc := 2) dX12_terms_2 fX12_88_11 (fun r h => by cases h; exact Or.inl rfl) rfl hM.o ?_
  refine V.thr hR (fun I1 hR1 hf => ?_)
  clear hR
  have hR := hR1
  clear hR1
  refine V.iload_n (pc := 5) dX12_terms_5 rfl ?_
  refine V.if_ne 31 (pc := 6) dX12_terms_6 (by decide) (fun h6 => ?_) (fun h6 => ?_)
  · have q : ¬ (w.toInt = 0 ∧ 1 ≤ x.toInt ∧ x.toInt ≤ 1000000) := fun z => h6 ((eq32 w 0).mpr z.1)
    refine V.aload_n (pc := 31) dX12_terms_31 rfl ?_
    refine V.iconst (v := (-1)) (pc := 32) dX12_terms_32 (by decide) ?_
    refine V.invV0 (as := [_]) (pc := 33) dX12_terms_33 lX12_102 bX12_tell nX12_tell (ci := 11) rfl eX12_tell hM.o (c_tell (d := d + 2) _ hM (by first | decide | (rw [nI_toInt (by omega)]; omega))) (by omega) rfl (Nat.le_of_ble_eq_true rfl) ?_
    rintro _ _ _ _ _ _ ⟨rfl, rfl, rfl, rfl, rfl, rfl⟩
    exact V.iret (pc := 36) dX12_terms_36 rfl (QM.no hR hf (by decide) (by rw [s_terms, if_neg q]; rfl))
  · have q0 : w.toInt = 0 := by rw [h6]; rfl
    refine V.iload_n (pc := 9) dX12_terms_9 rfl ?_
    refine V.i2l (pc := 10) dX12_terms_10 ?_
    refine V.lconst (v := 1) (pc := 11) dX12_terms_11 (by decide) ?_
    refine V.ldc2 (pc := 12) dX12_terms_12 qX12_105 ?_
    refine V.pS (as := [_, _, _]) (pc := 15) dX12_terms_15 lX12_98 bX12_in sX12_in (c_in (d := d + 2) _ _ _) (by omega) rfl (Nat.le_of_ble_eq_true rfl) ?_
    refine V.if_eq 31 (pc := 18) dX12_terms_18 (by decide) (fun h18 => ?_) (fun h18 => ?_)
    · have q : ¬ (w.toInt = 0 ∧ 1 ≤ x.toInt ∧ x.toInt ≤ 1000000) := fun z => bi_eq.mp h18 ((in64 x 1 1000000 1 1000000 rfl rfl).mpr z.2)
      refine V.aload_n (pc := 31) dX12_terms_31 rfl ?_
      refine V.iconst (v := (-1)) (pc := 32) dX12_terms_32 (by decide) ?_
      refine V.invV0 (as := [_]) (pc := 33) dX12_terms_33 lX12_102 bX12_tell nX12_tell (ci := 11) rfl eX12_tell hM.o (c_tell (d := d + 2) _ hM (by first | decide | (rw [nI_toInt (by omega)]; omega))) (by omega) rfl (Nat.le_of_ble_eq_true rfl) ?_
      rintro _ _ _ _ _ _ ⟨rfl, rfl, rfl, rfl, rfl, rfl⟩
      exact V.iret (pc := 36) dX12_terms_36 rfl (QM.no hR hf (by decide) (by rw [s_terms, if_neg q]; rfl))
    · have q : w.toInt = 0 ∧ 1 ≤ x.toInt ∧ x.toInt ≤ 1000000 := ⟨q0, (in64 x 1 1000000 1 1000000 rfl rfl).mp (bi_ne.mp h18)⟩
      refine V.aload_n (pc := 21) dX12_terms_21 rfl ?_
      refine V.bipush (v := 6) (pc := 22) dX12_terms_22 (by decide) ?_
      refine V.iload_n (pc := 24) dX12_terms_24 rfl ?_
      refine V.invV0 (as := [_, _]) (pc := 25) dX12_terms_25 lX12_119 bX12_change nX12_change (ci := 11) rfl eX12_change hM.o (c_change (d := d + 1) (k := 6) _ _ hM rfl (by decide)) (by omega) rfl (Nat.le_of_ble_eq_true rfl) ?_
      rintro _ _ _ _ _ _ ⟨rfl, rfl, rfl, rfl, rfl, rfl⟩
      refine V.goto 36 (pc := 28) dX12_terms_28 (by decide) ?_
      exact V.iret (pc := 36) dX12_terms_36 rfl ⟨by rw [s_terms, if_pos q, iI_nat, hR.h6], rfl, rfl, rfl, ((hf.up ⟨by omega, by omega⟩).up ⟨by omega, by omega⟩), Frm.rf, by
        rw [s_terms, if_pos q]
        refine RepM.was (hR.setRow (fun b hb => up2_off hb) ?_)
        exact RowRep.sc6 hA.1 hR.2.2.1 (by rw [up2_same]; exact nIx (by omega) rfl) (fun j hj => up2_ne (by omega))⟩
theorem p_forget {g : gG} {d : Nat} {T : mT} {n : Nat} {I : mI} {J : mJ} {F : mF} {m : Nat} {A : Ab}  (hM : MS T F m) (hA : AbOK A) (hR : RepM I J m A)  : Ct g mX12_forget (d + 3) [.ref m] 0 0 T n I J F (QM m T n I J F (some (.int (iI (s_forget A).1))) (s_forget A).2) := by
  refine Ct.ofV (k := 1) (by decide) (Nat.le_of_ble_eq_true rfl) ?_
  show V g mX12_forget (d + 3) _ 0 0 0 [some (.ref m), none] [] T n I J F
  refine V.aload_n (pc := 0) dX12_forget_0 rfl ?_
  refine V.iconst (v := 0) (pc := 1) dX12_forget_1 (by decide) ?_
  refine V.putI (pc := 2) dX12_forget_2 fX12_88_11 (fun r h => by cases h; exact Or.inl rfl) rfl hM.o ?_
  refine V.thr hR (fun I1 hR1 hf => ?_)
  clear hR
  have hR := hR1
  clear hR1
  refine V.aload_n (pc := 5) dX12_forget_5 rfl ?_
  refine V.getR (pc := 6) dX12_forget_6 fX12_13_11 rfl hM.o hM.f3 ?_
  refine V.iconst (v := 4) (pc := 9) dX12_forget_9 (by decide) ?_
  refine V.iald' (k := 4) (pc := 10) dX12_forget_10 hM.t3 rfl (by decide) (by decide) ?_
  refine V.topi hR.h4 ?_
  refine V.isn (pc := 11) dX12_forget_11 (by decide) (st1_1 rfl) ?_
  refine V.aload_n (pc := 12) dX12_forget_12 rfl ?_
  refine V.getR (pc := 13) dX12_forget_13 fX12_13_11 rfl hM.o hM.f3 ?_
  refine V.iconst (v := 4) (pc := 16) dX12_forget_16 (by decide) ?_
  refine V.iconst (v := 0) (pc := 17) dX12_forget_17 (by decide) ?_
  refine V.iast' (k := 4) (pc := 18) dX12_forget_18 hM.t3 rfl (by decide) (by decide) ?_
  refine V.iload_n (pc := 19) dX12_forget_19 rfl ?_
  exact V.iret (pc := 20) dX12_forget_20 rfl ⟨by rw [s_forget, iI_nat], rfl, rfl, rfl, hf.up ⟨by omega, by omega⟩, Frm.rf, by
        refine hR.setRow (fun b hb => up2_off hb) ?_
        exact RowRep.sc4 hA.1 hR.2.2.1 up2_same (fun j hj => up2_ne (by omega))⟩
theorem p_force {g : gG} {d : Nat} {T : mT} {n : Nat} {I : mI} {J : mJ} {F : mF} {m : Nat} {A : Ab} (x : Int32) (hM : MS T F m) (hA : AbOK A) (hR : RepM I J m A)  : Ct g mX12_force (d + 3) [.ref m, .int x] 0 0 T n I J F (QM m T n I J F (some (.int (iI (s_force A x.toInt).1))) (s_force A x.toInt).2) := by
  refine Ct.ofV (k := 0) (by decide) (Nat.le_of_ble_eq_true rfl) ?_
  show V g mX12_force (d + 3) _ 0 0 0 [some (.ref m), some (.int x)] [] T n I J F
  refine V.aload_n (pc := 0) dX12_force_0 rfl ?_
  refine V.iconst (v := 0) (pc := 1) dX12_force_1 (by decide) ?_
  refine V.putI (pc := 2) dX12_force_2 fX12_88_11 (fun r h => by cases h; exact Or.inl rfl) rfl hM.o ?_
  refine V.thr hR (fun I1 hR1 hf => ?_)
  clear hR
  have hR := hR1
  clear hR1
  refine V.iload_n (pc := 5) dX12_force_5 rfl ?_
  refine V.iconst (v := (-1)) (pc := 6) dX12_force_6 (by decide) ?_
  refine V.icmp_eq 28 (pc := 7) dX12_force_7 (by decide) (fun h7 => ?_) (fun h7 => ?_)
  · have q : x.toInt = -1 ∨ (0 ≤ x.toInt ∧ x.toInt < (lws (cor A)).length) := Or.inl (by rw [h7]; rfl)
    refine V.aload_n (pc := 28) dX12_force_28 rfl ?_
    refine V.iconst (v := 3) (pc := 29) dX12_force_29 (by decide) ?_
    refine V.iload_n (pc := 30) dX12_force_30 rfl ?_
    refine V.invV0 (as := [_, _]) (pc := 31) dX12_force_31 lX12_119 bX12_change nX12_change (ci := 11) rfl eX12_change hM.o (c_change (d := d + 1) (k := 3) _ _ hM rfl (by decide)) (by omega) rfl (Nat.le_of_ble_eq_true rfl) ?_
    rintro _ _ _ _ _ _ ⟨rfl, rfl, rfl, rfl, rfl, rfl⟩
    refine V.goto 43 (pc := 34) dX12_force_34 (by decide) ?_
    exact V.iret (pc := 43) dX12_force_43 rfl ⟨by rw [s_force, if_pos q, hR.h3], rfl, rfl, rfl, ((hf.up ⟨by omega, by omega⟩).up ⟨by omega, by omega⟩), Frm.rf, by
        rw [s_force, if_pos q]
        refine RepM.was (hR.setRow (fun b hb => up2_off hb) ?_)
        exact RowRep.sc3 hA.1 hR.2.2.1 (by rw [up2_same]; exact iI_of x) (fun j hj => up2_ne (by omega))⟩
  · have hl := hA.1.2.2.2.2.1
    refine V.iload_n (pc := 10) dX12_force_10 rfl ?_
    refine V.i2l (pc := 11) dX12_force_11 ?_
    refine V.lconst (v := 0) (pc := 12) dX12_force_12 (by decide) ?_
    refine V.aload_n (pc := 13) dX12_force_13 rfl ?_
    refine V.getR (pc := 14) dX12_force_14 fX12_13_11 rfl hM.o hM.f3 ?_
    refine V.iconst (v := 2) (pc := 17) dX12_force_17 (by decide) ?_
    refine V.iald' (k := 2) (pc := 18) dX12_force_18 hM.t3 rfl (by decide) (by decide) ?_
    refine V.topi hR.h2 ?_
    refine V.i2l (pc := 19) dX12_force_19 ?_
    refine V.lconst (v := 1) (pc := 20) dX12_force_20 (by decide) ?_
    refine V.lsub (pc := 21) dX12_force_21 ?_
    refine V.pS (as := [_, _, _]) (pc := 22) dX12_force_22 lX12_98 bX12_in sX12_in (c_in (d := d + 2) _ _ _) (by omega) rfl (Nat.le_of_ble_eq_true rfl) ?_
    refine V.if_eq 37 (pc := 25) dX12_force_25 (by decide) (fun h25 => ?_) (fun h25 => ?_)
    · have q : ¬ (x.toInt = -1 ∨ (0 ≤ x.toInt ∧ x.toInt < (lws (cor A)).length)) := by
        rintro (z | z)
        · exact h7 ((eq32 x (-1)).mpr z)
        · exact bi_eq.mp h25 ((in0 x _ (by omega)).mpr z)
      refine V.aload_n (pc := 37) dX12_force_37 rfl ?_
      refine V.bipush (v := (-2)) (pc := 38) dX12_force_38 (by decide) ?_
      refine V.invV0 (as := [_]) (pc := 40) dX12_force_40 lX12_102 bX12_tell nX12_tell (ci := 11) rfl eX12_tell hM.o (c_tell (d := d + 2) _ hM (by first | decide | (rw [nI_toInt (by omega)]; omega))) (by omega) rfl (Nat.le_of_ble_eq_true rfl) ?_
      rintro _ _ _ _ _ _ ⟨rfl, rfl, rfl, rfl, rfl, rfl⟩
      exact V.iret (pc := 43) dX12_force_43 rfl (QM.no hR hf (by decide) (by rw [s_force, if_neg q]; rfl))
    · have q : x.toInt = -1 ∨ (0 ≤ x.toInt ∧ x.toInt < (lws (cor A)).length) := Or.inr ((in0 x _ (by omega)).mp (bi_ne.mp h25))
      refine V.aload_n (pc := 28) dX12_force_28 rfl ?_
      refine V.iconst (v := 3) (pc := 29) dX12_force_29 (by decide) ?_
      refine V.iload_n (pc := 30) dX12_force_30 rfl ?_
      refine V.invV0 (as := [_, _]) (pc := 31) dX12_force_31 lX12_119 bX12_change nX12_change (ci := 11) rfl eX12_change hM.o (c_change (d := d + 1) (k := 3) _ _ hM rfl (by decide)) (by omega) rfl (Nat.le_of_ble_eq_true rfl) ?_
      rintro _ _ _ _ _ _ ⟨rfl, rfl, rfl, rfl, rfl, rfl⟩
      refine V.goto 43 (pc := 34) dX12_force_34 (by decide) ?_
      exact V.iret (pc := 43) dX12_force_43 rfl ⟨by rw [s_force, if_pos q, hR.h3], rfl, rfl, rfl, ((hf.up ⟨by omega, by omega⟩).up ⟨by omega, by omega⟩), Frm.rf, by
        rw [s_force, if_pos q]
        refine RepM.was (hR.setRow (fun b hb => up2_off hb) ?_)
        exact RowRep.sc3 hA.1 hR.2.2.1 (by rw [up2_same]; exact iI_of x) (fun j hj => up2_ne (by omega))⟩
