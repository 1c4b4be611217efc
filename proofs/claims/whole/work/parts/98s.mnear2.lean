-- nearest, near
theorem NrF.rep {m : Nat} {I I' : mI} {J J' : mJ} {A : Ab} (f : NrF m I J I' J') (h : RepM I J m A) : RepM I' J' m A := by
  obtain ⟨⟨a1, a2, a3, a4, a5⟩, h2, h3, h4, h5, h6, h7⟩ := h
  refine ⟨⟨?_, ?_, ?_, ?_, ?_⟩, ?_, ?_, fun k hk => ?_, fun i t hi => ?_, fun h x hx => ?_, ?_⟩
  · rw [f.2.1 1 (by omega)]; exact a1
  · rw [f.2.1 6 (by omega)]; exact a2
  · rw [f.2.1 8 (by omega)]; exact a3
  · rw [f.2.1 13 (by omega)]; exact a4
  · rw [f.2.1 42 (by omega)]; exact a5
  · rw [f.1 _ (by omega) (by omega) (by omega)]; exact h2
  · rw [f.1 _ (by omega) (by omega) (by omega)]; exact h3
  · rw [f.1 _ (by omega) (by omega) (by omega), f.1 (m + 3) (by omega) (by omega) (by omega)]; exact h4 k hk
  · rw [f.1 _ (by omega) (by omega) (by omega)]; exact h5 i t hi
  · rw [f.1 _ (by omega) (by omega) (by omega), f.1 (m + 19) (by omega) (by omega) (by omega)]; exact h6 h x hx
  · rw [f.2.2 _ (by omega)]; exact h7
theorem NrF.frm {m : Nat} {I I' : mI} {J J' : mJ} (f : NrF m I J I' J') : Frm m I I' ∧ Frm m J J' := ⟨fun b hb => f.1 b (by omega) (by omega) (by omega), fun b hb => f.2.2 b (by omega)⟩
theorem i_pred {w : Int32} (h : 1 ≤ w.toInt) : w - 1 = nI (w.toInt.toNat - 1) := by
  rw [show w - 1 = iI (w.toInt - 1) from by rw [← iI_sub, ← iI_of]; rfl, ← iI_nat]
  congr 1
  omega
theorem c_canNear {g : gG} {d : Nat} {T : mT} {n : Nat} {I : mI} {J : mJ} {F : mF} {m k : Nat} (p q : Int32) (hM : MS T F m) (h1 : I (m + 2) 1 = nI k) (hk : k ≤ 12) : Ct g mX12_canNear (d + 2) [.ref m, .int p, .int q] 0 0 T n I J F (pureQ T n I J F (some (.int (bi (((1 ≤ p.toInt ∧ p.toInt ≤ 100000) ∧ (1 ≤ q.toInt ∧ q.toInt ≤ 100000)) ∧ 1 < k))))) := by
  refine Ct.ofV (k := 0) (by decide) (Nat.le_of_ble_eq_true rfl) ?_
  show V g mX12_canNear (d + 2) _ 0 0 0 [some (.ref m), some (.int p), some (.int q)] [] T n I J F
  refine V.iload_n (pc := 0) dX12_canNear_0 rfl ?_
  refine V.iload_n (pc := 1) dX12_canNear_1 rfl ?_
  refine V.pS (as := [_, _]) (pc := 2) dX12_canNear_2 lX12_363 bX12_isRate sX12_isRate (c_isRate (d := d + 0) _ _) (by omega) rfl (Nat.le_of_ble_eq_true rfl) ?_
  refine V.if_eq 22 (pc := 5) dX12_canNear_5 (by decide) (fun h5 => ?_) (fun h5 => ?_)
  · have q1 := bi_eq.mp h5
    refine V.iconst (v := 0) (pc := 22) dX12_canNear_22 (by decide) ?_
    exact V.zret (pc := 23) dX12_canNear_23 rfl (by first | exact Or.inl rfl | exact Or.inr rfl | exact bi_or | assumption) ⟨by rw [bi_f (fun z => q1 z.1)], rfl, rfl, rfl, rfl, rfl⟩
  · have q1 := bi_ne.mp h5
    refine V.aload_n (pc := 8) dX12_canNear_8 rfl ?_
    refine V.getR (pc := 9) dX12_canNear_9 fX12_13_11 rfl hM.o hM.f3 ?_
    refine V.iconst (v := 1) (pc := 12) dX12_canNear_12 (by decide) ?_
    refine V.iald' (k := 1) (pc := 13) dX12_canNear_13 hM.t3 rfl (by decide) (by decide) ?_
    rw [h1]
    refine V.iconst (v := 1) (pc := 14) dX12_canNear_14 (by decide) ?_
    refine V.icmp_le 22 (pc := 15) dX12_canNear_15 (by decide) (fun h15 => ?_) (fun h15 => ?_)
    · rw [le32, nI_toInt (by omega)] at h15
      have q2 : ¬ 1 < k := by have e1 : (1 : Int32).toInt = 1 := rfl; omega
      refine V.iconst (v := 0) (pc := 22) dX12_canNear_22 (by decide) ?_
      exact V.zret (pc := 23) dX12_canNear_23 rfl (by first | exact Or.inl rfl | exact Or.inr rfl | exact bi_or | assumption) ⟨by rw [bi_f (fun z => q2 z.2)], rfl, rfl, rfl, rfl, rfl⟩
    · rw [le32, nI_toInt (by omega)] at h15
      have q2 : 1 < k := by have e1 : (1 : Int32).toInt = 1 := rfl; omega
      refine V.iconst (v := 1) (pc := 18) dX12_canNear_18 (by decide) ?_
      refine V.goto 23 (pc := 19) dX12_canNear_19 (by decide) ?_
      exact V.zret (pc := 23) dX12_canNear_23 rfl (by first | exact Or.inl rfl | exact Or.inr rfl | exact bi_or | assumption) ⟨by rw [bi_t ⟨q1, q2⟩], rfl, rfl, rfl, rfl, rfl⟩
theorem p_nearest {g : gG} {d : Nat} {T : mT} {n : Nat} {I : mI} {J : mJ} {F : mF} {m : Nat} {A : Ab} (p q w : Int32) (hM : MS T F m) (hA : AbOK A) (hR : RepM I J m A)  : Ct g mX12_nearest (d + 4) [.ref m, .int p, .int q, .int w] 0 0 T n I J F (QM m T n I J F (some (.int (iI (s_nearest A p.toInt q.toInt w.toInt)))) A) := by
  refine Ct.ofV (k := 0) (by decide) (Nat.le_of_ble_eq_true rfl) ?_
  show V g mX12_nearest (d + 4) _ 0 0 0 [some (.ref m), some (.int p), some (.int q), some (.int w)] [] T n I J F
  have h12 := hA.1.2.2.1
  refine V.aload_n (pc := 0) dX12_nearest_0 rfl ?_
  refine V.iconst (v := 0) (pc := 1) dX12_nearest_1 (by decide) ?_
  refine V.putI (pc := 2) dX12_nearest_2 fX12_88_11 (fun r h => by cases h; exact Or.inl rfl) rfl hM.o ?_
  refine V.thr hR (fun I1 hR1 hf => ?_)
  clear hR
  have hR := hR1
  clear hR1
  refine V.aload_n (pc := 5) dX12_nearest_5 rfl ?_
  refine V.iload_n (pc := 6) dX12_nearest_6 rfl ?_
  refine V.iload_n (pc := 7) dX12_nearest_7 rfl ?_
  refine V.pV (as := [_, _]) (pc := 8) dX12_nearest_8 lX12_402 bX12_canNear nX12_canNear (ci := 11) rfl eX12_canNear hM.o (c_canNear (d := d + 1) (k := (stk (cor A)).length) _ _ hM hR.h1 hA.1.2.2.1) (by omega) rfl (Nat.le_of_ble_eq_true rfl) ?_
  refine V.if_eq 26 (pc := 11) dX12_nearest_11 (by decide) (fun h11 => ?_) (fun h11 => ?_)
  · have qc := bi_eq.mp h11
    refine V.iconst (v := (-1)) (pc := 26) dX12_nearest_26 (by decide) ?_
    exact V.iret (pc := 27) dX12_nearest_27 rfl ⟨by rw [s_nearest, if_neg (show ¬ (((1 ≤ p.toInt ∧ p.toInt ≤ 100000) ∧ (1 ≤ q.toInt ∧ q.toInt ≤ 100000)) ∧ (0 ≤ w.toInt ∧ w.toInt ≤ 4) ∧ 1 < (stk (cor A)).length) from fun z => qc ⟨z.1, z.2.2⟩)]; rfl, rfl, rfl, rfl, hf, Frm.rf, hR⟩
  · have qc := bi_ne.mp h11
    have hp1 := nIx (x := p) (by omega) rfl
    have hq1 := nIx (x := q) (by omega) rfl
    refine V.iload_n (pc := 14) dX12_nearest_14 rfl ?_
    refine V.i2l (pc := 15) dX12_nearest_15 ?_
    refine V.lconst (v := 0) (pc := 16) dX12_nearest_16 (by decide) ?_
    refine V.ldc2 (pc := 17) dX12_nearest_17 qX12_405 ?_
    refine V.pS (as := [_, _, _]) (pc := 20) dX12_nearest_20 lX12_98 bX12_in sX12_in (c_in (d := d + 3) _ _ _) (by omega) rfl (Nat.le_of_ble_eq_true rfl) ?_
    rw [bi_c (in64 w 0 4 0 4 rfl rfl)]
    refine V.if_ne 28 (pc := 23) dX12_nearest_23 (by decide) (fun h23 => ?_) (fun h23 => ?_)
    · have qw := bi_ne.mp h23
      refine V.aload_n (pc := 28) dX12_nearest_28 rfl ?_
      refine V.iload_n (pc := 29) dX12_nearest_29 rfl ?_
      refine V.iload_n (pc := 30) dX12_nearest_30 rfl ?_
      refine V.invV0 (as := [_, _]) (pc := 31) dX12_nearest_31 lX12_407 bX12_findNearest nX12_findNearest (ci := 11) rfl eX12_findNearest hM.o (c_findNearest (d := d + 1) (p := p.toInt.toNat) (q := q.toInt.toNat) _ _ hM (hR.stk hA) (by omega) hp1 hq1 (by omega) (by omega)) (by omega) rfl (Nat.le_of_ble_eq_true rfl) ?_
      rintro _ _ _ I2 J2 _ ⟨rfl, rfl, rfl, rfl, f2, nm⟩
      have hn0 := nearF_1 (s := stk (cor A)) (p := p.toInt.toNat) (q := q.toInt.toNat) (by omega)
      have hnk := nearOK (s := stk (cor A)) (p := p.toInt.toNat) (q := q.toInt.toNat) ⟨hA.1.2.2.1, hA.1.2.2.2.1⟩ (by omega) (by omega)
      have nm1 := nm.1
      obtain ⟨nm2, nm3, nm4⟩ := nm.2 hn0
      generalize hgB : nearF (stk (cor A)) p.toInt.toNat q.toInt.toNat = B at nm1 nm2 nm3 nm4 hn0 hnk
      obtain ⟨k1, k2, k3, k4⟩ := hnk
      refine V.iload_n (pc := 34) dX12_nearest_34 rfl ?_
      refine V.if_ne 45 (pc := 35) dX12_nearest_35 (by decide) (fun h35 => ?_) (fun h35 => ?_)
      · have w0 : ¬ w.toInt = 0 := fun z => h35 ((eq32 _ _).mpr z)
        refine V.iload_n (pc := 45) dX12_nearest_45 rfl ?_
        refine V.iconst (v := 2) (pc := 46) dX12_nearest_46 (by decide) ?_
        refine V.aload_n (pc := 47) dX12_nearest_47 rfl ?_
        refine V.getI (pc := 48) dX12_nearest_48 fX12_378_11 rfl hM.o ?_
        rw [nm1]
        refine V.imul (pc := 51) dX12_nearest_51 ?_
        rw [show (2 : Int32) = nI 2 from rfl, pk_mul]
        refine V.icmp_gt 66 (pc := 52) dX12_nearest_52 (by decide) (fun h52 => ?_) (fun h52 => ?_)
        · rw [lt32, nI_toInt (by omega)] at h52
          refine V.iconst (v := (-1)) (pc := 66) dX12_nearest_66 (by decide) ?_
          exact V.iret (pc := 67) dX12_nearest_67 rfl ⟨by rw [s_nearest, if_pos (show (((1 ≤ p.toInt ∧ p.toInt ≤ 100000) ∧ (1 ≤ q.toInt ∧ q.toInt ≤ 100000)) ∧ (0 ≤ w.toInt ∧ w.toInt ≤ 4) ∧ 1 < (stk (cor A)).length) from ⟨qc.1, qw, qc.2⟩), if_neg w0, hgB, if_neg (by omega)]; rfl, rfl, rfl, rfl, hf.trans f2.frm.1, f2.frm.2, f2.rep hR⟩
        · rw [lt32, nI_toInt (by omega)] at h52
          refine V.aload_n (pc := 55) dX12_nearest_55 rfl ?_
          refine V.getR (pc := 56) dX12_nearest_56 fX12_68_11 rfl hM.o hM.f33 ?_
          refine V.iload_n (pc := 59) dX12_nearest_59 rfl ?_
          refine V.iconst (v := 1) (pc := 60) dX12_nearest_60 (by decide) ?_
          refine V.isub (pc := 61) dX12_nearest_61 ?_
          refine V.iald' (k := w.toInt.toNat - 1) (pc := 62) dX12_nearest_62 hM.t33 (i_pred (by omega)) (by omega) (by decide) ?_
          rw [nm4 _ (by omega)]
          refine V.goto 67 (pc := 63) dX12_nearest_63 (by decide) ?_
          exact V.iret (pc := 67) dX12_nearest_67 rfl ⟨by rw [s_nearest, if_pos (show (((1 ≤ p.toInt ∧ p.toInt ≤ 100000) ∧ (1 ≤ q.toInt ∧ q.toInt ≤ 100000)) ∧ (0 ≤ w.toInt ∧ w.toInt ≤ 4) ∧ 1 < (stk (cor A)).length) from ⟨qc.1, qw, qc.2⟩), if_neg w0, hgB, if_pos (by omega), iI_nat], rfl, rfl, rfl, hf.trans f2.frm.1, f2.frm.2, f2.rep hR⟩
      · have w0 : w.toInt = 0 := by rw [h35]; rfl
        refine V.aload_n (pc := 38) dX12_nearest_38 rfl ?_
        refine V.getI (pc := 39) dX12_nearest_39 fX12_378_11 rfl hM.o ?_
        rw [nm1]
        refine V.goto 67 (pc := 42) dX12_nearest_42 (by decide) ?_
        exact V.iret (pc := 67) dX12_nearest_67 rfl ⟨by rw [s_nearest, if_pos (show (((1 ≤ p.toInt ∧ p.toInt ≤ 100000) ∧ (1 ≤ q.toInt ∧ q.toInt ≤ 100000)) ∧ (0 ≤ w.toInt ∧ w.toInt ≤ 4) ∧ 1 < (stk (cor A)).length) from ⟨qc.1, qw, qc.2⟩), if_pos w0, hgB, iI_nat], rfl, rfl, rfl, hf.trans f2.frm.1, f2.frm.2, f2.rep hR⟩
    · have qw := bi_eq.mp h23
      refine V.iconst (v := (-1)) (pc := 26) dX12_nearest_26 (by decide) ?_
      exact V.iret (pc := 27) dX12_nearest_27 rfl ⟨by rw [s_nearest, if_neg (show ¬ (((1 ≤ p.toInt ∧ p.toInt ≤ 100000) ∧ (1 ≤ q.toInt ∧ q.toInt ≤ 100000)) ∧ (0 ≤ w.toInt ∧ w.toInt ≤ 4) ∧ 1 < (stk (cor A)).length) from fun z => qw z.2.1)]; rfl, rfl, rfl, rfl, hf, Frm.rf, hR⟩
theorem p_near {g : gG} {d : Nat} {T : mT} {n : Nat} {I : mI} {J : mJ} {F : mF} {m : Nat} {A : Ab} (p q w : Int32) (hM : MS T F m) (hA : AbOK A) (hR : RepM I J m A)  : Ct g mX12_near (d + 4) [.ref m, .int p, .int q, .int w] 0 0 T n I J F (QM m T n I J F (some (.long (lI (s_near A p.toInt q.toInt w.toInt)))) A) := by
  refine Ct.ofV (k := 0) (by decide) (Nat.le_of_ble_eq_true rfl) ?_
  show V g mX12_near (d + 4) _ 0 0 0 [some (.ref m), some (.int p), some (.int q), some (.int w)] [] T n I J F
  have h12 := hA.1.2.2.1
  refine V.aload_n (pc := 0) dX12_near_0 rfl ?_
  refine V.iconst (v := 0) (pc := 1) dX12_near_1 (by decide) ?_
  refine V.putI (pc := 2) dX12_near_2 fX12_88_11 (fun r h => by cases h; exact Or.inl rfl) rfl hM.o ?_
  refine V.thr hR (fun I1 hR1 hf => ?_)
  clear hR
  have hR := hR1
  clear hR1
  refine V.aload_n (pc := 5) dX12_near_5 rfl ?_
  refine V.iload_n (pc := 6) dX12_near_6 rfl ?_
  refine V.iload_n (pc := 7) dX12_near_7 rfl ?_
  refine V.pV (as := [_, _]) (pc := 8) dX12_near_8 lX12_402 bX12_canNear nX12_canNear (ci := 11) rfl eX12_canNear hM.o (c_canNear (d := d + 1) (k := (stk (cor A)).length) _ _ hM hR.h1 hA.1.2.2.1) (by omega) rfl (Nat.le_of_ble_eq_true rfl) ?_
  refine V.if_eq 24 (pc := 11) dX12_near_11 (by decide) (fun h11 => ?_) (fun h11 => ?_)
  · have qc := bi_eq.mp h11
    refine V.ldc2 (pc := 24) dX12_near_24 qX12_178 ?_
    exact V.lret (pc := 27) dX12_near_27 rfl ⟨by rw [s_near, if_neg (show ¬ (((1 ≤ p.toInt ∧ p.toInt ≤ 100000) ∧ (1 ≤ q.toInt ∧ q.toInt ≤ 100000)) ∧ (0 ≤ w.toInt ∧ w.toInt ≤ 1) ∧ 1 < (stk (cor A)).length) from fun z => qc ⟨z.1, z.2.2⟩)]; rfl, rfl, rfl, rfl, hf, Frm.rf, hR⟩
  · have qc := bi_ne.mp h11
    have hp1 := nIx (x := p) (by omega) rfl
    have hq1 := nIx (x := q) (by omega) rfl
    refine V.iload_n (pc := 14) dX12_near_14 rfl ?_
    refine V.i2l (pc := 15) dX12_near_15 ?_
    refine V.lconst (v := 0) (pc := 16) dX12_near_16 (by decide) ?_
    refine V.lconst (v := 1) (pc := 17) dX12_near_17 (by decide) ?_
    refine V.pS (as := [_, _, _]) (pc := 18) dX12_near_18 lX12_98 bX12_in sX12_in (c_in (d := d + 3) _ _ _) (by omega) rfl (Nat.le_of_ble_eq_true rfl) ?_
    rw [bi_c (in64 w 0 1 0 1 rfl rfl)]
    refine V.if_ne 28 (pc := 21) dX12_near_21 (by decide) (fun h21 => ?_) (fun h21 => ?_)
    · have qw := bi_ne.mp h21
      refine V.aload_n (pc := 28) dX12_near_28 rfl ?_
      refine V.iload_n (pc := 29) dX12_near_29 rfl ?_
      refine V.iload_n (pc := 30) dX12_near_30 rfl ?_
      refine V.invV0 (as := [_, _]) (pc := 31) dX12_near_31 lX12_407 bX12_findNearest nX12_findNearest (ci := 11) rfl eX12_findNearest hM.o (c_findNearest (d := d + 1) (p := p.toInt.toNat) (q := q.toInt.toNat) _ _ hM (hR.stk hA) (by omega) hp1 hq1 (by omega) (by omega)) (by omega) rfl (Nat.le_of_ble_eq_true rfl) ?_
      rintro _ _ _ I2 J2 _ ⟨rfl, rfl, rfl, rfl, f2, nm⟩
      have hn0 := nearF_1 (s := stk (cor A)) (p := p.toInt.toNat) (q := q.toInt.toNat) (by omega)
      have hnk := nearOK (s := stk (cor A)) (p := p.toInt.toNat) (q := q.toInt.toNat) ⟨hA.1.2.2.1, hA.1.2.2.2.1⟩ (by omega) (by omega)
      have nm1 := nm.1
      obtain ⟨nm2, nm3, nm4⟩ := nm.2 hn0
      generalize hgB : nearF (stk (cor A)) p.toInt.toNat q.toInt.toNat = B at nm1 nm2 nm3 nm4 hn0 hnk
      obtain ⟨k1, k2, k3, k4⟩ := hnk
      refine V.aload_n (pc := 34) dX12_near_34 rfl ?_
      refine V.getJ (pc := 35) dX12_near_35 fX12_396_11 rfl hM.o ?_
      rw [nm2]
      refine V.aload_n (pc := 38) dX12_near_38 rfl ?_
      refine V.getJ (pc := 39) dX12_near_39 fX12_393_11 rfl hM.o ?_
      rw [nm3]
      refine V.iload_n (pc := 42) dX12_near_42 rfl ?_
      refine V.pS (as := [_, _, _]) (pc := 43) dX12_near_43 lX12_341 bX12_part sX12_part (c_part (d := d + 2) (a := B.2.1) (b := B.2.2.1 * q.toInt.toNat) _ _ _ rfl rfl (by omega) (Nat.lt_of_le_of_lt (Nat.mul_le_mul k3 (show q.toInt.toNat ≤ 100000 by omega)) (by decide)) (Nat.mul_pos (by have := k4 hn0; omega) (by omega))) (by omega) rfl (Nat.le_of_ble_eq_true rfl) ?_
      exact V.lret (pc := 46) dX12_near_46 rfl ⟨by rw [s_near, if_pos (show (((1 ≤ p.toInt ∧ p.toInt ≤ 100000) ∧ (1 ≤ q.toInt ∧ q.toInt ≤ 100000)) ∧ (0 ≤ w.toInt ∧ w.toInt ≤ 1) ∧ 1 < (stk (cor A)).length) from ⟨qc.1, qw, qc.2⟩), hgB]; by_cases w0 : w = 0; rw [if_pos w0, if_pos (show w.toInt = 0 by rw [w0]; rfl), lI_nat]; rw [if_neg w0, if_neg (show ¬ w.toInt = 0 from fun z => w0 ((eq32 _ _).mpr z)), lI_nat], rfl, rfl, rfl, hf.trans f2.frm.1, f2.frm.2, f2.rep hR⟩
    · have qw := bi_eq.mp h21
      refine V.ldc2 (pc := 24) dX12_near_24 qX12_178 ?_
      exact V.lret (pc := 27) dX12_near_27 rfl ⟨by rw [s_near, if_neg (show ¬ (((1 ≤ p.toInt ∧ p.toInt ≤ 100000) ∧ (1 ≤ q.toInt ∧ q.toInt ≤ 100000)) ∧ (0 ≤ w.toInt ∧ w.toInt ≤ 1) ∧ 1 < (stk (cor A)).length) from fun z => qw z.2.1)]; rfl, rfl, rfl, rfl, hf, Frm.rf, hR⟩
