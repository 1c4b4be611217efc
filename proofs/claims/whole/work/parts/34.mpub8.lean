def ofv (x : Hd) (w : Int) : Int := if w = 0 then (x.1 : Int) else if w = 1 then (x.2.1 : Int) else if w = 2 then (x.2.2.1 : Int) else if w = 3 then (x.2.2.2.length : Int) else if 4 ≤ w ∧ w < 4 + 2 * x.2.2.2.length then
      (if (w - 4) % 2 = 0 then ((x.2.2.2.getD ((w - 4) / 2).toNat (0, 0)).1 : Int) else ((x.2.2.2.getD ((w - 4) / 2).toNat (0, 0)).2 : Int)) else -1
theorem of_some {A : Ab} {h w : Int} {y : Hd} (e : hdAt (cor A) h = some y) : (s_of A h w).1 = ofv y w := by simp only [s_of, e]; rfl
theorem of_none {A : Ab} {h w : Int} (e : hdAt (cor A) h = none) : (s_of A h w).1 = -1 := by simp only [s_of, e]
theorem of_row {r : Nat → Int32} {at_ : Nat} {y : Hd} (hW : HdRow r at_ y) {w : Int} (h0 : 0 ≤ w) (h : w ≤ 3 ∨ (w.toNat - 4) / 2 < y.2.2.2.length) : r (at_ + w.toNat) = iI (ofv y w) := by
  unfold ofv
  by_cases w0 : w = 0
  · rw [if_pos w0, w0, iI_nat]; exact hW.1
  rw [if_neg w0]
  by_cases w1 : w = 1
  · rw [if_pos w1, w1, iI_nat]; exact hW.2.1
  rw [if_neg w1]
  by_cases w2 : w = 2
  · rw [if_pos w2, w2, iI_nat]; exact hW.2.2.1
  rw [if_neg w2]
  by_cases w3 : w = 3
  · rw [if_pos w3, w3, iI_nat]; exact hW.2.2.2.1
  rw [if_neg w3]
  have hp : (w.toNat - 4) / 2 < y.2.2.2.length := by omega
  rw [if_pos (by omega)]
  have e : ((w - 4) / 2).toNat = (w.toNat - 4) / 2 := by omega
  have hq := hW.2.2.2.2 _ _ (List.getElem?_eq_getElem hp)
  have hg : y.2.2.2.getD ((w - 4) / 2).toNat (0, 0) = y.2.2.2[(w.toNat - 4) / 2] := by rw [e, List.getD_eq_getElem?_getD, List.getElem?_eq_getElem hp]; rfl
  rw [hg]
  by_cases w5 : (w - 4) % 2 = 0
  · rw [if_pos w5, iI_nat, ← hq.1]; congr 1; omega
  · rw [if_neg w5, iI_nat, ← hq.2]; congr 1; omega
theorem ofv_no {y : Hd} {w : Int} (h0 : 3 < w) (h : ¬ (w.toNat - 4) / 2 < y.2.2.2.length) : ofv y w = -1 := by
  unfold ofv
  rw [if_neg (by omega), if_neg (by omega), if_neg (by omega), if_neg (by omega), if_neg (by omega)]
theorem ofv_no2 {y : Hd} {w : Int} (hy : y.2.2.2.length ≤ 4) (h : ¬ (0 ≤ w ∧ w ≤ 11)) : ofv y w = -1 := by
  unfold ofv
  rw [if_neg (by omega), if_neg (by omega), if_neg (by omega), if_neg (by omega), if_neg (by omega)]
theorem ofdiv {w : Int32} (h0 : 0 ≤ w.toInt) (h : 4 ≤ w.toInt) : (w - 4) / 2 = nI ((w.toInt.toNat - 4) / 2) := by
  have hb := bd32 w
  have e : w - 4 = nI (w.toInt.toNat - 4) := by
    conv => lhs; rw [show w = nI w.toInt.toNat from nIx h0 rfl]
    rw [L4, pk_sub (by omega)]
  rw [e, L2, pk_div (by omega) (by omega) (by omega)]
theorem p_of {g : gG} {d : Nat} {T : mT} {n : Nat} {I : mI} {J : mJ} {F : mF} {m : Nat} {A : Ab} (x w : Int32) (hM : MS T F m) (hA : AbOK A) (hR : RepM I J m A)  : Ct g mX12_of (d + 3) [.ref m, .int x, .int w] 0 0 T n I J F (QM m T n I J F (some (.int (iI (s_of A x.toInt w.toInt).1))) (s_of A x.toInt w.toInt).2) := by
  refine Ct.ofV (k := 0) (by decide) (Nat.le_of_ble_eq_true rfl) ?_
  show V g mX12_of (d + 3) _ 0 0 0 [some (.ref m), some (.int x), some (.int w)] [] T n I J F
  refine V.aload_n (pc := 0) dX12_of_0 rfl ?_
  refine V.iconst (v := 0) (pc := 1) dX12_of_1 (by decide) ?_
  refine V.putI (pc := 2) dX12_of_2 fX12_88_11 (fun r h => by cases h; exact Or.inl rfl) rfl hM.o ?_
  refine V.thr hR (fun I1 hR1 hf => ?_)
  clear hR
  have hR := hR1
  clear hR1
  refine V.aload_n (pc := 5) dX12_of_5 rfl ?_
  refine V.iload_n (pc := 6) dX12_of_6 rfl ?_
  refine V.pV (as := [_]) (pc := 7) dX12_of_7 lX12_111 bX12_isHand nX12_isHand (ci := 11) rfl eX12_isHand hM.o (c_isHand (d := d + 1) _ hM (by have := hA.1.1; omega) hR.h0) (by omega) rfl (Nat.le_of_ble_eq_true rfl) ?_
  refine V.if_eq 25 (pc := 10) dX12_of_10 (by decide) (fun h10 => ?_) (fun h10 => ?_)
  · have q := bi_eq.mp h10
    have ey := hdAt_no q
    refine V.iconst (v := (-1)) (pc := 25) dX12_of_25 (by decide) ?_
    exact V.iret (pc := 26) dX12_of_26 rfl ⟨by rw [of_none ey]; rfl, rfl, rfl, rfl, hf, Frm.rf, hR⟩
  · have q := bi_ne.mp h10
    obtain ⟨y, hy, ey⟩ := hdAt_yes q
    have hx := nIx q.1 rfl
    have h6 := hA.1.1
    have hY := hA.1.2.1 y (List.mem_of_getElem? hy)
    have hW := hR.2.2.1.2.1 _ y hy
    have h4 := hY.2.2.2.2.1
    refine V.iload_n (pc := 13) dX12_of_13 rfl ?_
    refine V.i2l (pc := 14) dX12_of_14 ?_
    refine V.lconst (v := 0) (pc := 15) dX12_of_15 (by decide) ?_
    refine V.ldc2 (pc := 16) dX12_of_16 qX12_133 ?_
    refine V.pS (as := [_, _, _]) (pc := 19) dX12_of_19 lX12_98 bX12_in sX12_in (c_in (d := d + 2) _ _ _) (by omega) rfl (Nat.le_of_ble_eq_true rfl) ?_
    refine V.if_ne 27 (pc := 22) dX12_of_22 (by decide) (fun h22 => ?_) (fun h22 => ?_)
    · have q11 : 0 ≤ w.toInt ∧ w.toInt ≤ 11 := (in64 w 0 11 0 11 rfl rfl).mp (bi_ne.mp h22)
      refine V.iload_n (pc := 27) dX12_of_27 rfl ?_
      refine V.iconst (v := 3) (pc := 28) dX12_of_28 (by decide) ?_
      refine V.icmp_le 50 (pc := 29) dX12_of_29 (by decide) (fun h29 => ?_) (fun h29 => ?_)
      · have w3 : w.toInt ≤ 3 := by
          rw [le32] at h29
          exact h29
        refine V.aload_n (pc := 50) dX12_of_50 rfl ?_
        refine V.iload_n (pc := 51) dX12_of_51 rfl ?_
        refine V.iload_n (pc := 52) dX12_of_52 rfl ?_
        refine V.pV (as := [_, _]) (pc := 53) dX12_of_53 lX12_115 bX12_ofHand nX12_ofHand (ci := 11) rfl eX12_ofHand hM.o (c_ofHand (d := d + 2) (h := x.toInt.toNat) (w := w.toInt.toNat) _ _ hM hx (nIx (by omega) rfl) (by omega)) (by omega) rfl (Nat.le_of_ble_eq_true rfl) ?_
        exact V.iret (pc := 56) dX12_of_56 rfl ⟨by rw [of_some ey]; exact congrArg (fun z => some (Value.int z)) (of_row hW q11.1 (by omega)), rfl, rfl, rfl, hf, Frm.rf, hR⟩
      · have w3 : ¬ w.toInt ≤ 3 := fun z => h29 ((le32 _ _).mpr z)
        have ew : w = nI w.toInt.toNat := nIx q11.1 rfl
        refine V.iload_n (pc := 32) dX12_of_32 rfl ?_
        refine V.iconst (v := 4) (pc := 33) dX12_of_33 (by decide) ?_
        refine V.isub (pc := 34) dX12_of_34 ?_
        refine V.iconst (v := 2) (pc := 35) dX12_of_35 (by decide) ?_
        refine V.idiv (pc := 36) dX12_of_36 (by decide) ?_
        rw [show (w - 4) / 2 = nI ((w.toInt.toNat - 4) / 2) from ofdiv q11.1 (by omega)]
        refine V.aload_n (pc := 37) dX12_of_37 rfl ?_
        refine V.iload_n (pc := 38) dX12_of_38 rfl ?_
        refine V.iconst (v := 3) (pc := 39) dX12_of_39 (by decide) ?_
        refine V.pV (as := [_, _]) (pc := 40) dX12_of_40 lX12_115 bX12_ofHand nX12_ofHand (ci := 11) rfl eX12_ofHand hM.o (c_ofHand (d := d + 2) (h := x.toInt.toNat) (w := 3) _ _ hM hx rfl (by omega)) (by omega) rfl (Nat.le_of_ble_eq_true rfl) ?_
        refine V.topi hW.2.2.2.1 ?_
        refine V.icmp_lt 50 (pc := 43) dX12_of_43 (by decide) (fun h43 => ?_) (fun h43 => ?_)
        · have wl : (w.toInt.toNat - 4) / 2 < y.2.2.2.length := by
            rw [nI_ltI (by omega) (by omega)] at h43
            exact h43
          refine V.aload_n (pc := 50) dX12_of_50 rfl ?_
          refine V.iload_n (pc := 51) dX12_of_51 rfl ?_
          refine V.iload_n (pc := 52) dX12_of_52 rfl ?_
          refine V.pV (as := [_, _]) (pc := 53) dX12_of_53 lX12_115 bX12_ofHand nX12_ofHand (ci := 11) rfl eX12_ofHand hM.o (c_ofHand (d := d + 2) (h := x.toInt.toNat) (w := w.toInt.toNat) _ _ hM hx (nIx (by omega) rfl) (by omega)) (by omega) rfl (Nat.le_of_ble_eq_true rfl) ?_
          exact V.iret (pc := 56) dX12_of_56 rfl ⟨by rw [of_some ey]; exact congrArg (fun z => some (Value.int z)) (of_row hW q11.1 (by omega)), rfl, rfl, rfl, hf, Frm.rf, hR⟩
        · have wl : ¬ (w.toInt.toNat - 4) / 2 < y.2.2.2.length := by
            rw [nI_ltI (by omega) (by omega)] at h43
            exact h43
          refine V.iconst (v := (-1)) (pc := 46) dX12_of_46 (by decide) ?_
          refine V.goto 56 (pc := 47) dX12_of_47 (by decide) ?_
          exact V.iret (pc := 56) dX12_of_56 rfl ⟨by rw [of_some ey, ofv_no (by omega) wl]; rfl, rfl, rfl, rfl, hf, Frm.rf, hR⟩
    · have q11 : ¬ (0 ≤ w.toInt ∧ w.toInt ≤ 11) := fun z => bi_eq.mp h22 ((in64 w 0 11 0 11 rfl rfl).mpr z)
      refine V.iconst (v := (-1)) (pc := 25) dX12_of_25 (by decide) ?_
      exact V.iret (pc := 26) dX12_of_26 rfl ⟨by rw [of_some ey, ofv_no2 h4 q11]; rfl, rfl, rfl, rfl, hf, Frm.rf, hR⟩
