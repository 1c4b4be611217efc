theorem tk_some {l : List Nat} {k i t : Nat} (hi : (l.take k)[i]? = some t) : l[i]? = some t := by
  rw [List.getElem?_take] at hi
  split at hi
  · exact hi
  · cases hi
theorem y_terms {g : gG} {d : Nat} {T : mT} {n : Nat} {I : mI} {J : mJ} {F : mF} {x : Nat} {A : Ab} (w v : Int32) (hX : XS T F x) (hA : AbOK A) (hR : RepX T I J F x A)  : Ct g mX11_terms (d + 4) [.ref x, .int w, .int v] 0 0 T n I J F (QX x T n I J F (some (.int (iI (s_terms A w.toInt v.toInt).1))) (s_terms A w.toInt v.toInt).2) := by
  refine Ct.ofV (k := 1) (by decide) (Nat.le_of_ble_eq_true rfl) ?_
  show V g mX11_terms (d + 4) _ 0 0 0 [some (.ref x), some (.int w), some (.int v), none] [] T n I J F
  have hTo := hX.s.o
  refine V.iload_n (pc := 0) dX11_terms_0 rfl ?_
  refine V.if_ne 15 (pc := 1) dX11_terms_1 (by decide) (fun h1 => ?_) (fun h1 => ?_)
  · have q : ¬ (w.toInt = 0 ∧ 1 ≤ v.toInt ∧ v.toInt ≤ 1000000) := by
      have e0 : (0 : Int32).toInt = 0 := rfl
      have e1 : (1 : Int32).toInt = 1 := rfl
      have em : (-1 : Int32).toInt = -1 := rfl
      have eM : (1000000 : Int32).toInt = 1000000 := rfl
      have e9 : (9 : Int32).toInt = 9 := rfl
      have e99 : (9999 : Int32).toInt = 9999 := rfl
      rw [eq32] at h1
      omega
    refine V.aload_n (pc := 15) dX11_terms_15 rfl ?_
    refine V.iconst (v := (-1)) (pc := 16) dX11_terms_16 (by decide) ?_
    refine V.invV0 (as := [_]) (pc := 17) dX11_terms_17 lX11_85 bX11_refuse nX11_refuse (ci := 10) rfl eX11_refuse hX.o (x_refuse1 (d := d + 3) hX) (by omega) rfl (Nat.le_of_ble_eq_true rfl) ?_
    rintro _ _ _ _ _ _ ⟨rfl, rfl, rfl, rfl, rfl, rfl⟩
    exact V.iret (pc := 20) dX11_terms_20 rfl (QX.no 0 (-1) (by decide) hX hA hR FrX.rf FrX.rf (by omega) (by rw [s_terms, if_neg q]))
  · have w0 : w.toInt = 0 := by rw [h1]; rfl
    refine V.iload_n (pc := 4) dX11_terms_4 rfl ?_
    refine V.iconst (v := 1) (pc := 5) dX11_terms_5 (by decide) ?_
    refine V.icmp_lt 15 (pc := 6) dX11_terms_6 (by decide) (fun h6 => ?_) (fun h6 => ?_)
    · have q : ¬ (w.toInt = 0 ∧ 1 ≤ v.toInt ∧ v.toInt ≤ 1000000) := by
        have e0 : (0 : Int32).toInt = 0 := rfl
        have e1 : (1 : Int32).toInt = 1 := rfl
        have em : (-1 : Int32).toInt = -1 := rfl
        have eM : (1000000 : Int32).toInt = 1000000 := rfl
        have e9 : (9 : Int32).toInt = 9 := rfl
        have e99 : (9999 : Int32).toInt = 9999 := rfl
        rw [lt32] at h6
        omega
      refine V.aload_n (pc := 15) dX11_terms_15 rfl ?_
      refine V.iconst (v := (-1)) (pc := 16) dX11_terms_16 (by decide) ?_
      refine V.invV0 (as := [_]) (pc := 17) dX11_terms_17 lX11_85 bX11_refuse nX11_refuse (ci := 10) rfl eX11_refuse hX.o (x_refuse1 (d := d + 3) hX) (by omega) rfl (Nat.le_of_ble_eq_true rfl) ?_
      rintro _ _ _ _ _ _ ⟨rfl, rfl, rfl, rfl, rfl, rfl⟩
      exact V.iret (pc := 20) dX11_terms_20 rfl (QX.no 0 (-1) (by decide) hX hA hR FrX.rf FrX.rf (by omega) (by rw [s_terms, if_neg q]))
    · refine V.iload_n (pc := 9) dX11_terms_9 rfl ?_
      refine V.ldc (pc := 10) dX11_terms_10 qX11_139 ?_
      refine V.icmp_le 21 (pc := 12) dX11_terms_12 (by decide) (fun h12 => ?_) (fun h12 => ?_)
      · have q : w.toInt = 0 ∧ 1 ≤ v.toInt ∧ v.toInt ≤ 1000000 := by
          have e0 : (0 : Int32).toInt = 0 := rfl
          have e1 : (1 : Int32).toInt = 1 := rfl
          have em : (-1 : Int32).toInt = -1 := rfl
          have eM : (1000000 : Int32).toInt = 1000000 := rfl
          have e9 : (9 : Int32).toInt = 9 := rfl
          have e99 : (9999 : Int32).toInt = 9999 := rfl
          rw [le32] at h12
          rw [lt32] at h6
          omega
        refine V.aload_n (pc := 21) dX11_terms_21 rfl ?_
        refine V.getR (pc := 22) dX11_terms_22 fX11_10_10 rfl hX.o hX.f0 ?_
        refine V.getI (pc := 25) dX11_terms_25 fX11_140_7 rfl (by assumption) ?_
        refine V.isn (pc := 28) dX11_terms_28 (by decide) (st1_3 rfl) ?_
        refine V.aload_n (pc := 29) dX11_terms_29 rfl ?_
        refine V.getR (pc := 30) dX11_terms_30 fX11_10_10 rfl hX.o hX.f0 ?_
        refine V.iload_n (pc := 33) dX11_terms_33 rfl ?_
        refine V.putI (pc := 34) dX11_terms_34 fX11_140_7 (fun r h => by cases h; exact Or.inl rfl) rfl (by assumption) ?_
        refine V.aload_n (pc := 37) dX11_terms_37 rfl ?_
        refine V.iload_n (pc := 38) dX11_terms_38 rfl ?_
        refine V.invV0 (as := [_]) (pc := 39) dX11_terms_39 lX11_92 bX11_accept nX11_accept (ci := 10) rfl eX11_accept hX.o (x_accept (d := d + 3) _ hX) (by omega) rfl (Nat.le_of_ble_eq_true rfl) ?_
        rintro _ _ _ _ _ _ ⟨rfl, rfl, rfl, rfl, rfl, rfl⟩
        exact V.iret (pc := 42) dX11_terms_42 rfl (QX.yes (c := werC (cor A) v.toInt.toNat) hX hA (ok_cor hA (ok_wear hA.1 (by omega))) (hR.core hA (fun b hb => up2_off (by omega)) (by have z := StX.wear (t := v.toInt.toNat) (lo := x + 111) (u := x + 1) (by omega) hA.1 hR.2.2.1; rw [← nIx (show 0 ≤ v.toInt by omega) rfl] at z; exact z) (fun _ _ => rfl)) (FrX.rf.up (by omega)) FrX.rf (by rw [s_terms, if_pos q, iI_nat]; exact hR.h5) (by rw [s_terms, if_pos q]))
      · have q : ¬ (w.toInt = 0 ∧ 1 ≤ v.toInt ∧ v.toInt ≤ 1000000) := by
          have e0 : (0 : Int32).toInt = 0 := rfl
          have e1 : (1 : Int32).toInt = 1 := rfl
          have em : (-1 : Int32).toInt = -1 := rfl
          have eM : (1000000 : Int32).toInt = 1000000 := rfl
          have e9 : (9 : Int32).toInt = 9 := rfl
          have e99 : (9999 : Int32).toInt = 9999 := rfl
          rw [le32] at h12
          omega
        refine V.aload_n (pc := 15) dX11_terms_15 rfl ?_
        refine V.iconst (v := (-1)) (pc := 16) dX11_terms_16 (by decide) ?_
        refine V.invV0 (as := [_]) (pc := 17) dX11_terms_17 lX11_85 bX11_refuse nX11_refuse (ci := 10) rfl eX11_refuse hX.o (x_refuse1 (d := d + 3) hX) (by omega) rfl (Nat.le_of_ble_eq_true rfl) ?_
        rintro _ _ _ _ _ _ ⟨rfl, rfl, rfl, rfl, rfl, rfl⟩
        exact V.iret (pc := 20) dX11_terms_20 rfl (QX.no 0 (-1) (by decide) hX hA hR FrX.rf FrX.rf (by omega) (by rw [s_terms, if_neg q]))
theorem y_force {g : gG} {d : Nat} {T : mT} {n : Nat} {I : mI} {J : mJ} {F : mF} {x : Nat} {A : Ab} (v : Int32) (hX : XS T F x) (hA : AbOK A) (hR : RepX T I J F x A)  : Ct g mX11_force (d + 4) [.ref x, .int v] 0 0 T n I J F (QX x T n I J F (some (.int (iI (s_force A v.toInt).1))) (s_force A v.toInt).2) := by
  refine Ct.ofV (k := 1) (by decide) (Nat.le_of_ble_eq_true rfl) ?_
  show V g mX11_force (d + 4) _ 0 0 0 [some (.ref x), some (.int v), none] [] T n I J F
  have hTo := hX.s.o
  have h66 := hA.1.2.2.2.2.1
  refine V.iload_n (pc := 0) dX11_force_0 rfl ?_
  refine V.iconst (v := (-1)) (pc := 1) dX11_force_1 (by decide) ?_
  refine V.icmp_lt 16 (pc := 2) dX11_force_2 (by decide) (fun h2 => ?_) (fun h2 => ?_)
  · have q : ¬ (v.toInt = -1 ∨ (0 ≤ v.toInt ∧ v.toInt < (lws (cor A)).length)) := by
      have e0 : (0 : Int32).toInt = 0 := rfl
      have e1 : (1 : Int32).toInt = 1 := rfl
      have em : (-1 : Int32).toInt = -1 := rfl
      have eM : (1000000 : Int32).toInt = 1000000 := rfl
      have e9 : (9 : Int32).toInt = 9 := rfl
      have e99 : (9999 : Int32).toInt = 9999 := rfl
      rw [lt32] at h2
      omega
    refine V.aload_n (pc := 16) dX11_force_16 rfl ?_
    refine V.bipush (v := (-2)) (pc := 17) dX11_force_17 (by decide) ?_
    refine V.invV0 (as := [_]) (pc := 19) dX11_force_19 lX11_85 bX11_refuse nX11_refuse (ci := 10) rfl eX11_refuse hX.o (x_refuse2 (d := d + 3) hX) (by omega) rfl (Nat.le_of_ble_eq_true rfl) ?_
    rintro _ _ _ _ _ _ ⟨rfl, rfl, rfl, rfl, rfl, rfl⟩
    exact V.iret (pc := 22) dX11_force_22 rfl (QX.no 1 (-2) (by decide) hX hA hR FrX.rf FrX.rf (by omega) (by rw [s_force, if_neg q]))
  · refine V.iload_n (pc := 5) dX11_force_5 rfl ?_
    refine V.aload_n (pc := 6) dX11_force_6 rfl ?_
    refine V.getR (pc := 7) dX11_force_7 fX11_10_10 rfl hX.o hX.f0 ?_
    refine V.getI (pc := 10) dX11_force_10 fX11_147_7 rfl (by assumption) ?_
    rw [hR.h7]
    refine V.icmp_lt 23 (pc := 13) dX11_force_13 (by decide) (fun h13 => ?_) (fun h13 => ?_)
    · rw [lt32, nI_toInt (by omega)] at h13
      have q : v.toInt = -1 ∨ (0 ≤ v.toInt ∧ v.toInt < (lws (cor A)).length) := by
        have e0 : (0 : Int32).toInt = 0 := rfl
        have e1 : (1 : Int32).toInt = 1 := rfl
        have em : (-1 : Int32).toInt = -1 := rfl
        have eM : (1000000 : Int32).toInt = 1000000 := rfl
        have e9 : (9 : Int32).toInt = 9 := rfl
        have e99 : (9999 : Int32).toInt = 9999 := rfl
        rw [lt32] at h2
        omega
      refine V.aload_n (pc := 23) dX11_force_23 rfl ?_
      refine V.getR (pc := 24) dX11_force_24 fX11_10_10 rfl hX.o hX.f0 ?_
      refine V.getI (pc := 27) dX11_force_27 fX11_161_7 rfl (by assumption) ?_
      refine V.isn (pc := 30) dX11_force_30 (by decide) (st1_2 rfl) ?_
      refine V.aload_n (pc := 31) dX11_force_31 rfl ?_
      refine V.getR (pc := 32) dX11_force_32 fX11_10_10 rfl hX.o hX.f0 ?_
      refine V.iload_n (pc := 35) dX11_force_35 rfl ?_
      refine V.putI (pc := 36) dX11_force_36 fX11_161_7 (fun r h => by cases h; exact Or.inl rfl) rfl (by assumption) ?_
      refine V.aload_n (pc := 39) dX11_force_39 rfl ?_
      refine V.iload_n (pc := 40) dX11_force_40 rfl ?_
      refine V.invV0 (as := [_]) (pc := 41) dX11_force_41 lX11_92 bX11_accept nX11_accept (ci := 10) rfl eX11_accept hX.o (x_accept (d := d + 3) _ hX) (by omega) rfl (Nat.le_of_ble_eq_true rfl) ?_
      rintro _ _ _ _ _ _ ⟨rfl, rfl, rfl, rfl, rfl, rfl⟩
      exact V.iret (pc := 44) dX11_force_44 rfl (QX.yes (c := frcC (cor A) v.toInt) hX hA (ok_cor hA (ok_force hA.1 q)) (hR.core hA (fun b hb => up2_off (by omega)) (by have z := StX.force (z := v.toInt) (lo := x + 111) (u := x + 1) (by omega) hA.1 hR.2.2.1; rw [← iI_of] at z; exact z) (fun _ _ => rfl)) (FrX.rf.up (by omega)) FrX.rf (by rw [s_force, if_pos q]; exact hR.h8) (by rw [s_force, if_pos q]))
    · rw [lt32, nI_toInt (by omega)] at h13
      have q : ¬ (v.toInt = -1 ∨ (0 ≤ v.toInt ∧ v.toInt < (lws (cor A)).length)) := by
        have e0 : (0 : Int32).toInt = 0 := rfl
        have e1 : (1 : Int32).toInt = 1 := rfl
        have em : (-1 : Int32).toInt = -1 := rfl
        have eM : (1000000 : Int32).toInt = 1000000 := rfl
        have e9 : (9 : Int32).toInt = 9 := rfl
        have e99 : (9999 : Int32).toInt = 9999 := rfl
        omega
      refine V.aload_n (pc := 16) dX11_force_16 rfl ?_
      refine V.bipush (v := (-2)) (pc := 17) dX11_force_17 (by decide) ?_
      refine V.invV0 (as := [_]) (pc := 19) dX11_force_19 lX11_85 bX11_refuse nX11_refuse (ci := 10) rfl eX11_refuse hX.o (x_refuse2 (d := d + 3) hX) (by omega) rfl (Nat.le_of_ble_eq_true rfl) ?_
      rintro _ _ _ _ _ _ ⟨rfl, rfl, rfl, rfl, rfl, rfl⟩
      exact V.iret (pc := 22) dX11_force_22 rfl (QX.no 1 (-2) (by decide) hX hA hR FrX.rf FrX.rf (by omega) (by rw [s_force, if_neg q]))
theorem y_forget {g : gG} {d : Nat} {T : mT} {n : Nat} {I : mI} {J : mJ} {F : mF} {x : Nat} {A : Ab}  (hX : XS T F x) (hA : AbOK A) (hR : RepX T I J F x A)  : Ct g mX11_forget (d + 4) [.ref x] 0 0 T n I J F (QX x T n I J F (some (.int (iI (s_forget A).1))) (s_forget A).2) := by
  refine Ct.ofV (k := 1) (by decide) (Nat.le_of_ble_eq_true rfl) ?_
  show V g mX11_forget (d + 4) _ 0 0 0 [some (.ref x), none] [] T n I J F
  have hTo := hX.s.o
  refine V.aload_n (pc := 0) dX11_forget_0 rfl ?_
  refine V.getR (pc := 1) dX11_forget_1 fX11_10_10 rfl hX.o hX.f0 ?_
  refine V.getI (pc := 4) dX11_forget_4 fX11_237_7 rfl (by assumption) ?_
  refine V.isn (pc := 7) dX11_forget_7 (by decide) (st1_1 rfl) ?_
  refine V.aload_n (pc := 8) dX11_forget_8 rfl ?_
  refine V.getR (pc := 9) dX11_forget_9 fX11_10_10 rfl hX.o hX.f0 ?_
  refine V.iconst (v := 0) (pc := 12) dX11_forget_12 (by decide) ?_
  refine V.putI (pc := 13) dX11_forget_13 fX11_237_7 (fun r h => by cases h; exact Or.inl rfl) rfl (by assumption) ?_
  refine V.iload_n (pc := 16) dX11_forget_16 rfl ?_
  exact V.iret (pc := 17) dX11_forget_17 rfl (by rw [s_forget]; refine (show QX x T n I J F (some (.int (iI ((sgs (cor A)).length : Int)))) _ (some (.int (I (x + 1) 12))) T n _ J F from ?_); rw [hR.h12, iI_nat]; exact QX.mk' hX (FrX.rf.up (by omega)) FrX.rf (hR.core hA (fun b hb => up2_off (by omega)) (StX.forget (by omega) hA.1 hR.2.2.1) (fun _ _ => rfl)))
theorem y_end {g : gG} {d : Nat} {T : mT} {n : Nat} {I : mI} {J : mJ} {F : mF} {x : Nat} {A : Ab} (v : Int32) (hX : XS T F x) (hA : AbOK A) (hR : RepX T I J F x A)  : Ct g mX11_end (d + 4) [.ref x, .int v] 0 0 T n I J F (QX x T n I J F (some (.int (iI (s_end A v.toInt).1))) (s_end A v.toInt).2) := by
  refine Ct.ofV (k := 0) (by decide) (Nat.le_of_ble_eq_true rfl) ?_
  show V g mX11_end (d + 4) _ 0 0 0 [some (.ref x), some (.int v)] [] T n I J F
  have hTo := hX.s.o
  have ht := hA.2.2.1
  refine V.iload_n (pc := 0) dX11_end_0 rfl ?_
  refine V.if_lt 12 (pc := 1) dX11_end_1 (by decide) (fun h1 => ?_) (fun h1 => ?_)
  · have q : ¬ (0 ≤ v.toInt ∧ v.toInt ≤ (tap A).length) := by
      have e0 : (0 : Int32).toInt = 0 := rfl
      have e1 : (1 : Int32).toInt = 1 := rfl
      have em : (-1 : Int32).toInt = -1 := rfl
      have eM : (1000000 : Int32).toInt = 1000000 := rfl
      have e9 : (9 : Int32).toInt = 9 := rfl
      have e99 : (9999 : Int32).toInt = 9999 := rfl
      rw [lt32] at h1
      omega
    refine V.iconst (v := (-1)) (pc := 12) dX11_end_12 (by decide) ?_
    exact V.iret (pc := 13) dX11_end_13 rfl (QX.pure hX hR (by rw [s_end, if_neg q]; rfl) (by rw [s_end, if_neg q]))
  · refine V.iload_n (pc := 4) dX11_end_4 rfl ?_
    refine V.aload_n (pc := 5) dX11_end_5 rfl ?_
    refine V.getI (pc := 6) dX11_end_6 fX11_24_10 rfl hX.o ?_
    rw [hR.1.1]
    refine V.icmp_le 14 (pc := 9) dX11_end_9 (by decide) (fun h9 => ?_) (fun h9 => ?_)
    · rw [le32, nI_toInt (by omega)] at h9
      have q : 0 ≤ v.toInt ∧ v.toInt ≤ (tap A).length := by
        have e0 : (0 : Int32).toInt = 0 := rfl
        have e1 : (1 : Int32).toInt = 1 := rfl
        have em : (-1 : Int32).toInt = -1 := rfl
        have eM : (1000000 : Int32).toInt = 1000000 := rfl
        have e9 : (9 : Int32).toInt = 9 := rfl
        have e99 : (9999 : Int32).toInt = 9999 := rfl
        rw [lt32] at h1
        omega
      refine V.aload_n (pc := 14) dX11_end_14 rfl ?_
      refine V.iload_n (pc := 15) dX11_end_15 rfl ?_
      refine V.putI (pc := 16) dX11_end_16 fX11_24_10 (fun r h => by cases h; exact Or.inl rfl) rfl hX.o ?_
      refine V.iload_n (pc := 19) dX11_end_19 rfl ?_
      exact V.iret (pc := 20) dX11_end_20 rfl (by rw [s_end, if_pos q, ← iI_of]; refine QX.mk' hX (FrX.rf.up (by omega)) FrX.rf (hR.sc hA _ (fun b h1 h2 => up2_off h1) ⟨rfl, rfl, rfl⟩ (fun i t hi => tk_some hi) ?_ (by rw [up2_off (by omega)]; exact hR.2.1)); obtain ⟨b1, b2, b3, b4⟩ := hR.1; rw [up2_at]; exact ⟨by show v = nI ((tap A).take v.toInt.toNat).length; rw [List.length_take, Nat.min_eq_left (by omega)]; exact nIx q.1 rfl, b2, b3, b4⟩)
    · rw [le32, nI_toInt (by omega)] at h9
      have q : ¬ (0 ≤ v.toInt ∧ v.toInt ≤ (tap A).length) := by
        have e0 : (0 : Int32).toInt = 0 := rfl
        have e1 : (1 : Int32).toInt = 1 := rfl
        have em : (-1 : Int32).toInt = -1 := rfl
        have eM : (1000000 : Int32).toInt = 1000000 := rfl
        have e9 : (9 : Int32).toInt = 9 := rfl
        have e99 : (9999 : Int32).toInt = 9999 := rfl
        omega
      refine V.iconst (v := (-1)) (pc := 12) dX11_end_12 (by decide) ?_
      exact V.iret (pc := 13) dX11_end_13 rfl (QX.pure hX hR (by rw [s_end, if_neg q]; rfl) (by rw [s_end, if_neg q]))
theorem y_knob {g : gG} {d : Nat} {T : mT} {n : Nat} {I : mI} {J : mJ} {F : mF} {x : Nat} {A : Ab}  (hX : XS T F x) (hA : AbOK A) (hR : RepX T I J F x A)  : Ct g mX11_knob (d + 4) [.ref x] 0 0 T n I J F (QX x T n I J F (some (.int (iI (s_knob A).1))) (s_knob A).2) := by
  refine Ct.ofV (k := 0) (by decide) (Nat.le_of_ble_eq_true rfl) ?_
  show V g mX11_knob (d + 4) _ 0 0 0 [some (.ref x)] [] T n I J F
  have hTo := hX.s.o
  have h44 := hA.1.2.2.2.2.2.2.2.2.2.1
  refine V.aload_n (pc := 0) dX11_knob_0 rfl ?_
  refine V.getR (pc := 1) dX11_knob_1 fX11_10_10 rfl hX.o hX.f0 ?_
  refine V.getI (pc := 4) dX11_knob_4 fX11_258_7 rfl (by assumption) ?_
  rw [hR.h14]
  refine V.iconst (v := 4) (pc := 7) dX11_knob_7 (by decide) ?_
  refine V.icmp_lt 18 (pc := 8) dX11_knob_8 (by decide) (fun h8 => ?_) (fun h8 => ?_)
  · have q : ¬ (kns (cor A)).length = 4 := by
      rw [L4, nI_ltI (by omega) (by omega)] at h8
      omega
    refine V.aload_n (pc := 18) dX11_knob_18 rfl ?_
    refine V.getR (pc := 19) dX11_knob_19 fX11_10_10 rfl hX.o hX.f0 ?_
    refine V.dup (pc := 22) dX11_knob_22 rfl ?_
    refine V.getI (pc := 23) dX11_knob_23 fX11_258_7 rfl (by assumption) ?_
    rw [hR.h14]
    refine V.iconst (v := 1) (pc := 26) dX11_knob_26 (by decide) ?_
    refine V.iadd (pc := 27) dX11_knob_27 ?_
    rw [nI_1]
    refine V.putI (pc := 28) dX11_knob_28 fX11_258_7 (fun r h => by cases h; exact Or.inl rfl) rfl (by assumption) ?_
    refine V.aload_n (pc := 31) dX11_knob_31 rfl ?_
    refine V.aload_n (pc := 32) dX11_knob_32 rfl ?_
    refine V.getR (pc := 33) dX11_knob_33 fX11_10_10 rfl hX.o hX.f0 ?_
    refine V.getI (pc := 36) dX11_knob_36 fX11_258_7 rfl (by assumption) ?_
    rw [up2_same]
    refine V.iconst (v := 1) (pc := 39) dX11_knob_39 (by decide) ?_
    refine V.isub (pc := 40) dX11_knob_40 ?_
    rw [nI_pred]
    refine V.invV0 (as := [_]) (pc := 41) dX11_knob_41 lX11_92 bX11_accept nX11_accept (ci := 10) rfl eX11_accept hX.o (x_accept (d := d + 3) _ hX) (by omega) rfl (Nat.le_of_ble_eq_true rfl) ?_
    rintro _ _ _ _ _ _ ⟨rfl, rfl, rfl, rfl, rfl, rfl⟩
    exact V.iret (pc := 44) dX11_knob_44 rfl (QX.yes (c := knsC (cor A) (kns (cor A) ++ [fun _ => 0])) hX hA (ok_cor hA (ok_knobNew hA.1 (by omega))) (hR.core hA (fun b hb => up2_off (by omega)) (StX.knobNew (by omega) hA.1 hR.2.2.1 (by omega)) (fun _ _ => rfl)) (FrX.rf.up (by omega)) FrX.rf (by rw [s_knob, if_neg q]; simp only [okYes]; rw [iI_nat]) (by rw [s_knob, if_neg q]; rfl))
  · have q : (kns (cor A)).length = 4 := by
      rw [L4, nI_ltI (by omega) (by omega)] at h8
      omega
    refine V.aload_n (pc := 11) dX11_knob_11 rfl ?_
    refine V.bipush (v := (-5)) (pc := 12) dX11_knob_12 (by decide) ?_
    refine V.invV0 (as := [_]) (pc := 14) dX11_knob_14 lX11_85 bX11_refuse nX11_refuse (ci := 10) rfl eX11_refuse hX.o (x_refuse5 (d := d + 3) hX) (by omega) rfl (Nat.le_of_ble_eq_true rfl) ?_
    rintro _ _ _ _ _ _ ⟨rfl, rfl, rfl, rfl, rfl, rfl⟩
    exact V.iret (pc := 17) dX11_knob_17 rfl (QX.no 2 (-5) (by decide) hX hA hR FrX.rf FrX.rf (by omega) (by rw [s_knob, if_pos q]; rfl))
