theorem seenP_pre {ss : List Sg} {h gap j : Nat} {y : Hd} (e : seenP ss h y gap = true) : seenP (ss.take j) h y gap = true := by
  unfold seenP at e ⊢
  rw [List.all_eq_true] at e ⊢
  exact fun s hs => e s (List.mem_of_mem_take hs)
theorem RepX.sg {T : mT} {I : mI} {J : mJ} {F : mF} {x : Nat} {A : Ab} (hR : RepX T I J F x A) (hA : AbOK A) : (sgs (cor A)).length ≤ 10 ∧ (∀ (i : Nat) (s : Sg), (sgs (cor A))[i]? = some s → I (x + 1 + 4) i = nI s.1 ∧ I (x + 1 + 5) i = nI s.2.1 ∧ I (x + 1 + 6) i = nI s.2.2) ∧ ∀ s ∈ sgs (cor A), s.1 < 6 ∧ s.2.1 ≤ 1000000 ∧ s.2.2 < 400 := by
  refine ⟨hA.1.2.2.2.2.2.2.2.1, hR.2.2.1.2.2.2.1, fun s hs => ?_⟩
  obtain ⟨a, b, c⟩ := hA.1.2.2.2.2.2.2.2.2.1 s hs
  have h6 := hA.1.1
  have e := c _ (List.getElem?_eq_getElem a)
  have := (hA.1.2.1 _ (List.getElem_mem a)).2.1
  exact ⟨by omega, b, by omega⟩
theorem l_would {g : gG} {d : Nat} {T : mT} {n : Nat} {I : mI} {J : mJ} {F : mF} {Q : mQ} {x a h gap : Nat} {A : Ab} {y : Hd} {v z : Int32} (hX : XS T F x) (hA : AbOK A) (hR : RepX T I J F x A) (hv : v = nI h) (hz : z = nI gap) (hh : h < 6) (hg : gap ≤ 9999) (hN : HN T F a) (hY : HdOK y) (hW : HdX I J a y) : ∀ (t j : Nat) , j + t = (sgs (cor A)).length → (seenP ((sgs (cor A)).take j) h y gap = true ∧ Q (some (.int (bi ((seenP (sgs (cor A)) h y) gap = true)))) T n I J F) → V g mX11_wouldShowSights (d + 2) Q 0 0 3 [some (.ref x), some (.int v), some (.ref a), some (.int z), some (.int (nI j))] [] T n I J F := by
  intro t
  induction t with
  | zero =>
    intro j  hj hi
    obtain rfl : j = (sgs (cor A)).length := by omega
    have hTo := hX.s.o
    obtain ⟨s0, s1, s2⟩ := hR.sg hA
    refine V.iload (pc := 3) dX11_wouldShowSights_3 rfl ?_
    refine V.aload_n (pc := 5) dX11_wouldShowSights_5 rfl ?_
    refine V.getR (pc := 6) dX11_wouldShowSights_6 fX11_10_10 rfl hX.o hX.f0 ?_
    refine V.getI (pc := 9) dX11_wouldShowSights_9 fX11_237_7 rfl (by assumption) ?_
    rw [hR.h12]
    refine V.icmp_ge 65 (pc := 12) dX11_wouldShowSights_12 (by decide) (fun h12 => ?_) (fun h12 => absurd (nI_le (Nat.le_refl _) (by omega)) h12)
    refine V.iconst (v := 1) (pc := 65) dX11_wouldShowSights_65 (by decide) ?_
    exact V.zret (pc := 66) dX11_wouldShowSights_66 rfl (by first | exact Or.inl rfl | exact Or.inr rfl | exact bi_or | assumption) (by have z := hi.2; rw [List.take_length] at hi; rw [bi_t hi.1] at z; exact z)
  | succ t ih =>
    intro j  hj hi
    have hTo := hX.s.o
    have hTa := hN.o
    obtain ⟨s0, s1, s2⟩ := hR.sg hA
    obtain ⟨s, hj2⟩ : ∃ s, (sgs (cor A))[j]? = some s := ⟨_, List.getElem?_eq_getElem (by omega)⟩
    obtain ⟨r0, r1, r2⟩ := s1 j s hj2
    obtain ⟨b0, b1, b2⟩ := s2 s (List.mem_of_getElem? hj2)
    have hmk : mkN (goN s.2.1 gap) (upN y.2.2.2) (loN y.2.2.2) y.1 y.2.1 < 400 := by
      unfold mkN
      have h1 := hY.1
      have h2 := hY.2.1
      have := Nat.mod_lt (goN s.2.1 gap * upN y.2.2.2 * y.1 / loN y.2.2.2 + y.2.1) (show 0 < y.1 by omega)
      omega
    refine V.iload (pc := 3) dX11_wouldShowSights_3 rfl ?_
    refine V.aload_n (pc := 5) dX11_wouldShowSights_5 rfl ?_
    refine V.getR (pc := 6) dX11_wouldShowSights_6 fX11_10_10 rfl hX.o hX.f0 ?_
    refine V.getI (pc := 9) dX11_wouldShowSights_9 fX11_237_7 rfl (by assumption) ?_
    rw [hR.h12]
    refine V.icmp_ge 65 (pc := 12) dX11_wouldShowSights_12 (by decide) (fun h12 => absurd h12 (nI_ge (by omega) (by omega))) (fun h12 => ?_)
    refine V.aload_n (pc := 15) dX11_wouldShowSights_15 rfl ?_
    refine V.getR (pc := 16) dX11_wouldShowSights_16 fX11_10_10 rfl hX.o hX.f0 ?_
    refine V.iload (pc := 19) dX11_wouldShowSights_19 rfl ?_
    refine V.pV (as := [_]) (pc := 21) dX11_wouldShowSights_21 lX11_316 bX8_sightHandAt nX8_sightHandAt (ci := 7) rfl eX8_sightHandAt (by assumption) (x_sightHand (d := d + 1) (k := j) _ hX.s rfl (by omega)) (by omega) rfl (Nat.le_of_ble_eq_true rfl) ?_
    rw [r0]
    refine V.iload_n (pc := 24) dX11_wouldShowSights_24 rfl ?_
    refine V.icmp_ne 59 (pc := 25) dX11_wouldShowSights_25 (by decide) (fun h25 => ?_) (fun h25 => ?_)
    · rw [hv, nI_eq (by omega) (by omega)] at h25
      refine V.iinc1 (pc := 59) dX11_wouldShowSights_59 (by decide) rfl (st1_4 rfl) ?_
      refine V.goto 3 (pc := 62) dX11_wouldShowSights_62 (by decide) ?_
      rw [nI_1]
      exact ih (j + 1) (by omega) ⟨(seenP_take hj2).mpr ⟨hi.1, fun e => absurd e h25⟩, hi.2⟩
    · rw [hv, nI_eq (by omega) (by omega)] at h25
      refine V.aload_n (pc := 28) dX11_wouldShowSights_28 rfl ?_
      refine V.aload_n (pc := 29) dX11_wouldShowSights_29 rfl ?_
      refine V.getR (pc := 30) dX11_wouldShowSights_30 fX11_10_10 rfl hX.o hX.f0 ?_
      refine V.iload (pc := 33) dX11_wouldShowSights_33 rfl ?_
      refine V.pV (as := [_]) (pc := 35) dX11_wouldShowSights_35 lX11_319 bX8_sightDayAt nX8_sightDayAt (ci := 7) rfl eX8_sightDayAt (by assumption) (x_sightDay (d := d + 1) (k := j) _ hX.s rfl (by omega)) (by omega) rfl (Nat.le_of_ble_eq_true rfl) ?_
      rw [r1]
      refine V.iload_n (pc := 38) dX11_wouldShowSights_38 rfl ?_
      refine V.pS (as := [_, _]) (pc := 39) dX11_wouldShowSights_39 lX11_322 bX11_daysGone sX11_daysGone (x_daysGone (d := d + 1) (dd := s.2.1) (gap := gap) _ _ rfl hz b1 hg) (by omega) rfl (Nat.le_of_ble_eq_true rfl) ?_
      refine V.pV (as := [_]) (pc := 42) dX11_wouldShowSights_42 lX11_326 bX1_markAfter nX1_markAfter (ci := 1) rfl eX1_markAfter (by assumption) (x_markAfter (d := d + 0) (go := goN s.2.1 gap) (y := y) _ hN hY hW rfl (Nat.le_trans (goN_le _ _) b1)) (by omega) rfl (Nat.le_of_ble_eq_true rfl) ?_
      refine V.aload_n (pc := 45) dX11_wouldShowSights_45 rfl ?_
      refine V.getR (pc := 46) dX11_wouldShowSights_46 fX11_10_10 rfl hX.o hX.f0 ?_
      refine V.iload (pc := 49) dX11_wouldShowSights_49 rfl ?_
      refine V.pV (as := [_]) (pc := 51) dX11_wouldShowSights_51 lX11_330 bX8_sightMarkAt nX8_sightMarkAt (ci := 7) rfl eX8_sightMarkAt (by assumption) (x_sightMark (d := d + 1) (k := j) _ hX.s rfl (by omega)) (by omega) rfl (Nat.le_of_ble_eq_true rfl) ?_
      rw [r2]
      refine V.icmp_eq 59 (pc := 54) dX11_wouldShowSights_54 (by decide) (fun h54 => ?_) (fun h54 => ?_)
      · rw [nI_eq (by omega) (by omega)] at h54
        refine V.iinc1 (pc := 59) dX11_wouldShowSights_59 (by decide) rfl (st1_4 rfl) ?_
        refine V.goto 3 (pc := 62) dX11_wouldShowSights_62 (by decide) ?_
        rw [nI_1]
        exact ih (j + 1) (by omega) ⟨(seenP_take hj2).mpr ⟨hi.1, fun _ => h54⟩, hi.2⟩
      · rw [nI_eq (by omega) (by omega)] at h54
        refine V.iconst (v := 0) (pc := 57) dX11_wouldShowSights_57 (by decide) ?_
        exact V.zret (pc := 58) dX11_wouldShowSights_58 rfl (by first | exact Or.inl rfl | exact Or.inr rfl | exact bi_or | assumption) (by have z := hi.2; rw [bi_f (fun e => h54 (((seenP_take hj2).mp (seenP_pre e)).2 h25))] at z; exact z)
theorem x_would {g : gG} {d : Nat} {T : mT} {n : Nat} {I : mI} {J : mJ} {F : mF} {x a h gap : Nat} {A : Ab} {y : Hd} (v z : Int32) (hX : XS T F x) (hA : AbOK A) (hR : RepX T I J F x A) (hv : v = nI h) (hz : z = nI gap) (hh : h < 6) (hg : gap ≤ 9999) (hN : HN T F a) (hY : HdOK y) (hW : HdX I J a y) : Ct g mX11_wouldShowSights (d + 2) [.ref x, .int v, .ref a, .int z] 0 0 T n I J F (pureQ T n I J F (some (.int (bi ((seenP (sgs (cor A)) h y) gap = true))))) := by
  refine Ct.ofV (k := 1) (by decide) (Nat.le_of_ble_eq_true rfl) ?_
  show V g mX11_wouldShowSights (d + 2) _ 0 0 0 [some (.ref x), some (.int v), some (.ref a), some (.int z), none] [] T n I J F
  refine V.iconst (v := 0) (pc := 0) dX11_wouldShowSights_0 (by decide) ?_
  refine V.is (pc := 1) dX11_wouldShowSights_1 (by decide) (st1_4 rfl) ?_
  rw [L0]
  exact l_would hX hA hR hv hz hh hg hN hY hW (sgs (cor A)).length 0 (by omega) ⟨by rw [List.take_zero]; rfl, ⟨rfl, rfl, rfl, rfl, rfl, rfl⟩⟩
theorem l_goneX {g : gG} {d : Nat} {T : mT} {n : Nat} {I : mI} {J : mJ} {F : mF} {Q : mQ} {x a h : Nat} {A : Ab} {y : Hd} {v w : Int32} (hX : XS T F x) (hA : AbOK A) (hR : RepX T I J F x A) (hv : v = nI h) (hh : h < 6) (hN : HN T F a) (hY : HdOK y) (hW : HdX I J a y) (hw : w = 0 ∨ w = 1) : ∀ (t j : Nat) , j + t = 399 → (Q (some (.int (if w = 0 then nI (cntD (seenP (sgs (cor A)) h y) 2 399) else iI (fstD (seenP (sgs (cor A)) h y) (2 + j) t)))) T n I J F) → V g mX11_gone (d + 3) Q 0 0 30 [some (.ref x), some (.int v), some (.int w), some (.ref a), some (.int (nI (cntD (seenP (sgs (cor A)) h y) 2 j))), some (.int (nI (2 + j)))] [] T n I J F := by
  intro t
  induction t with
  | zero =>
    intro j  hj hi
    obtain rfl : j = 399 := by omega
    refine V.iload (pc := 30) dX11_gone_30 rfl ?_
    refine V.sipush (v := 400) (pc := 32) dX11_gone_32 (by decide) ?_
    refine V.icmp_gt 66 (pc := 35) dX11_gone_35 (by decide) (fun h35 => ?_) (fun h35 => absurd (by rw [L400, nI_ltI (by omega) (by omega)]; omega) h35)
    refine V.iload_n (pc := 66) dX11_gone_66 rfl ?_
    refine V.if_ne 75 (pc := 67) dX11_gone_67 (by decide) (fun h67 => ?_) (fun h67 => ?_)
    · refine V.iconst (v := (-1)) (pc := 75) dX11_gone_75 (by decide) ?_
      exact V.iret (pc := 76) dX11_gone_76 rfl (by rw [if_neg h67] at hi; exact hi)
    · refine V.iload (pc := 70) dX11_gone_70 rfl ?_
      refine V.goto 76 (pc := 72) dX11_gone_72 (by decide) ?_
      exact V.iret (pc := 76) dX11_gone_76 rfl (by rw [if_pos h67] at hi; exact hi)
  | succ t ih =>
    intro j  hj hi
    refine V.iload (pc := 30) dX11_gone_30 rfl ?_
    refine V.sipush (v := 400) (pc := 32) dX11_gone_32 (by decide) ?_
    refine V.icmp_gt 66 (pc := 35) dX11_gone_35 (by decide) (fun h35 => absurd h35 (by rw [L400, nI_ltI (by omega) (by omega)]; omega)) (fun h35 => ?_)
    refine V.aload_n (pc := 38) dX11_gone_38 rfl ?_
    refine V.iload_n (pc := 39) dX11_gone_39 rfl ?_
    refine V.aload_n (pc := 40) dX11_gone_40 rfl ?_
    refine V.iload (pc := 41) dX11_gone_41 rfl ?_
    refine V.pV (as := [_, _, _]) (pc := 43) dX11_gone_43 lX11_251 bX11_wouldShowSights nX11_wouldShowSights (ci := 10) rfl eX11_wouldShowSights hX.o (x_would (d := d + 0) (h := h) (gap := 2 + j) (y := y) _ _ hX hA hR hv rfl hh (by omega) hN hY hW) (by omega) rfl (Nat.le_of_ble_eq_true rfl) ?_
    refine V.if_eq 60 (pc := 46) dX11_gone_46 (by decide) (fun h46 => ?_) (fun h46 => ?_)
    · refine V.iinc1 (pc := 60) dX11_gone_60 (by decide) rfl (st1_5 rfl) ?_
      refine V.goto 30 (pc := 63) dX11_gone_63 (by decide) ?_
      rw [nI_1]
      have z := ih (j + 1) (by omega) (by rw [fstD_n (show (seenP (sgs (cor A)) h y) (2 + j) = false from by rw [Bool.eq_false_iff]; exact bi_eq.mp h46), show 2 + j + 1 = 2 + (j + 1) by omega] at hi; exact hi)
      rw [cntD_snoc, if_neg (bi_eq.mp h46), Nat.add_zero] at z
      exact z
    · refine V.iload_n (pc := 49) dX11_gone_49 rfl ?_
      refine V.iconst (v := 1) (pc := 50) dX11_gone_50 (by decide) ?_
      refine V.icmp_ne 57 (pc := 51) dX11_gone_51 (by decide) (fun h51 => ?_) (fun h51 => ?_)
      · refine V.iinc1 (pc := 57) dX11_gone_57 (by decide) rfl (st1_4 rfl) ?_
        refine V.iinc1 (pc := 60) dX11_gone_60 (by decide) rfl (st1_5 rfl) ?_
        refine V.goto 30 (pc := 63) dX11_gone_63 (by decide) ?_
        rw [nI_1, nI_1]
        have w0 : w = 0 := hw.resolve_right h51
        have z := ih (j + 1) (by omega) (by rw [if_pos w0] at hi ⊢; exact hi)
        rw [cntD_snoc, if_pos (bi_ne.mp h46)] at z
        exact z
      · refine V.iload (pc := 54) dX11_gone_54 rfl ?_
        exact V.iret (pc := 56) dX11_gone_56 rfl (by rw [if_neg (by rw [h51]; decide), fstD_y (bi_ne.mp h46), iI_nat] at hi; exact hi)
theorem y_gone {g : gG} {d : Nat} {T : mT} {n : Nat} {I : mI} {J : mJ} {F : mF} {x : Nat} {A : Ab} (v w : Int32) (hX : XS T F x) (hA : AbOK A) (hR : RepX T I J F x A)  : Ct g mX11_gone (d + 4) [.ref x, .int v, .int w] 0 0 T n I J F (QX x T n I J F (some (.int (iI (s_gone A v.toInt w.toInt)))) A) := by
  refine Ct.ofV (k := 3) (by decide) (Nat.le_of_ble_eq_true rfl) ?_
  show V g mX11_gone (d + 4) _ 0 0 0 [some (.ref x), some (.int v), some (.int w), none, none, none] [] T n I J F
  have hTo := hX.s.o
  refine V.aload_n (pc := 0) dX11_gone_0 rfl ?_
  refine V.getR (pc := 1) dX11_gone_1 fX11_10_10 rfl hX.o hX.f0 ?_
  refine V.iload_n (pc := 4) dX11_gone_4 rfl ?_
  by_cases q1 : 0 ≤ v.toInt ∧ v.toInt < (hds (cor A)).length
  · obtain ⟨y1, hy1, e1y⟩ := hdAt_yes q1
    have h6 := hA.1.1
    have hY1 := hA.1.2.1 y1 (List.mem_of_getElem? hy1)
    have hW1 := hR.hd hy1
    have hN1 := hX.s.n (h := v.toInt.toNat) (by omega)
    have hTa1 := hN1.o
    refine V.pV (as := [_]) (pc := 5) dX11_gone_5 lX11_95 bX8_handAt nX8_handAt (ci := 7) rfl eX8_handAt (by assumption) (x_handAtY (d := d + 3) (k := (hds (cor A)).length) _ hX.s hR.h2 hA.1.1 q1) (by omega) rfl (Nat.le_of_ble_eq_true rfl) ?_
    refine V.asn (pc := 8) dX11_gone_8 (by decide) (st1_3 rfl) ?_
    refine V.aload_n (pc := 9) dX11_gone_9 rfl ?_
    refine V.ifnull (pc := 10) dX11_gone_10 ?_
    refine V.iload_n (pc := 13) dX11_gone_13 rfl ?_
    refine V.if_lt 22 (pc := 14) dX11_gone_14 (by decide) (fun h14 => ?_) (fun h14 => ?_)
    · have w1 : w.toInt < 0 := (lt32 _ _).mp h14
      refine V.iconst (v := (-1)) (pc := 22) dX11_gone_22 (by decide) ?_
      exact V.iret (pc := 23) dX11_gone_23 rfl (QX.q hX hR (by rw [s_gone]; simp only [e1y]; rw [if_neg (by omega), if_neg (by omega)]; rfl))
    · have w1 : 0 ≤ w.toInt := by
        rw [lt32] at h14
        have e0 : (0 : Int32).toInt = 0 := rfl
        omega
      refine V.iload_n (pc := 17) dX11_gone_17 rfl ?_
      refine V.iconst (v := 1) (pc := 18) dX11_gone_18 (by decide) ?_
      refine V.icmp_le 24 (pc := 19) dX11_gone_19 (by decide) (fun h19 => ?_) (fun h19 => ?_)
      · have e1 : (1 : Int32).toInt = 1 := rfl
        rw [le32] at h19
        refine V.iconst (v := 0) (pc := 24) dX11_gone_24 (by decide) ?_
        refine V.is (pc := 25) dX11_gone_25 (by decide) (st1_4 rfl) ?_
        refine V.iconst (v := 2) (pc := 27) dX11_gone_27 (by decide) ?_
        refine V.is (pc := 28) dX11_gone_28 (by decide) (st1_5 rfl) ?_
        have hvx := nIx (x := v) q1.1 rfl
        have hw : w = 0 ∨ w = 1 := by
          rcases (show w.toInt = 0 ∨ w.toInt = 1 by omega) with e | e
          · left; exact (eq32 w 0).mpr e
          · right; exact (eq32 w 1).mpr e
        refine l_goneX (d := d + 1) (h := v.toInt.toNat) (y := y1) hX hA hR hvx (by omega) hN1 hY1 hW1 hw 399 0 (by omega) (QX.q hX hR ?_)
        rw [s_gone]
        simp only [e1y]
        rcases hw with e | e
        · rw [if_pos e, if_pos (by rw [e]; rfl), iI_nat]
        · rw [if_neg (by rw [e]; decide), if_neg (by rw [e]; decide), if_pos (by rw [e]; rfl)]
      · have e1 : (1 : Int32).toInt = 1 := rfl
        rw [le32] at h19
        refine V.iconst (v := (-1)) (pc := 22) dX11_gone_22 (by decide) ?_
        exact V.iret (pc := 23) dX11_gone_23 rfl (QX.q hX hR (by rw [s_gone]; simp only [e1y]; rw [if_neg (by omega), if_neg (by omega)]; rfl))
  · have e1y := hdAt_no q1
    refine V.pV (as := [_]) (pc := 5) dX11_gone_5 lX11_95 bX8_handAt nX8_handAt (ci := 7) rfl eX8_handAt (by assumption) (x_handAtN (d := d + 3) (k := (hds (cor A)).length) _ hX.s hR.h2 hA.1.1 q1) (by omega) rfl (Nat.le_of_ble_eq_true rfl) ?_
    refine V.nsn (pc := 8) dX11_gone_8 (by decide) (st1_3 rfl) ?_
    refine V.nload_n (pc := 9) dX11_gone_9 rfl ?_
    refine V.ifnullN 22 (pc := 10) dX11_gone_10 (by decide) ?_
    refine V.iconst (v := (-1)) (pc := 22) dX11_gone_22 (by decide) ?_
    exact V.iret (pc := 23) dX11_gone_23 rfl (QX.q hX hR (by rw [s_gone]; simp only [e1y]; rfl))
theorem lN_min {a b : Nat} (ha : a < 2 ^ 63) (hb : b < 2 ^ 63) : (if lN a < lN b then lN a else lN b) = lN (if a < b then a else b) := by
  by_cases h : a < b
  · rw [if_pos h, if_pos ((lN_ltL ha hb).mpr h)]
  · rw [if_neg h, if_neg (fun z => h ((lN_ltL ha hb).mp z))]
theorem nI_min {a b : Nat} (ha : a < 2 ^ 31) (hb : b < 2 ^ 31) : (if nI b < nI a then nI b else nI a) = nI (min a b) := by
  by_cases h : b < a
  · rw [if_pos ((nI_ltI hb ha).mpr h), Nat.min_eq_right (by omega)]
  · rw [if_neg (fun z => h ((nI_ltI hb ha).mp z)), Nat.min_eq_left (by omega)]
theorem nI_max {a b : Nat} (ha : a < 2 ^ 31) (hb : b < 2 ^ 31) : (if nI a < nI b then nI b else nI a) = nI (max a b) := by
  by_cases h : a < b
  · rw [if_pos ((nI_ltI ha hb).mpr h), Nat.max_eq_right (by omega)]
  · rw [if_neg (fun z => h ((nI_ltI ha hb).mp z)), Nat.max_eq_left (by omega)]
theorem l_wornX {g : gG} {d : Nat} {T : mT} {n : Nat} {I : mI} {J : mJ} {F : mF} {Q : mQ} {a wear : Nat} {y : Hd} (hN : HN T F a) (hY : HdOK y) (hW : HdX I J a y) (hw1 : 1 ≤ wear) (hw2 : wear ≤ 1000000) (kk : V g mX1_wornOn (d + 2) Q 0 0 81 [some (.ref a), some (.int (nI wear)), some (.long (lN (wmin wear y.2.2.2 y.2.2.2.length))), none, some (.long (lN (upN (y.2.2.2.take y.2.2.2.length)))), none, some (.long (lN (loN (y.2.2.2.take y.2.2.2.length)))), none, some (.int (nI y.2.2.2.length))] [] T n I J F) : ∀ (t j : Nat) , j + t = y.2.2.2.length → (True) → V g mX1_wornOn (d + 2) Q 0 0 21 [some (.ref a), some (.int (nI wear)), some (.long (lN (wmin wear y.2.2.2 j))), none, some (.long (lN (upN (y.2.2.2.take j)))), none, some (.long (lN (loN (y.2.2.2.take j)))), none, some (.int (nI j))] [] T n I J F := by
  intro t
  induction t with
  | zero =>
    intro j  hj hi
    obtain rfl : j = y.2.2.2.length := by omega
    have h4 := hY.2.2.2.2.1
    refine V.iload (pc := 21) dX1_wornOn_21 rfl ?_
    refine V.aload_n (pc := 23) dX1_wornOn_23 rfl ?_
    refine V.getI (pc := 24) dX1_wornOn_24 fX1_21_1 rfl hN.o ?_
    rw [hW.2.2.2.1]
    refine V.icmp_ge 81 (pc := 27) dX1_wornOn_27 (by decide) (fun h27 => ?_) (fun h27 => absurd (nI_le (Nat.le_refl _) (by omega)) h27)
    exact kk
  | succ t ih =>
    intro j  hj hi
    obtain ⟨q, hq⟩ : ∃ q, y.2.2.2[j]? = some q := ⟨_, List.getElem?_eq_getElem (by omega)⟩
    obtain ⟨hq1, hq2⟩ := hW.2.2.2.2.1 j q hq
    have hqb := hY.2.2.2.2.2 q (List.mem_of_getElem? hq)
    have h4 := hY.2.2.2.2.1
    have hb := rate_bd hY (j + 1)
    rw [upN_take hq, loN_take hq] at hb
    have b1 : wear * (loN (y.2.2.2.take j) * q.2) ≤ 1000000 * 207360000 := Nat.mul_le_mul hw2 hb.2.2
    have b2 := wmin_le wear y.2.2.2 j
    have b3 : wrN wear y.2.2.2 (j + 1) ≤ wear * loN (y.2.2.2.take (j + 1)) + upN (y.2.2.2.take (j + 1)) - 1 := Nat.div_le_self _ _
    rw [upN_take hq, loN_take hq] at b3
    refine V.iload (pc := 21) dX1_wornOn_21 rfl ?_
    refine V.aload_n (pc := 23) dX1_wornOn_23 rfl ?_
    refine V.getI (pc := 24) dX1_wornOn_24 fX1_21_1 rfl hN.o ?_
    rw [hW.2.2.2.1]
    refine V.icmp_ge 81 (pc := 27) dX1_wornOn_27 (by decide) (fun h27 => absurd h27 (nI_ge (by omega) (by omega))) (fun h27 => ?_)
    refine V.lload (pc := 30) dX1_wornOn_30 rfl ?_
    refine V.aload_n (pc := 32) dX1_wornOn_32 rfl ?_
    refine V.iconst (v := 2) (pc := 33) dX1_wornOn_33 (by decide) ?_
    refine V.iload (pc := 34) dX1_wornOn_34 rfl ?_
    refine V.imul (pc := 36) dX1_wornOn_36 ?_
    refine V.pV (as := [_]) (pc := 37) dX1_wornOn_37 lX1_65 bX1_teethAt nX1_teethAt (ci := 1) rfl eX1_teethAt hN.o (x_teethAtY (d := d + 1) (k := 2 * j) (y := y) _ hN hW.2.2.2.1 h4 (by simp only [L2, pk_mul]) (by omega)) (by omega) rfl (Nat.le_of_ble_eq_true rfl) ?_
    rw [hq1]
    refine V.i2l (pc := 40) dX1_wornOn_40 ?_
    rw [nI_l (by omega)]
    refine V.lmul (pc := 41) dX1_wornOn_41 ?_
    rw [lN_mul]
    refine V.ls (pc := 42) dX1_wornOn_42 (by decide) (st2_4 rfl) ?_
    refine V.lload (pc := 44) dX1_wornOn_44 rfl ?_
    refine V.aload_n (pc := 46) dX1_wornOn_46 rfl ?_
    refine V.iconst (v := 2) (pc := 47) dX1_wornOn_47 (by decide) ?_
    refine V.iload (pc := 48) dX1_wornOn_48 rfl ?_
    refine V.imul (pc := 50) dX1_wornOn_50 ?_
    refine V.iconst (v := 1) (pc := 51) dX1_wornOn_51 (by decide) ?_
    refine V.iadd (pc := 52) dX1_wornOn_52 ?_
    refine V.pV (as := [_]) (pc := 53) dX1_wornOn_53 lX1_65 bX1_teethAt nX1_teethAt (ci := 1) rfl eX1_teethAt hN.o (x_teethAtY (d := d + 1) (k := 2 * j + 1) (y := y) _ hN hW.2.2.2.1 h4 (by simp only [L2, L1, pk_mul, nI_add]) (by omega)) (by omega) rfl (Nat.le_of_ble_eq_true rfl) ?_
    rw [hq2]
    refine V.i2l (pc := 56) dX1_wornOn_56 ?_
    rw [nI_l (by omega)]
    refine V.lmul (pc := 57) dX1_wornOn_57 ?_
    rw [lN_mul]
    refine V.ls (pc := 58) dX1_wornOn_58 (by decide) (st2_6 rfl) ?_
    refine V.lload_n (pc := 60) dX1_wornOn_60 rfl ?_
    refine V.iload_n (pc := 61) dX1_wornOn_61 rfl ?_
    refine V.i2l (pc := 62) dX1_wornOn_62 ?_
    rw [nI_l (by omega)]
    refine V.lload (pc := 63) dX1_wornOn_63 rfl ?_
    refine V.lmul (pc := 65) dX1_wornOn_65 ?_
    rw [lN_mul]
    refine V.lload (pc := 66) dX1_wornOn_66 rfl ?_
    refine V.pS (as := [_, _]) (pc := 68) dX1_wornOn_68 lX1_69 bX11_cutUp sX11_cutUp (x_cutUp (d := d + 0) (a := wear * (loN (y.2.2.2.take j) * q.2)) (b := upN (y.2.2.2.take j) * q.1) _ _ rfl rfl (by omega) (by omega) (by omega)) (by omega) rfl (Nat.le_of_ble_eq_true rfl) ?_
    rw [cup_eq (by omega), show (wear * (loN (y.2.2.2.take j) * q.2) + upN (y.2.2.2.take j) * q.1 - 1) / (upN (y.2.2.2.take j) * q.1) = wrN wear y.2.2.2 (j + 1) from by rw [wrN, upN_take hq, loN_take hq]]
    refine V.mminl (pc := 71) dX1_wornOn_71 lX1_72 (by omega) (Nat.le_of_ble_eq_true rfl) ?_
    rw [lN_min (by omega) (by omega)]
    refine V.lsn (pc := 74) dX1_wornOn_74 (by decide) (st2_2 rfl) ?_
    refine V.iinc1 (pc := 75) dX1_wornOn_75 (by decide) rfl (st1_8 rfl) ?_
    refine V.goto 21 (pc := 78) dX1_wornOn_78 (by decide) ?_
    have z := ih (j + 1) (by omega) trivial
    rw [upN_take hq, loN_take hq, wmin] at z
    rw [nI_1]
    exact z
theorem x_wornOn {g : gG} {d : Nat} {T : mT} {n : Nat} {I : mI} {J : mJ} {F : mF} {a wear : Nat} {y : Hd} (v : Int32) (hN : HN T F a) (hY : HdOK y) (hW : HdX I J a y) (hv : v = nI wear) (hw1 : 1 ≤ wear) (hw2 : wear ≤ 1000000) : Ct g mX1_wornOn (d + 2) [.ref a, .int v] 0 0 T n I J F (pureQ T n I J F (some (.int (iI (wornI wear y))))) := by
  refine Ct.ofV (k := 7) (by decide) (Nat.le_of_ble_eq_true rfl) ?_
  show V g mX1_wornOn (d + 2) _ 0 0 0 [some (.ref a), some (.int v), none, none, none, none, none, none, none] [] T n I J F
  subst hv
  have h4 := hY.2.2.2.2.1
  have b0 := wmin_le wear y.2.2.2 y.2.2.2.length
  refine V.aload_n (pc := 0) dX1_wornOn_0 rfl ?_
  refine V.getI (pc := 1) dX1_wornOn_1 fX1_21_1 rfl hN.o ?_
  rw [hW.2.2.2.1]
  refine V.if_ne 9 (pc := 4) dX1_wornOn_4 (by decide) (fun h4' => ?_) (fun h4' => ?_)
  · have hn : ¬ y.2.2.2.length = 0 := fun z => h4' (by rw [z]; rfl)
    refine V.iload_n (pc := 9) dX1_wornOn_9 rfl ?_
    refine V.i2l (pc := 10) dX1_wornOn_10 ?_
    rw [nI_l (by omega)]
    refine V.lsn (pc := 11) dX1_wornOn_11 (by decide) (st2_2 rfl) ?_
    refine V.lconst (v := 1) (pc := 12) dX1_wornOn_12 (by decide) ?_
    refine V.ls (pc := 13) dX1_wornOn_13 (by decide) (st2_4 rfl) ?_
    refine V.lconst (v := 1) (pc := 15) dX1_wornOn_15 (by decide) ?_
    refine V.ls (pc := 16) dX1_wornOn_16 (by decide) (st2_6 rfl) ?_
    refine V.iconst (v := 0) (pc := 18) dX1_wornOn_18 (by decide) ?_
    refine V.is (pc := 19) dX1_wornOn_19 (by decide) (st1_8 rfl) ?_
    refine l_wornX (y := y) hN hY hW hw1 hw2 ?_ y.2.2.2.length 0 (by omega) trivial
    refine V.lload_n (pc := 81) dX1_wornOn_81 rfl ?_
    refine V.ldc2 (pc := 82) dX1_wornOn_82 qX1_56 ?_
    refine V.lcmp_le 93 (pc := 85) dX1_wornOn_85 dX1_wornOn_86 (by decide) (fun h85 => ?_) (fun h85 => ?_)
    · have z1 : wmin wear y.2.2.2 y.2.2.2.length ≤ 1000000 := by
        rw [show (1000000 : Int64) = lN 1000000 from rfl, lN_leL (by omega) (by omega)] at h85
        exact h85
      refine V.lload_n (pc := 93) dX1_wornOn_93 rfl ?_
      refine V.l2i (pc := 94) dX1_wornOn_94 ?_
      rw [lN_i]
      exact V.iret (pc := 95) dX1_wornOn_95 rfl ⟨by rw [wornI, if_neg hn, if_pos z1, iI_nat], rfl, rfl, rfl, rfl, rfl⟩
    · have z1 : ¬ wmin wear y.2.2.2 y.2.2.2.length ≤ 1000000 := by
        rw [show (1000000 : Int64) = lN 1000000 from rfl, lN_leL (by omega) (by omega)] at h85
        exact h85
      refine V.iconst (v := (-1)) (pc := 89) dX1_wornOn_89 (by decide) ?_
      refine V.goto 95 (pc := 90) dX1_wornOn_90 (by decide) ?_
      exact V.iret (pc := 95) dX1_wornOn_95 rfl ⟨by rw [wornI, if_neg hn, if_neg z1]; rfl, rfl, rfl, rfl, rfl, rfl⟩
  · have hn : y.2.2.2.length = 0 := by
      rw [L0, nI_eq (by omega) (by omega)] at h4'
      exact h4'
    refine V.iconst (v := (-1)) (pc := 7) dX1_wornOn_7 (by decide) ?_
    exact V.iret (pc := 8) dX1_wornOn_8 rfl ⟨by rw [wornI, if_pos hn]; rfl, rfl, rfl, rfl, rfl, rfl⟩
theorem x_dayWornY {g : gG} {d : Nat} {T : mT} {n : Nat} {I : mI} {J : mJ} {F : mF} {x : Nat} {A : Ab} {y : Hd} (v : Int32) (hX : XS T F x) (hA : AbOK A) (hR : RepX T I J F x A) (q1 : 0 ≤ v.toInt ∧ v.toInt < (hds (cor A)).length) (hy : (hds (cor A))[v.toInt.toNat]? = some y) : Ct g mX11_dayWorn (d + 3) [.ref x, .int v] 0 0 T n I J F (pureQ T n I J F (some (.int (iI (wornI (wer (cor A)) y))))) := by
  refine Ct.ofV (k := 1) (by decide) (Nat.le_of_ble_eq_true rfl) ?_
  show V g mX11_dayWorn (d + 3) _ 0 0 0 [some (.ref x), some (.int v), none] [] T n I J F
  have hTo := hX.s.o
  have h6 := hA.1.1
  have hN := hX.s.n (h := v.toInt.toNat) (by omega)
  have hTa := hN.o
  refine V.aload_n (pc := 0) dX11_dayWorn_0 rfl ?_
  refine V.getR (pc := 1) dX11_dayWorn_1 fX11_10_10 rfl hX.o hX.f0 ?_
  refine V.iload_n (pc := 4) dX11_dayWorn_4 rfl ?_
  refine V.pV (as := [_]) (pc := 5) dX11_dayWorn_5 lX11_95 bX8_handAt nX8_handAt (ci := 7) rfl eX8_handAt (by assumption) (x_handAtY (d := d + 2) (k := (hds (cor A)).length) _ hX.s hR.h2 hA.1.1 q1) (by omega) rfl (Nat.le_of_ble_eq_true rfl) ?_
  refine V.asn (pc := 8) dX11_dayWorn_8 (by decide) (st1_2 rfl) ?_
  refine V.aload_n (pc := 9) dX11_dayWorn_9 rfl ?_
  refine V.ifnonnull 17 (pc := 10) dX11_dayWorn_10 (by decide) ?_
  refine V.aload_n (pc := 17) dX11_dayWorn_17 rfl ?_
  refine V.aload_n (pc := 18) dX11_dayWorn_18 rfl ?_
  refine V.getR (pc := 19) dX11_dayWorn_19 fX11_10_10 rfl hX.o hX.f0 ?_
  refine V.getI (pc := 22) dX11_dayWorn_22 fX11_140_7 rfl (by assumption) ?_
  rw [hR.h5]
  refine V.pV (as := [_]) (pc := 25) dX11_dayWorn_25 lX11_333 bX1_wornOn nX1_wornOn (ci := 1) rfl eX1_wornOn (by assumption) (x_wornOn (d := d + 0) (wear := wer (cor A)) (y := y) _ hN (hA.1.2.1 y (List.mem_of_getElem? hy)) (hR.hd hy) rfl hA.1.2.2.2.2.2.2.2.2.2.2.2.1 hA.1.2.2.2.2.2.2.2.2.2.2.2.2) (by omega) rfl (Nat.le_of_ble_eq_true rfl) ?_
  exact V.iret (pc := 28) dX11_dayWorn_28 rfl ⟨rfl, rfl, rfl, rfl, rfl, rfl⟩
theorem x_dayWornN {g : gG} {d : Nat} {T : mT} {n : Nat} {I : mI} {J : mJ} {F : mF} {x : Nat} {A : Ab} (v : Int32) (hX : XS T F x) (hA : AbOK A) (hR : RepX T I J F x A) (q1 : ¬ (0 ≤ v.toInt ∧ v.toInt < (hds (cor A)).length)) : Ct g mX11_dayWorn (d + 3) [.ref x, .int v] 0 0 T n I J F (pureQ T n I J F (some (.int (-1)))) := by
  refine Ct.ofV (k := 1) (by decide) (Nat.le_of_ble_eq_true rfl) ?_
  show V g mX11_dayWorn (d + 3) _ 0 0 0 [some (.ref x), some (.int v), none] [] T n I J F
  have hTo := hX.s.o
  refine V.aload_n (pc := 0) dX11_dayWorn_0 rfl ?_
  refine V.getR (pc := 1) dX11_dayWorn_1 fX11_10_10 rfl hX.o hX.f0 ?_
  refine V.iload_n (pc := 4) dX11_dayWorn_4 rfl ?_
  refine V.pV (as := [_]) (pc := 5) dX11_dayWorn_5 lX11_95 bX8_handAt nX8_handAt (ci := 7) rfl eX8_handAt (by assumption) (x_handAtN (d := d + 2) (k := (hds (cor A)).length) _ hX.s hR.h2 hA.1.1 q1) (by omega) rfl (Nat.le_of_ble_eq_true rfl) ?_
  refine V.nsn (pc := 8) dX11_dayWorn_8 (by decide) (st1_2 rfl) ?_
  refine V.nload_n (pc := 9) dX11_dayWorn_9 rfl ?_
  refine V.ifnonnullN (pc := 10) dX11_dayWorn_10 ?_
  refine V.iconst (v := (-1)) (pc := 13) dX11_dayWorn_13 (by decide) ?_
  refine V.goto 28 (pc := 14) dX11_dayWorn_14 (by decide) ?_
  exact V.iret (pc := 28) dX11_dayWorn_28 rfl ⟨rfl, rfl, rfl, rfl, rfl, rfl⟩
theorem t_wornX {g : gG} {d : Nat} {T : mT} {n : Nat} {I : mI} {J : mJ} {F : mF} {Q : mQ} {m j : Nat} {x : Int32} {a b : Int} {r : Option Value} (ha : -1 ≤ a ∧ a ≤ 1000000) (hb : -1 ≤ b ∧ b ≤ 1000000) (kk : V g mX11_worn (d + 4) Q 0 0 15 [some (.ref m), some (.int x), some (.int (iI (betI a b))), some (.int (nI (j + 1))), none] [] T n I J F) : V g mX11_worn (d + 4) Q 0 0 31 [some (.ref m), some (.int x), some (.int (iI a)), some (.int (nI j)), r] [.int (iI b)] T n I J F := by
  have em : (-1 : Int32) = iI (-1) := rfl
  refine V.is (pc := 31) dX11_worn_31 (by decide) (st1_4 rfl) ?_
  refine V.iload (pc := 33) dX11_worn_33 rfl ?_
  refine V.iconst (v := (-1)) (pc := 35) dX11_worn_35 (by decide) ?_
  refine V.icmp_eq 53 (pc := 36) dX11_worn_36 (by decide) (fun h36 => ?_) (fun h36 => ?_)
  · rw [em, iI_eqI (by omega) (by omega)] at h36
    refine V.iinc1 (pc := 53) dX11_worn_53 (by decide) rfl (st1_3 rfl) ?_
    refine V.goto 15 (pc := 56) dX11_worn_56 (by decide) ?_
    refine V.weak wk_4 ?_
    rw [betI, if_neg (fun z => z.1 h36)] at kk
    rw [nI_1]
    exact kk
  · rw [em, iI_eqI (by omega) (by omega)] at h36
    refine V.iload_n (pc := 39) dX11_worn_39 rfl ?_
    refine V.iconst (v := (-1)) (pc := 40) dX11_worn_40 (by decide) ?_
    refine V.icmp_eq 50 (pc := 41) dX11_worn_41 (by decide) (fun h41 => ?_) (fun h41 => ?_)
    · rw [em, iI_eqI (by omega) (by omega)] at h41
      refine V.iload (pc := 50) dX11_worn_50 rfl ?_
      refine V.isn (pc := 52) dX11_worn_52 (by decide) (st1_2 rfl) ?_
      refine V.iinc1 (pc := 53) dX11_worn_53 (by decide) rfl (st1_3 rfl) ?_
      refine V.goto 15 (pc := 56) dX11_worn_56 (by decide) ?_
      refine V.weak wk_4 ?_
      rw [betI, if_pos ⟨h36, Or.inl h41⟩] at kk
      rw [nI_1]
      exact kk
    · rw [em, iI_eqI (by omega) (by omega)] at h41
      refine V.iload (pc := 44) dX11_worn_44 rfl ?_
      refine V.iload_n (pc := 46) dX11_worn_46 rfl ?_
      refine V.icmp_ge 53 (pc := 47) dX11_worn_47 (by decide) (fun h47 => ?_) (fun h47 => ?_)
      · rw [iI_leI (by omega) (by omega)] at h47
        refine V.iinc1 (pc := 53) dX11_worn_53 (by decide) rfl (st1_3 rfl) ?_
        refine V.goto 15 (pc := 56) dX11_worn_56 (by decide) ?_
        refine V.weak wk_4 ?_
        rw [betI, if_neg (by omega)] at kk
        rw [nI_1]
        exact kk
      · rw [iI_leI (by omega) (by omega)] at h47
        refine V.iload (pc := 50) dX11_worn_50 rfl ?_
        refine V.isn (pc := 52) dX11_worn_52 (by decide) (st1_2 rfl) ?_
        refine V.iinc1 (pc := 53) dX11_worn_53 (by decide) rfl (st1_3 rfl) ?_
        refine V.goto 15 (pc := 56) dX11_worn_56 (by decide) ?_
        refine V.weak wk_4 ?_
        rw [betI, if_pos ⟨h36, Or.inr (by omega)⟩] at kk
        rw [nI_1]
        exact kk
theorem l_wornX2 {g : gG} {d : Nat} {T : mT} {n : Nat} {I : mI} {J : mJ} {F : mF} {Q : mQ} {x : Nat} {A : Ab} {v : Int32} (hX : XS T F x) (hA : AbOK A) (hR : RepX T I J F x A) (kk : V g mX11_worn (d + 4) Q 0 0 59 [some (.ref x), some (.int v), some (.int (iI (wfx (-1) (wer (cor A)) (hds (cor A)) (hds (cor A)).length))), some (.int (nI (hds (cor A)).length)), none] [] T n I J F) : ∀ (t j : Nat) , j + t = (hds (cor A)).length → (True) → V g mX11_worn (d + 4) Q 0 0 15 [some (.ref x), some (.int v), some (.int (iI (wfx (-1) (wer (cor A)) (hds (cor A)) j))), some (.int (nI j)), none] [] T n I J F := by
  intro t
  induction t with
  | zero =>
    intro j  hj hi
    obtain rfl : j = (hds (cor A)).length := by omega
    have hTo := hX.s.o
    have h6 := hA.1.1
    refine V.iload_n (pc := 15) dX11_worn_15 rfl ?_
    refine V.aload_n (pc := 16) dX11_worn_16 rfl ?_
    refine V.getR (pc := 17) dX11_worn_17 fX11_10_10 rfl hX.o hX.f0 ?_
    refine V.getI (pc := 20) dX11_worn_20 fX11_287_7 rfl (by assumption) ?_
    rw [hR.h2]
    refine V.icmp_ge 59 (pc := 23) dX11_worn_23 (by decide) (fun h23 => ?_) (fun h23 => absurd (nI_le (Nat.le_refl _) (by omega)) h23)
    exact kk
  | succ t ih =>
    intro j  hj hi
    have hTo := hX.s.o
    have h6 := hA.1.1
    obtain ⟨y, hy⟩ : ∃ y, (hds (cor A))[j]? = some y := ⟨_, List.getElem?_eq_getElem (by omega)⟩
    have ej : (nI j).toInt = (j : Int) := nI_toInt (by omega)
    refine V.iload_n (pc := 15) dX11_worn_15 rfl ?_
    refine V.aload_n (pc := 16) dX11_worn_16 rfl ?_
    refine V.getR (pc := 17) dX11_worn_17 fX11_10_10 rfl hX.o hX.f0 ?_
    refine V.getI (pc := 20) dX11_worn_20 fX11_287_7 rfl (by assumption) ?_
    rw [hR.h2]
    refine V.icmp_ge 59 (pc := 23) dX11_worn_23 (by decide) (fun h23 => absurd h23 (nI_ge (by omega) (by omega))) (fun h23 => ?_)
    refine V.aload_n (pc := 26) dX11_worn_26 rfl ?_
    refine V.iload_n (pc := 27) dX11_worn_27 rfl ?_
    refine V.pV (as := [_]) (pc := 28) dX11_worn_28 lX11_284 bX11_dayWorn nX11_dayWorn (ci := 10) rfl eX11_dayWorn hX.o (x_dayWornY (d := d + 0) (y := y) _ hX hA hR (by omega) (by rw [ej, Int.toNat_natCast]; exact hy)) (by omega) rfl (Nat.le_of_ble_eq_true rfl) ?_
    have z := ih (j + 1) (by omega) trivial
    rw [wfx, getD_some hy, if_pos (Or.inl rfl)] at z
    exact t_wornX (wfx_bd _ _ _ _) (wornI_bd _ _) z
theorem y_worn {g : gG} {d : Nat} {T : mT} {n : Nat} {I : mI} {J : mJ} {F : mF} {x : Nat} {A : Ab} (v : Int32) (hX : XS T F x) (hA : AbOK A) (hR : RepX T I J F x A)  : Ct g mX11_worn (d + 4) [.ref x, .int v] 0 0 T n I J F (QX x T n I J F (some (.int (iI (s_worn A v.toInt)))) A) := by
  refine Ct.ofV (k := 3) (by decide) (Nat.le_of_ble_eq_true rfl) ?_
  show V g mX11_worn (d + 4) _ 0 0 0 [some (.ref x), some (.int v), none, none, none] [] T n I J F
  have hTo := hX.s.o
  refine V.iload_n (pc := 0) dX11_worn_0 rfl ?_
  refine V.iconst (v := (-1)) (pc := 1) dX11_worn_1 (by decide) ?_
  refine V.icmp_eq 11 (pc := 2) dX11_worn_2 (by decide) (fun h2 => ?_) (fun h2 => ?_)
  · have q0 : v.toInt = -1 := by rw [h2]; rfl
    refine V.iconst (v := (-1)) (pc := 11) dX11_worn_11 (by decide) ?_
    refine V.isn (pc := 12) dX11_worn_12 (by decide) (st1_2 rfl) ?_
    refine V.iconst (v := 0) (pc := 13) dX11_worn_13 (by decide) ?_
    refine V.isn (pc := 14) dX11_worn_14 (by decide) (st1_3 rfl) ?_
    conv => arg 8; rw [show (-1 : Int32) = iI (wfx (-1) (wer (cor A)) (hds (cor A)) 0) from rfl, L0]
    refine l_wornX2 hX hA hR ?_ (hds (cor A)).length 0 (by omega) trivial
    refine V.iload_n (pc := 59) dX11_worn_59 rfl ?_
    exact V.iret (pc := 60) dX11_worn_60 rfl (QX.q hX hR (by rw [s_worn, if_pos q0]))
  · have q0 : ¬ v.toInt = -1 := fun z => h2 ((eq32 _ _).mpr z)
    refine V.aload_n (pc := 5) dX11_worn_5 rfl ?_
    refine V.iload_n (pc := 6) dX11_worn_6 rfl ?_
    by_cases q1 : 0 ≤ v.toInt ∧ v.toInt < (hds (cor A)).length
    · obtain ⟨y1, hy1, e1y⟩ := hdAt_yes q1
      refine V.pV (as := [_]) (pc := 7) dX11_worn_7 lX11_284 bX11_dayWorn nX11_dayWorn (ci := 10) rfl eX11_dayWorn hX.o (x_dayWornY (d := d + 0) (y := y1) _ hX hA hR q1 hy1) (by omega) rfl (Nat.le_of_ble_eq_true rfl) ?_
      exact V.iret (pc := 10) dX11_worn_10 rfl (QX.q hX hR (by rw [s_worn, if_neg q0]; simp only [e1y]))
    · have e1y := hdAt_no q1
      refine V.pV (as := [_]) (pc := 7) dX11_worn_7 lX11_284 bX11_dayWorn nX11_dayWorn (ci := 10) rfl eX11_dayWorn hX.o (x_dayWornN (d := d + 0) _ hX hA hR q1) (by omega) rfl (Nat.le_of_ble_eq_true rfl) ?_
      exact V.iret (pc := 10) dX11_worn_10 rfl (QX.q hX hR (by rw [s_worn, if_neg q0]; simp only [e1y]; rfl))
