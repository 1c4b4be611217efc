theorem x_clear {g : gG} {d : Nat} {T : mT} {n : Nat} {I : mI} {J : mJ} {F : mF} {a : Nat} (hN : HN T F a) : Ct g mX1_clearTrain (d + 0) [.ref a] 0 0 T n I J F (fun r' T' n' I' J' F' => r' = none ∧ T' = T ∧ n' = n ∧ I' = up2 I a 3 0 ∧ J' = up2 (up2 J a 5 1) a 6 1 ∧ F' = F) := by
  refine Ct.ofV (k := 0) (by decide) (Nat.le_of_ble_eq_true rfl) ?_
  show V g mX1_clearTrain (d + 0) _ 0 0 0 [some (.ref a)] [] T n I J F
  refine V.aload_n (pc := 0) dX1_clearTrain_0 rfl ?_
  refine V.iconst (v := 0) (pc := 1) dX1_clearTrain_1 (by decide) ?_
  refine V.putI (pc := 2) dX1_clearTrain_2 fX1_21_1 (fun r h => by cases h; exact Or.inl rfl) rfl hN.o ?_
  refine V.aload_n (pc := 5) dX1_clearTrain_5 rfl ?_
  refine V.lconst (v := 1) (pc := 6) dX1_clearTrain_6 (by decide) ?_
  refine V.putJ (pc := 7) dX1_clearTrain_7 fX1_28_1 (fun r h => by cases h; exact Or.inl rfl) rfl hN.o ?_
  refine V.aload_n (pc := 10) dX1_clearTrain_10 rfl ?_
  refine V.lconst (v := 1) (pc := 11) dX1_clearTrain_11 (by decide) ?_
  refine V.putJ (pc := 12) dX1_clearTrain_12 fX1_32_1 (fun r h => by cases h; exact Or.inl rfl) rfl hN.o ?_
  exact V.vret (pc := 15) dX1_clearTrain_15 rfl ⟨rfl, rfl, rfl, rfl, rfl, rfl⟩
theorem red_mul {u l g a b : Nat} (hg : 0 < g) (h1 : g ∣ u) (h2 : g ∣ l) : (u * a) / Nat.gcd (u * a) (l * b) = (u / g * a) / Nat.gcd (u / g * a) (l / g * b) ∧ (l * b) / Nat.gcd (u * a) (l * b) = (l / g * b) / Nat.gcd (u / g * a) (l / g * b) := by
  obtain ⟨p, rfl⟩ := h1
  obtain ⟨q, rfl⟩ := h2
  rw [Nat.mul_div_cancel_left p hg, Nat.mul_div_cancel_left q hg, Nat.mul_assoc, Nat.mul_assoc, Nat.gcd_mul_left, Nat.mul_div_mul_left _ _ hg, Nat.mul_div_mul_left _ _ hg]
  exact ⟨rfl, rfl⟩
theorem red_app {tr : List (Nat × Nat)} {a b : Nat} (h0 : 0 < loN tr) : let g := Nat.gcd (upN tr) (loN tr)
    (upN (tr ++ [(a, b)])) / Nat.gcd (upN (tr ++ [(a, b)])) (loN (tr ++ [(a, b)])) = (upN tr / g * a) / Nat.gcd (upN tr / g * a) (loN tr / g * b) ∧ (loN (tr ++ [(a, b)])) / Nat.gcd (upN (tr ++ [(a, b)])) (loN (tr ++ [(a, b)])) = (loN tr / g * b) / Nat.gcd (upN tr / g * a) (loN tr / g * b) := by
  have e1 : upN (tr ++ [(a, b)]) = upN tr * a := by unfold upN; rw [List.foldl_append]; rfl
  have e2 : loN (tr ++ [(a, b)]) = loN tr * b := by unfold loN; rw [List.foldl_append]; rfl
  rw [e1, e2]
  exact red_mul (Nat.gcd_pos_of_pos_right _ h0) (Nat.gcd_dvd_left _ _) (Nat.gcd_dvd_right _ _)
theorem HdX.app {I I' : mI} {J J' : mJ} {w : Nat} {y : Hd} {a b : Nat} (hY : HdOK y) (h : HdX I J w y) (e0 : ∀ k, k ≠ 3 → I' w k = I w k) (e3 : I' w 3 = nI (y.2.2.2.length + 1)) (g1 : I' (w + 1) (2 * y.2.2.2.length) = nI a) (g2 : I' (w + 1) (2 * y.2.2.2.length + 1) = nI b) (g3 : ∀ j, j < 2 * y.2.2.2.length → I' (w + 1) j = I (w + 1) j)
    (j5 : J' w 5 = lN ((upN y.2.2.2 / Nat.gcd (upN y.2.2.2) (loN y.2.2.2) * a) / Nat.gcd (upN y.2.2.2 / Nat.gcd (upN y.2.2.2) (loN y.2.2.2) * a) (loN y.2.2.2 / Nat.gcd (upN y.2.2.2) (loN y.2.2.2) * b))) (j6 : J' w 6 = lN ((loN y.2.2.2 / Nat.gcd (upN y.2.2.2) (loN y.2.2.2) * b) / Nat.gcd (upN y.2.2.2 / Nat.gcd (upN y.2.2.2) (loN y.2.2.2) * a) (loN y.2.2.2 / Nat.gcd (upN y.2.2.2) (loN y.2.2.2) * b))) : HdX I' J' w (y.1, y.2.1, y.2.2.1, y.2.2.2 ++ [(a, b)]) := by
  obtain ⟨h1, h2, h3, h4, h5, h6, h7⟩ := h
  have hb := rate_bd hY y.2.2.2.length
  rw [List.take_length] at hb
  have hr := red_app (tr := y.2.2.2) (a := a) (b := b) (by omega)
  refine ⟨by rw [e0 _ (by omega)]; exact h1, by rw [e0 _ (by omega)]; exact h2, by rw [e0 _ (by omega)]; exact h3, by rw [e3]; show _ = nI (y.2.2.2 ++ [(a, b)]).length; rw [List.length_append]; rfl, fun p q hp => ?_, by rw [j5]; exact congrArg lN hr.1.symm, by rw [j6]; exact congrArg lN hr.2.symm⟩
  have hp2 : (y.2.2.2 ++ [(a, b)])[p]? = some q := hp
  by_cases e : p = y.2.2.2.length
  · subst e
    rw [List.getElem?_append_right (Nat.le_refl _)] at hp2
    simp at hp2
    subst hp2
    exact ⟨g1, g2⟩
  · have hl2 : p < (y.2.2.2 ++ [(a, b)]).length := (List.getElem?_eq_some_iff.mp hp2).1
    rw [List.length_append, List.length_singleton] at hl2
    rw [List.getElem?_append_left (by omega)] at hp2
    rw [g3 _ (by omega), g3 _ (by omega)]
    exact h5 p q hp2
theorem one_red : (1 : Int64) = lN (1 / Nat.gcd 1 1) := by rw [Nat.gcd_self]; rfl
theorem HdX.clear {I : mI} {J : mJ} {w : Nat} {y : Hd} (h : HdX I J w y) : HdX (up2 I w 3 0) (up2 (up2 J w 5 1) w 6 1) w (y.1, y.2.1, y.2.2.1, []) := by
  obtain ⟨h1, h2, h3, h4, h5, h6, h7⟩ := h
  refine ⟨by rw [up2_ne (by omega)]; exact h1, by rw [up2_ne (by omega)]; exact h2, by rw [up2_ne (by omega)]; exact h3, up2_same, fun p q hp => ?_, by rw [up2_ne (by omega), up2_same]; exact one_red, by rw [up2_same]; exact one_red⟩
  have h0 : ([] : List (Nat × Nat))[p]? = some q := hp
  simp at h0
theorem y_strip {g : gG} {d : Nat} {T : mT} {n : Nat} {I : mI} {J : mJ} {F : mF} {x : Nat} {A : Ab} (v : Int32) (hX : XS T F x) (hA : AbOK A) (hR : RepX T I J F x A)  : Ct g mX11_strip (d + 4) [.ref x, .int v] 0 0 T n I J F (QX x T n I J F (some (.int (iI (s_strip A v.toInt).1))) (s_strip A v.toInt).2) := by
  refine Ct.ofV (k := 2) (by decide) (Nat.le_of_ble_eq_true rfl) ?_
  show V g mX11_strip (d + 4) _ 0 0 0 [some (.ref x), some (.int v), none, none] [] T n I J F
  have hTo := hX.s.o
  refine V.aload_n (pc := 0) dX11_strip_0 rfl ?_
  refine V.getR (pc := 1) dX11_strip_1 fX11_10_10 rfl hX.o hX.f0 ?_
  refine V.iload_n (pc := 4) dX11_strip_4 rfl ?_
  by_cases q : 0 ≤ v.toInt ∧ v.toInt < (hds (cor A)).length
  · obtain ⟨y, hy, ey⟩ := hdAt_yes q
    have h6 := hA.1.1
    have hY := hA.1.2.1 y (List.mem_of_getElem? hy)
    have hW := hR.2.2.1.2.1 _ y hy
    have hN := hX.s.n (h := v.toInt.toNat) (by omega)
    have hTa := hN.o
    have hTb := hN.t4
    have hFb := hN.f4
    refine V.pV (as := [_]) (pc := 5) dX11_strip_5 lX11_95 bX8_handAt nX8_handAt (ci := 7) rfl eX8_handAt (by assumption) (x_handAtY (d := d + 3) (k := (hds (cor A)).length) _ hX.s hR.h2 hA.1.1 q) (by omega) rfl (Nat.le_of_ble_eq_true rfl) ?_
    refine V.asn (pc := 8) dX11_strip_8 (by decide) (st1_2 rfl) ?_
    refine V.aload_n (pc := 9) dX11_strip_9 rfl ?_
    refine V.ifnonnull 20 (pc := 10) dX11_strip_10 (by decide) ?_
    refine V.aload_n (pc := 20) dX11_strip_20 rfl ?_
    refine V.getI (pc := 21) dX11_strip_21 fX11_118_1 rfl (by assumption) ?_
    rw [hW.2.2.2.1]
    refine V.isn (pc := 24) dX11_strip_24 (by decide) (st1_3 rfl) ?_
    refine V.aload_n (pc := 25) dX11_strip_25 rfl ?_
    refine V.invV0 (as := []) (pc := 26) dX11_strip_26 lX11_121 bX1_clearTrain nX1_clearTrain (ci := 1) rfl eX1_clearTrain (by assumption) (x_clear (d := d + 3) hN) (by omega) rfl (Nat.le_of_ble_eq_true rfl) ?_
    rintro _ _ _ _ _ _ ⟨rfl, rfl, rfl, rfl, rfl, rfl⟩
    refine V.aload_n (pc := 29) dX11_strip_29 rfl ?_
    refine V.iload_n (pc := 30) dX11_strip_30 rfl ?_
    refine V.invV0 (as := [_]) (pc := 31) dX11_strip_31 lX11_92 bX11_accept nX11_accept (ci := 10) rfl eX11_accept hX.o (x_accept (d := d + 3) _ hX) (by omega) rfl (Nat.le_of_ble_eq_true rfl) ?_
    rintro _ _ _ _ _ _ ⟨rfl, rfl, rfl, rfl, rfl, rfl⟩
    exact V.iret (pc := 34) dX11_strip_34 rfl (QX.yes (c := setHd (cor A) v.toInt (y.1, y.2.1, y.2.2.1, [])) hX hA (ok_cor hA (ok_hand hA.1 hy rfl ⟨hY.1, hY.2.1, hY.2.2.1, hY.2.2.2.1, Nat.zero_le _, fun q hq => by simp at hq⟩)) (hR.core hA (fun b hb => up2_off (by omega)) (StX.hand (by omega) hA.1 hR.2.2.1 (by omega) (fun b h1 h2 => up2_off h1) (fun b h1 => by rw [up2_off h1, up2_off h1]) hW.clear) (fun b hb => by rw [up2_off (by omega), up2_off (by omega)])) (FrX.rf.up (by omega)) ((FrX.rf.up (by omega)).up (by omega)) (by simp only [s_strip, ey, okYes]; rw [iI_nat]) (by simp only [s_strip, ey]; rfl))
  · have ey := hdAt_no q
    refine V.pV (as := [_]) (pc := 5) dX11_strip_5 lX11_95 bX8_handAt nX8_handAt (ci := 7) rfl eX8_handAt (by assumption) (x_handAtN (d := d + 3) (k := (hds (cor A)).length) _ hX.s hR.h2 hA.1.1 q) (by omega) rfl (Nat.le_of_ble_eq_true rfl) ?_
    refine V.nsn (pc := 8) dX11_strip_8 (by decide) (st1_2 rfl) ?_
    refine V.nload_n (pc := 9) dX11_strip_9 rfl ?_
    refine V.ifnonnullN (pc := 10) dX11_strip_10 ?_
    refine V.aload_n (pc := 13) dX11_strip_13 rfl ?_
    refine V.bipush (v := (-2)) (pc := 14) dX11_strip_14 (by decide) ?_
    refine V.invV0 (as := [_]) (pc := 16) dX11_strip_16 lX11_85 bX11_refuse nX11_refuse (ci := 10) rfl eX11_refuse hX.o (x_refuse2 (d := d + 3) hX) (by omega) rfl (Nat.le_of_ble_eq_true rfl) ?_
    rintro _ _ _ _ _ _ ⟨rfl, rfl, rfl, rfl, rfl, rfl⟩
    exact V.iret (pc := 19) dX11_strip_19 rfl (QX.no 1 (-2) (by decide) hX hA hR FrX.rf FrX.rf (by omega) (by simp only [s_strip, ey]; rfl))
theorem y_put {g : gG} {d : Nat} {T : mT} {n : Nat} {I : mI} {J : mJ} {F : mF} {x : Nat} {A : Ab} (v w z : Int32) (hX : XS T F x) (hA : AbOK A) (hR : RepX T I J F x A)  : Ct g mX11_put (d + 4) [.ref x, .int v, .int w, .int z] 0 0 T n I J F (QX x T n I J F (some (.int (iI (s_put A v.toInt w.toInt z.toInt).1))) (s_put A v.toInt w.toInt z.toInt).2) := by
  refine Ct.ofV (k := 2) (by decide) (Nat.le_of_ble_eq_true rfl) ?_
  show V g mX11_put (d + 4) _ 0 0 0 [some (.ref x), some (.int v), some (.int w), some (.int z), none, none] [] T n I J F
  have hTo := hX.s.o
  refine V.iload_n (pc := 0) dX11_put_0 rfl ?_
  refine V.if_lt 25 (pc := 1) dX11_put_1 (by decide) (fun h1 => ?_) (fun h1 => ?_)
  · have qv : ¬ (0 ≤ z.toInt ∧ (w.toInt = 0 ∨ (w.toInt = 1 ∧ z.toInt ≤ 9999))) := by
      have e0 : (0 : Int32).toInt = 0 := rfl
      have e1 : (1 : Int32).toInt = 1 := rfl
      have em : (-1 : Int32).toInt = -1 := rfl
      have eM : (1000000 : Int32).toInt = 1000000 := rfl
      have e9 : (9 : Int32).toInt = 9 := rfl
      have e99 : (9999 : Int32).toInt = 9999 := rfl
      rw [lt32] at h1
      omega
    refine V.aload_n (pc := 25) dX11_put_25 rfl ?_
    refine V.iconst (v := (-1)) (pc := 26) dX11_put_26 (by decide) ?_
    refine V.invV0 (as := [_]) (pc := 27) dX11_put_27 lX11_85 bX11_refuse nX11_refuse (ci := 10) rfl eX11_refuse hX.o (x_refuse1 (d := d + 3) hX) (by omega) rfl (Nat.le_of_ble_eq_true rfl) ?_
    rintro _ _ _ _ _ _ ⟨rfl, rfl, rfl, rfl, rfl, rfl⟩
    exact V.iret (pc := 30) dX11_put_30 rfl (QX.no 0 (-1) (by decide) hX hA hR FrX.rf FrX.rf (by omega) (by rw [put_no qv]; rfl))
  · refine V.iload_n (pc := 4) dX11_put_4 rfl ?_
    refine V.iconst (v := 1) (pc := 5) dX11_put_5 (by decide) ?_
    refine V.icmp_gt 25 (pc := 6) dX11_put_6 (by decide) (fun h6 => ?_) (fun h6 => ?_)
    · have qv : ¬ (0 ≤ z.toInt ∧ (w.toInt = 0 ∨ (w.toInt = 1 ∧ z.toInt ≤ 9999))) := by
        have e0 : (0 : Int32).toInt = 0 := rfl
        have e1 : (1 : Int32).toInt = 1 := rfl
        have em : (-1 : Int32).toInt = -1 := rfl
        have eM : (1000000 : Int32).toInt = 1000000 := rfl
        have e9 : (9 : Int32).toInt = 9 := rfl
        have e99 : (9999 : Int32).toInt = 9999 := rfl
        rw [lt32] at h6
        omega
      refine V.aload_n (pc := 25) dX11_put_25 rfl ?_
      refine V.iconst (v := (-1)) (pc := 26) dX11_put_26 (by decide) ?_
      refine V.invV0 (as := [_]) (pc := 27) dX11_put_27 lX11_85 bX11_refuse nX11_refuse (ci := 10) rfl eX11_refuse hX.o (x_refuse1 (d := d + 3) hX) (by omega) rfl (Nat.le_of_ble_eq_true rfl) ?_
      rintro _ _ _ _ _ _ ⟨rfl, rfl, rfl, rfl, rfl, rfl⟩
      exact V.iret (pc := 30) dX11_put_30 rfl (QX.no 0 (-1) (by decide) hX hA hR FrX.rf FrX.rf (by omega) (by rw [put_no qv]; rfl))
    · refine V.iload_n (pc := 9) dX11_put_9 rfl ?_
      refine V.if_lt 25 (pc := 10) dX11_put_10 (by decide) (fun h10 => ?_) (fun h10 => ?_)
      · have qv : ¬ (0 ≤ z.toInt ∧ (w.toInt = 0 ∨ (w.toInt = 1 ∧ z.toInt ≤ 9999))) := by
          have e0 : (0 : Int32).toInt = 0 := rfl
          have e1 : (1 : Int32).toInt = 1 := rfl
          have em : (-1 : Int32).toInt = -1 := rfl
          have eM : (1000000 : Int32).toInt = 1000000 := rfl
          have e9 : (9 : Int32).toInt = 9 := rfl
          have e99 : (9999 : Int32).toInt = 9999 := rfl
          rw [lt32] at h10
          omega
        refine V.aload_n (pc := 25) dX11_put_25 rfl ?_
        refine V.iconst (v := (-1)) (pc := 26) dX11_put_26 (by decide) ?_
        refine V.invV0 (as := [_]) (pc := 27) dX11_put_27 lX11_85 bX11_refuse nX11_refuse (ci := 10) rfl eX11_refuse hX.o (x_refuse1 (d := d + 3) hX) (by omega) rfl (Nat.le_of_ble_eq_true rfl) ?_
        rintro _ _ _ _ _ _ ⟨rfl, rfl, rfl, rfl, rfl, rfl⟩
        exact V.iret (pc := 30) dX11_put_30 rfl (QX.no 0 (-1) (by decide) hX hA hR FrX.rf FrX.rf (by omega) (by rw [put_no qv]; rfl))
      · refine V.iload_n (pc := 13) dX11_put_13 rfl ?_
        refine V.iconst (v := 1) (pc := 14) dX11_put_14 (by decide) ?_
        refine V.icmp_ne 31 (pc := 15) dX11_put_15 (by decide) (fun h15 => ?_) (fun h15 => ?_)
        · have qv : 0 ≤ z.toInt ∧ (w.toInt = 0 ∨ (w.toInt = 1 ∧ z.toInt ≤ 9999)) := by
            have e0 : (0 : Int32).toInt = 0 := rfl
            have e1 : (1 : Int32).toInt = 1 := rfl
            have em : (-1 : Int32).toInt = -1 := rfl
            have eM : (1000000 : Int32).toInt = 1000000 := rfl
            have e9 : (9 : Int32).toInt = 9 := rfl
            have e99 : (9999 : Int32).toInt = 9999 := rfl
            rw [lt32] at h1
            rw [lt32] at h6
            rw [lt32] at h10
            rw [eq32] at h15
            omega
          refine V.aload_n (pc := 31) dX11_put_31 rfl ?_
          refine V.getR (pc := 32) dX11_put_32 fX11_10_10 rfl hX.o hX.f0 ?_
          refine V.iload_n (pc := 35) dX11_put_35 rfl ?_
          by_cases q : 0 ≤ v.toInt ∧ v.toInt < (hds (cor A)).length
          · obtain ⟨y, hy, ey⟩ := hdAt_yes q
            have h6 := hA.1.1
            have hY := hA.1.2.1 y (List.mem_of_getElem? hy)
            have hW := hR.2.2.1.2.1 _ y hy
            have hN := hX.s.n (h := v.toInt.toNat) (by omega)
            have hTa := hN.o
            have hTb := hN.t4
            have hFb := hN.f4
            refine V.pV (as := [_]) (pc := 36) dX11_put_36 lX11_95 bX8_handAt nX8_handAt (ci := 7) rfl eX8_handAt (by assumption) (x_handAtY (d := d + 3) (k := (hds (cor A)).length) _ hX.s hR.h2 hA.1.1 q) (by omega) rfl (Nat.le_of_ble_eq_true rfl) ?_
            refine V.as (pc := 39) dX11_put_39 (by decide) (st1_4 rfl) ?_
            refine V.aload (pc := 41) dX11_put_41 rfl ?_
            refine V.ifnonnull 53 (pc := 43) dX11_put_43 (by decide) ?_
            refine V.iload_n (pc := 53) dX11_put_53 rfl ?_
            refine V.iconst (v := 1) (pc := 54) dX11_put_54 (by decide) ?_
            refine V.icmp_ne 78 (pc := 55) dX11_put_55 (by decide) (fun h55 => ?_) (fun h55 => absurd h55 h15)
            refine V.iload_n (pc := 78) dX11_put_78 rfl ?_
            refine V.aload (pc := 79) dX11_put_79 rfl ?_
            refine V.getI (pc := 81) dX11_put_81 fX11_104_1 rfl (by assumption) ?_
            rw [hW.1]
            refine V.icmp_lt 93 (pc := 84) dX11_put_84 (by decide) (fun h84 => ?_) (fun h84 => ?_)
            · have w0 : w.toInt = 0 := by
                have e1 : (1 : Int32).toInt = 1 := rfl
                rw [eq32] at h15
                omega
              have v1 : z.toInt < y.1 := by
                rw [lt32, nI_toInt (by have := hY.2.1; omega)] at h84
                exact h84
              refine V.aload (pc := 93) dX11_put_93 rfl ?_
              refine V.getI (pc := 95) dX11_put_95 fX11_107_1 rfl (by assumption) ?_
              rw [hW.2.1]
              refine V.is (pc := 98) dX11_put_98 (by decide) (st1_5 rfl) ?_
              refine V.aload (pc := 100) dX11_put_100 rfl ?_
              refine V.iload_n (pc := 102) dX11_put_102 rfl ?_
              refine V.putI (pc := 103) dX11_put_103 fX11_107_1 (fun r h => by cases h; exact Or.inl rfl) rfl (by assumption) ?_
              refine V.aload_n (pc := 106) dX11_put_106 rfl ?_
              refine V.iload (pc := 107) dX11_put_107 rfl ?_
              refine V.invV0 (as := [_]) (pc := 109) dX11_put_109 lX11_92 bX11_accept nX11_accept (ci := 10) rfl eX11_accept hX.o (x_accept (d := d + 3) _ hX) (by omega) rfl (Nat.le_of_ble_eq_true rfl) ?_
              rintro _ _ _ _ _ _ ⟨rfl, rfl, rfl, rfl, rfl, rfl⟩
              exact V.iret (pc := 112) dX11_put_112 rfl (QX.yes (c := setHd (cor A) v.toInt (y.1, z.toInt.toNat, y.2.2)) hX hA (ok_cor hA (ok_hand hA.1 hy rfl ⟨hY.1, hY.2.1, by show z.toInt.toNat < y.1; omega, hY.2.2.2⟩)) (hR.core hA (fun b hb => up2_off (by omega)) (StX.hand (by omega) hA.1 hR.2.2.1 (by omega) (fun b h1 h2 => up2_off h1) (fun _ _ => rfl) (⟨by rw [up2_ne (by omega)]; exact hW.1, by rw [up2_same]; exact nIx (by omega) rfl, by rw [up2_ne (by omega)]; exact hW.2.2.1, by rw [up2_ne (by omega)]; exact hW.2.2.2.1, fun p qq hp => by rw [up2_off (by omega)]; exact hW.2.2.2.2.1 p qq hp, hW.2.2.2.2.2⟩)) (fun _ _ => rfl)) (FrX.rf.up (by omega)) FrX.rf (by rw [s_put, if_pos qv]; simp only [ey]; rw [if_pos w0, if_pos v1]; simp only [okYes]; rw [iI_nat]) (by rw [s_put, if_pos qv]; simp only [ey]; rw [if_pos w0, if_pos v1]; rfl))
            · have w0 : w.toInt = 0 := by
                have e1 : (1 : Int32).toInt = 1 := rfl
                rw [eq32] at h15
                omega
              have v1 : ¬ z.toInt < y.1 := by
                rw [lt32, nI_toInt (by have := hY.2.1; omega)] at h84
                exact h84
              refine V.aload_n (pc := 87) dX11_put_87 rfl ?_
              refine V.iconst (v := (-1)) (pc := 88) dX11_put_88 (by decide) ?_
              refine V.invV0 (as := [_]) (pc := 89) dX11_put_89 lX11_85 bX11_refuse nX11_refuse (ci := 10) rfl eX11_refuse hX.o (x_refuse1 (d := d + 3) hX) (by omega) rfl (Nat.le_of_ble_eq_true rfl) ?_
              rintro _ _ _ _ _ _ ⟨rfl, rfl, rfl, rfl, rfl, rfl⟩
              exact V.iret (pc := 92) dX11_put_92 rfl (QX.no 0 (-1) (by decide) hX hA hR FrX.rf FrX.rf (by omega) (by rw [s_put, if_pos qv]; simp only [ey]; rw [if_pos w0, if_neg v1]; rfl))
          · have ey := hdAt_no q
            refine V.pV (as := [_]) (pc := 36) dX11_put_36 lX11_95 bX8_handAt nX8_handAt (ci := 7) rfl eX8_handAt (by assumption) (x_handAtN (d := d + 3) (k := (hds (cor A)).length) _ hX.s hR.h2 hA.1.1 q) (by omega) rfl (Nat.le_of_ble_eq_true rfl) ?_
            refine V.ns (pc := 39) dX11_put_39 (by decide) (st1_4 rfl) ?_
            refine V.nload (pc := 41) dX11_put_41 rfl ?_
            refine V.ifnonnullN (pc := 43) dX11_put_43 ?_
            refine V.aload_n (pc := 46) dX11_put_46 rfl ?_
            refine V.bipush (v := (-2)) (pc := 47) dX11_put_47 (by decide) ?_
            refine V.invV0 (as := [_]) (pc := 49) dX11_put_49 lX11_85 bX11_refuse nX11_refuse (ci := 10) rfl eX11_refuse hX.o (x_refuse2 (d := d + 3) hX) (by omega) rfl (Nat.le_of_ble_eq_true rfl) ?_
            rintro _ _ _ _ _ _ ⟨rfl, rfl, rfl, rfl, rfl, rfl⟩
            exact V.iret (pc := 52) dX11_put_52 rfl (QX.no 1 (-2) (by decide) hX hA hR FrX.rf FrX.rf (by omega) (by rw [s_put, if_pos qv]; simp only [ey]; rfl))
        · refine V.iload_n (pc := 18) dX11_put_18 rfl ?_
          refine V.sipush (v := 9999) (pc := 19) dX11_put_19 (by decide) ?_
          refine V.icmp_le 31 (pc := 22) dX11_put_22 (by decide) (fun h22 => ?_) (fun h22 => ?_)
          · have qv : 0 ≤ z.toInt ∧ (w.toInt = 0 ∨ (w.toInt = 1 ∧ z.toInt ≤ 9999)) := by
              have e0 : (0 : Int32).toInt = 0 := rfl
              have e1 : (1 : Int32).toInt = 1 := rfl
              have em : (-1 : Int32).toInt = -1 := rfl
              have eM : (1000000 : Int32).toInt = 1000000 := rfl
              have e9 : (9 : Int32).toInt = 9 := rfl
              have e99 : (9999 : Int32).toInt = 9999 := rfl
              rw [lt32] at h10
              rw [eq32] at h15
              rw [le32] at h22
              omega
            refine V.aload_n (pc := 31) dX11_put_31 rfl ?_
            refine V.getR (pc := 32) dX11_put_32 fX11_10_10 rfl hX.o hX.f0 ?_
            refine V.iload_n (pc := 35) dX11_put_35 rfl ?_
            by_cases q : 0 ≤ v.toInt ∧ v.toInt < (hds (cor A)).length
            · obtain ⟨y, hy, ey⟩ := hdAt_yes q
              have h6 := hA.1.1
              have hY := hA.1.2.1 y (List.mem_of_getElem? hy)
              have hW := hR.2.2.1.2.1 _ y hy
              have hN := hX.s.n (h := v.toInt.toNat) (by omega)
              have hTa := hN.o
              have hTb := hN.t4
              have hFb := hN.f4
              refine V.pV (as := [_]) (pc := 36) dX11_put_36 lX11_95 bX8_handAt nX8_handAt (ci := 7) rfl eX8_handAt (by assumption) (x_handAtY (d := d + 3) (k := (hds (cor A)).length) _ hX.s hR.h2 hA.1.1 q) (by omega) rfl (Nat.le_of_ble_eq_true rfl) ?_
              refine V.as (pc := 39) dX11_put_39 (by decide) (st1_4 rfl) ?_
              refine V.aload (pc := 41) dX11_put_41 rfl ?_
              refine V.ifnonnull 53 (pc := 43) dX11_put_43 (by decide) ?_
              refine V.iload_n (pc := 53) dX11_put_53 rfl ?_
              refine V.iconst (v := 1) (pc := 54) dX11_put_54 (by decide) ?_
              refine V.icmp_ne 78 (pc := 55) dX11_put_55 (by decide) (fun h55 => absurd h15 h55) (fun h55 => ?_)
              refine V.aload (pc := 58) dX11_put_58 rfl ?_
              refine V.getI (pc := 60) dX11_put_60 fX11_99_1 rfl (by assumption) ?_
              rw [hW.2.2.1]
              refine V.is (pc := 63) dX11_put_63 (by decide) (st1_5 rfl) ?_
              refine V.aload (pc := 65) dX11_put_65 rfl ?_
              refine V.iload_n (pc := 67) dX11_put_67 rfl ?_
              refine V.putI (pc := 68) dX11_put_68 fX11_99_1 (fun r h => by cases h; exact Or.inl rfl) rfl (by assumption) ?_
              refine V.aload_n (pc := 71) dX11_put_71 rfl ?_
              refine V.iload (pc := 72) dX11_put_72 rfl ?_
              refine V.invV0 (as := [_]) (pc := 74) dX11_put_74 lX11_92 bX11_accept nX11_accept (ci := 10) rfl eX11_accept hX.o (x_accept (d := d + 3) _ hX) (by omega) rfl (Nat.le_of_ble_eq_true rfl) ?_
              rintro _ _ _ _ _ _ ⟨rfl, rfl, rfl, rfl, rfl, rfl⟩
              exact V.iret (pc := 77) dX11_put_77 rfl (QX.yes (c := setHd (cor A) v.toInt (y.1, y.2.1, z.toInt.toNat, y.2.2.2)) hX hA (ok_cor hA (ok_hand hA.1 hy rfl ⟨hY.1, hY.2.1, hY.2.2.1, by show z.toInt.toNat ≤ 9999; have e1 : (1 : Int32).toInt = 1 := rfl; rw [eq32] at h15; omega, hY.2.2.2.2⟩)) (hR.core hA (fun b hb => up2_off (by omega)) (StX.hand (by omega) hA.1 hR.2.2.1 (by omega) (fun b h1 h2 => up2_off h1) (fun _ _ => rfl) (⟨by rw [up2_ne (by omega)]; exact hW.1, by rw [up2_ne (by omega)]; exact hW.2.1, by rw [up2_same]; exact nIx (by omega) rfl, by rw [up2_ne (by omega)]; exact hW.2.2.2.1, fun p qq hp => by rw [up2_off (by omega)]; exact hW.2.2.2.2.1 p qq hp, hW.2.2.2.2.2⟩)) (fun _ _ => rfl)) (FrX.rf.up (by omega)) FrX.rf (by rw [s_put, if_pos qv]; simp only [ey]; rw [if_neg (by have e1 : (1 : Int32).toInt = 1 := rfl; rw [eq32] at h15; omega)]; simp only [okYes]; rw [iI_nat]) (by rw [s_put, if_pos qv]; simp only [ey]; rw [if_neg (by have e1 : (1 : Int32).toInt = 1 := rfl; rw [eq32] at h15; omega)]; rfl))
            · have ey := hdAt_no q
              refine V.pV (as := [_]) (pc := 36) dX11_put_36 lX11_95 bX8_handAt nX8_handAt (ci := 7) rfl eX8_handAt (by assumption) (x_handAtN (d := d + 3) (k := (hds (cor A)).length) _ hX.s hR.h2 hA.1.1 q) (by omega) rfl (Nat.le_of_ble_eq_true rfl) ?_
              refine V.ns (pc := 39) dX11_put_39 (by decide) (st1_4 rfl) ?_
              refine V.nload (pc := 41) dX11_put_41 rfl ?_
              refine V.ifnonnullN (pc := 43) dX11_put_43 ?_
              refine V.aload_n (pc := 46) dX11_put_46 rfl ?_
              refine V.bipush (v := (-2)) (pc := 47) dX11_put_47 (by decide) ?_
              refine V.invV0 (as := [_]) (pc := 49) dX11_put_49 lX11_85 bX11_refuse nX11_refuse (ci := 10) rfl eX11_refuse hX.o (x_refuse2 (d := d + 3) hX) (by omega) rfl (Nat.le_of_ble_eq_true rfl) ?_
              rintro _ _ _ _ _ _ ⟨rfl, rfl, rfl, rfl, rfl, rfl⟩
              exact V.iret (pc := 52) dX11_put_52 rfl (QX.no 1 (-2) (by decide) hX hA hR FrX.rf FrX.rf (by omega) (by rw [s_put, if_pos qv]; simp only [ey]; rfl))
          · have qv : ¬ (0 ≤ z.toInt ∧ (w.toInt = 0 ∨ (w.toInt = 1 ∧ z.toInt ≤ 9999))) := by
              have e0 : (0 : Int32).toInt = 0 := rfl
              have e1 : (1 : Int32).toInt = 1 := rfl
              have em : (-1 : Int32).toInt = -1 := rfl
              have eM : (1000000 : Int32).toInt = 1000000 := rfl
              have e9 : (9 : Int32).toInt = 9 := rfl
              have e99 : (9999 : Int32).toInt = 9999 := rfl
              rw [eq32] at h15
              rw [le32] at h22
              omega
            refine V.aload_n (pc := 25) dX11_put_25 rfl ?_
            refine V.iconst (v := (-1)) (pc := 26) dX11_put_26 (by decide) ?_
            refine V.invV0 (as := [_]) (pc := 27) dX11_put_27 lX11_85 bX11_refuse nX11_refuse (ci := 10) rfl eX11_refuse hX.o (x_refuse1 (d := d + 3) hX) (by omega) rfl (Nat.le_of_ble_eq_true rfl) ?_
            rintro _ _ _ _ _ _ ⟨rfl, rfl, rfl, rfl, rfl, rfl⟩
            exact V.iret (pc := 30) dX11_put_30 rfl (QX.no 0 (-1) (by decide) hX hA hR FrX.rf FrX.rf (by omega) (by rw [put_no qv]; rfl))
