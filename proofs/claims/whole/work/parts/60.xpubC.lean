theorem y_image {g : gG} {d : Nat} {T : mT} {n : Nat} {I : mI} {J : mJ} {F : mF} {x : Nat} {A : Ab} (v : Int32) (hX : XS T F x) (hA : AbOK A) (hR : RepX T I J F x A)  : Ct g mX11_image (d + 4) [.ref x, .int v] 0 0 T n I J F (QX x T n I J F (some (.int (iI (s_image A v.toInt).1))) (s_image A v.toInt).2) := by
  refine Ct.ofV (k := 1) (by decide) (Nat.le_of_ble_eq_true rfl) ?_
  show V g mX11_image (d + 4) _ 0 0 0 [some (.ref x), some (.int v), none] [] T n I J F
  have hTo := hX.s.o
  refine V.aload_n (pc := 0) dX11_image_0 rfl ?_
  refine V.iload_n (pc := 1) dX11_image_1 rfl ?_
  rcases (show v.toInt = 0 ∨ v.toInt = 1 ∨ (¬ v.toInt = 0 ∧ ¬ v.toInt = 1) by omega) with q0 | q1 | ⟨q2, q3⟩
  · have hTi := hX.s0.o
    refine V.pV (as := [_]) (pc := 2) dX11_image_2 lX11_304 bX11_imageAt nX11_imageAt (ci := 10) rfl eX11_imageAt hX.o (x_image0 (d := d + 3) _ hX q0) (by omega) rfl (Nat.le_of_ble_eq_true rfl) ?_
    refine V.asn (pc := 5) dX11_image_5 (by decide) (st1_2 rfl) ?_
    refine V.aload_n (pc := 6) dX11_image_6 rfl ?_
    refine V.ifnonnull 16 (pc := 7) dX11_image_7 (by decide) ?_
    refine V.aload_n (pc := 16) dX11_image_16 rfl ?_
    refine V.aload_n (pc := 17) dX11_image_17 rfl ?_
    refine V.getR (pc := 18) dX11_image_18 fX11_10_10 rfl hX.o hX.f0 ?_
    refine V.invV0 (as := [_]) (pc := 21) dX11_image_21 lX11_308 bX8_takeFrom nX8_takeFrom (ci := 7) rfl eX8_takeFrom (by assumption) (x_takeFrom (d := d + 1) (u := x + 50) (s := x + 1) hX.s0 hX.s (by omega) (fun i hi => by rcases hR.2.2.1.2.2.2.2.2.2 i hi with e | ⟨a, e1, -, e3⟩; exact Or.inl e; exact Or.inr ⟨a, e1, e3⟩)) (by omega) rfl (Nat.le_of_ble_eq_true rfl) ?_
    rintro _ _ _ I2 J2 F2 ⟨rfl, rfl, rfl, hC⟩
    have hX0 := hX
    clear hX
    have hX := hX0.congr hC.2.1 (by omega)
    have hTo2 := hX.s.o
    refine V.aload_n (pc := 24) dX11_image_24 rfl ?_
    refine V.iconst (v := 1) (pc := 25) dX11_image_25 (by decide) ?_
    refine V.putZ (pc := 26) dX11_image_26 fX11_312_7 (fun r h => by cases h; exact Or.inl rfl) rfl (by first | exact Or.inl rfl | exact Or.inr rfl | assumption) (by assumption) ?_
    refine V.aload_n (pc := 29) dX11_image_29 rfl ?_
    refine V.iconst (v := 0) (pc := 30) dX11_image_30 (by decide) ?_
    refine V.invV0 (as := [_]) (pc := 31) dX11_image_31 lX11_92 bX11_accept nX11_accept (ci := 10) rfl eX11_accept hX.o (x_accept (d := d + 3) _ hX) (by omega) rfl (Nat.le_of_ble_eq_true rfl) ?_
    rintro _ _ _ _ _ _ ⟨rfl, rfl, rfl, rfl, rfl, rfl⟩
    exact V.iret (pc := 34) dX11_image_34 rfl (by
    rw [s_image, if_pos (by omega), show v.toInt.toNat = 0 by omega]
    exact ⟨rfl, fun _ _ z => z, Nat.le_refl _, ((hC.fr (by omega)).1.up (by omega)).up (by omega), (hC.fr (by omega)).2.1, (hC.fr (by omega)).2.2, hX, (hR.img0 hA hC).accept (ok_img hA)⟩)
  · have hTi := hX.s1.o
    refine V.pV (as := [_]) (pc := 2) dX11_image_2 lX11_304 bX11_imageAt nX11_imageAt (ci := 10) rfl eX11_imageAt hX.o (x_image1 (d := d + 3) _ hX q1) (by omega) rfl (Nat.le_of_ble_eq_true rfl) ?_
    refine V.asn (pc := 5) dX11_image_5 (by decide) (st1_2 rfl) ?_
    refine V.aload_n (pc := 6) dX11_image_6 rfl ?_
    refine V.ifnonnull 16 (pc := 7) dX11_image_7 (by decide) ?_
    refine V.aload_n (pc := 16) dX11_image_16 rfl ?_
    refine V.aload_n (pc := 17) dX11_image_17 rfl ?_
    refine V.getR (pc := 18) dX11_image_18 fX11_10_10 rfl hX.o hX.f0 ?_
    refine V.invV0 (as := [_]) (pc := 21) dX11_image_21 lX11_308 bX8_takeFrom nX8_takeFrom (ci := 7) rfl eX8_takeFrom (by assumption) (x_takeFrom (d := d + 1) (u := x + 70) (s := x + 1) hX.s1 hX.s (by omega) (fun i hi => by rcases hR.2.2.1.2.2.2.2.2.2 i hi with e | ⟨a, e1, -, e3⟩; exact Or.inl e; exact Or.inr ⟨a, e1, e3⟩)) (by omega) rfl (Nat.le_of_ble_eq_true rfl) ?_
    rintro _ _ _ I2 J2 F2 ⟨rfl, rfl, rfl, hC⟩
    have hX0 := hX
    clear hX
    have hX := hX0.congr hC.2.1 (by omega)
    have hTo2 := hX.s.o
    refine V.aload_n (pc := 24) dX11_image_24 rfl ?_
    refine V.iconst (v := 1) (pc := 25) dX11_image_25 (by decide) ?_
    refine V.putZ (pc := 26) dX11_image_26 fX11_312_7 (fun r h => by cases h; exact Or.inl rfl) rfl (by first | exact Or.inl rfl | exact Or.inr rfl | assumption) (by assumption) ?_
    refine V.aload_n (pc := 29) dX11_image_29 rfl ?_
    refine V.iconst (v := 0) (pc := 30) dX11_image_30 (by decide) ?_
    refine V.invV0 (as := [_]) (pc := 31) dX11_image_31 lX11_92 bX11_accept nX11_accept (ci := 10) rfl eX11_accept hX.o (x_accept (d := d + 3) _ hX) (by omega) rfl (Nat.le_of_ble_eq_true rfl) ?_
    rintro _ _ _ _ _ _ ⟨rfl, rfl, rfl, rfl, rfl, rfl⟩
    exact V.iret (pc := 34) dX11_image_34 rfl (by
    rw [s_image, if_pos (by omega), show v.toInt.toNat = 1 by omega]
    exact ⟨rfl, fun _ _ z => z, Nat.le_refl _, ((hC.fr (by omega)).1.up (by omega)).up (by omega), (hC.fr (by omega)).2.1, (hC.fr (by omega)).2.2, hX, (hR.img1 hA hC).accept (ok_img hA)⟩)
  · have q : ¬ (0 ≤ v.toInt ∧ v.toInt ≤ 1) := by omega
    refine V.pV (as := [_]) (pc := 2) dX11_image_2 lX11_304 bX11_imageAt nX11_imageAt (ci := 10) rfl eX11_imageAt hX.o (x_imageN (d := d + 3) _ hX q) (by omega) rfl (Nat.le_of_ble_eq_true rfl) ?_
    refine V.nsn (pc := 5) dX11_image_5 (by decide) (st1_2 rfl) ?_
    refine V.nload_n (pc := 6) dX11_image_6 rfl ?_
    refine V.ifnonnullN (pc := 7) dX11_image_7 ?_
    refine V.aload_n (pc := 10) dX11_image_10 rfl ?_
    refine V.iconst (v := (-1)) (pc := 11) dX11_image_11 (by decide) ?_
    refine V.invV0 (as := [_]) (pc := 12) dX11_image_12 lX11_85 bX11_refuse nX11_refuse (ci := 10) rfl eX11_refuse hX.o (x_refuse1 (d := d + 3) hX) (by omega) rfl (Nat.le_of_ble_eq_true rfl) ?_
    rintro _ _ _ _ _ _ ⟨rfl, rfl, rfl, rfl, rfl, rfl⟩
    exact V.iret (pc := 15) dX11_image_15 rfl (QX.no 0 (-1) (by decide) hX hA hR FrX.rf FrX.rf (by omega) (by rw [s_image, if_neg q]; rfl))
theorem y_back {g : gG} {d : Nat} {T : mT} {n : Nat} {I : mI} {J : mJ} {F : mF} {x : Nat} {A : Ab} (v : Int32) (hX : XS T F x) (hA : AbOK A) (hR : RepX T I J F x A)  : Ct g mX11_back (d + 4) [.ref x, .int v] 0 0 T n I J F (QX x T n I J F (some (.int (iI (s_back A v.toInt).1))) (s_back A v.toInt).2) := by
  refine Ct.ofV (k := 1) (by decide) (Nat.le_of_ble_eq_true rfl) ?_
  show V g mX11_back (d + 4) _ 0 0 0 [some (.ref x), some (.int v), none] [] T n I J F
  have hTo := hX.s.o
  have hk0 := hR.2.2.2.1.1.1
  have hk1 := hR.2.2.2.1.2.1
  refine V.aload_n (pc := 0) dX11_back_0 rfl ?_
  refine V.iload_n (pc := 1) dX11_back_1 rfl ?_
  rcases (show v.toInt = 0 ∨ v.toInt = 1 ∨ (¬ v.toInt = 0 ∧ ¬ v.toInt = 1) by omega) with q0 | q1 | ⟨q2, q3⟩
  · have hTi := hX.s0.o
    refine V.pV (as := [_]) (pc := 2) dX11_back_2 lX11_304 bX11_imageAt nX11_imageAt (ci := 10) rfl eX11_imageAt hX.o (x_image0 (d := d + 3) _ hX q0) (by omega) rfl (Nat.le_of_ble_eq_true rfl) ?_
    refine V.asn (pc := 5) dX11_back_5 (by decide) (st1_2 rfl) ?_
    refine V.aload_n (pc := 6) dX11_back_6 rfl ?_
    refine V.ifnonnull 16 (pc := 7) dX11_back_7 (by decide) ?_
    refine V.aload_n (pc := 16) dX11_back_16 rfl ?_
    refine V.getI (pc := 17) dX11_back_17 fX11_312_7 rfl (by assumption) ?_
    refine V.if_ne 30 (pc := 20) dX11_back_20 (by decide) (fun h20 => ?_) (fun h20 => ?_)
    · have hs : (img A 0).isSome = true := by
        cases z : (img A 0).isSome with
        | true => rfl
        | false => rw [hk0, z] at h20; exact absurd rfl h20
      obtain ⟨c, hc⟩ := Option.isSome_iff_exists.mp hs
      refine V.aload_n (pc := 30) dX11_back_30 rfl ?_
      refine V.getR (pc := 31) dX11_back_31 fX11_10_10 rfl hX.o hX.f0 ?_
      refine V.aload_n (pc := 34) dX11_back_34 rfl ?_
      refine V.invV0 (as := [_]) (pc := 35) dX11_back_35 lX11_308 bX8_takeFrom nX8_takeFrom (ci := 7) rfl eX8_takeFrom (by assumption) (x_takeFrom (d := d + 1) (u := x + 1) (s := x + 50) hX.s hX.s0 (by omega) (fun i hi => by rcases hR.2.2.2.2.1.1 i hi with e | ⟨a, e1, -, e3⟩; exact Or.inl e; exact Or.inr ⟨a, e1, e3⟩)) (by omega) rfl (Nat.le_of_ble_eq_true rfl) ?_
      rintro _ _ _ I2 J2 F2 ⟨rfl, rfl, rfl, hC⟩
      have hX0 := hX
      clear hX
      have hX := hX0.congr hC.2.1 (by omega)
      have hTo2 := hX.s.o
      refine V.aload_n (pc := 38) dX11_back_38 rfl ?_
      refine V.iconst (v := 0) (pc := 39) dX11_back_39 (by decide) ?_
      refine V.invV0 (as := [_]) (pc := 40) dX11_back_40 lX11_92 bX11_accept nX11_accept (ci := 10) rfl eX11_accept hX.o (x_accept (d := d + 3) _ hX) (by omega) rfl (Nat.le_of_ble_eq_true rfl) ?_
      rintro _ _ _ _ _ _ ⟨rfl, rfl, rfl, rfl, rfl, rfl⟩
      exact V.iret (pc := 43) dX11_back_43 rfl (by
    rw [s_back, if_pos (by omega), show v.toInt.toNat = 0 by omega]
    simp only [hc]
    exact ⟨rfl, fun _ _ z => z, Nat.le_refl _, (hC.fr (by omega)).1.up (by omega), (hC.fr (by omega)).2.1, (hC.fr (by omega)).2.2, hX, (hR.bk0 hA hc hC).accept (ok_cor hA (hA.2.1 0 c hc))⟩)
    · have hc : img A 0 = none := by
        cases z : img A 0 with
        | none => rfl
        | some c => rw [hk0, z] at h20; simp at h20
      refine V.aload_n (pc := 23) dX11_back_23 rfl ?_
      refine V.bipush (v := (-2)) (pc := 24) dX11_back_24 (by decide) ?_
      refine V.invV0 (as := [_]) (pc := 26) dX11_back_26 lX11_85 bX11_refuse nX11_refuse (ci := 10) rfl eX11_refuse hX.o (x_refuse2 (d := d + 3) hX) (by omega) rfl (Nat.le_of_ble_eq_true rfl) ?_
      rintro _ _ _ _ _ _ ⟨rfl, rfl, rfl, rfl, rfl, rfl⟩
      exact V.iret (pc := 29) dX11_back_29 rfl (QX.no 1 (-2) (by decide) hX hA hR FrX.rf FrX.rf (by omega) (by rw [s_back, if_pos (by omega), show v.toInt.toNat = 0 by omega]; simp only [hc]; rfl))
  · have hTi := hX.s1.o
    refine V.pV (as := [_]) (pc := 2) dX11_back_2 lX11_304 bX11_imageAt nX11_imageAt (ci := 10) rfl eX11_imageAt hX.o (x_image1 (d := d + 3) _ hX q1) (by omega) rfl (Nat.le_of_ble_eq_true rfl) ?_
    refine V.asn (pc := 5) dX11_back_5 (by decide) (st1_2 rfl) ?_
    refine V.aload_n (pc := 6) dX11_back_6 rfl ?_
    refine V.ifnonnull 16 (pc := 7) dX11_back_7 (by decide) ?_
    refine V.aload_n (pc := 16) dX11_back_16 rfl ?_
    refine V.getI (pc := 17) dX11_back_17 fX11_312_7 rfl (by assumption) ?_
    refine V.if_ne 30 (pc := 20) dX11_back_20 (by decide) (fun h20 => ?_) (fun h20 => ?_)
    · have hs : (img A 1).isSome = true := by
        cases z : (img A 1).isSome with
        | true => rfl
        | false => rw [hk1, z] at h20; exact absurd rfl h20
      obtain ⟨c, hc⟩ := Option.isSome_iff_exists.mp hs
      refine V.aload_n (pc := 30) dX11_back_30 rfl ?_
      refine V.getR (pc := 31) dX11_back_31 fX11_10_10 rfl hX.o hX.f0 ?_
      refine V.aload_n (pc := 34) dX11_back_34 rfl ?_
      refine V.invV0 (as := [_]) (pc := 35) dX11_back_35 lX11_308 bX8_takeFrom nX8_takeFrom (ci := 7) rfl eX8_takeFrom (by assumption) (x_takeFrom (d := d + 1) (u := x + 1) (s := x + 70) hX.s hX.s1 (by omega) (fun i hi => by rcases hR.2.2.2.2.1.2 i hi with e | ⟨a, e1, -, e3⟩; exact Or.inl e; exact Or.inr ⟨a, e1, e3⟩)) (by omega) rfl (Nat.le_of_ble_eq_true rfl) ?_
      rintro _ _ _ I2 J2 F2 ⟨rfl, rfl, rfl, hC⟩
      have hX0 := hX
      clear hX
      have hX := hX0.congr hC.2.1 (by omega)
      have hTo2 := hX.s.o
      refine V.aload_n (pc := 38) dX11_back_38 rfl ?_
      refine V.iconst (v := 0) (pc := 39) dX11_back_39 (by decide) ?_
      refine V.invV0 (as := [_]) (pc := 40) dX11_back_40 lX11_92 bX11_accept nX11_accept (ci := 10) rfl eX11_accept hX.o (x_accept (d := d + 3) _ hX) (by omega) rfl (Nat.le_of_ble_eq_true rfl) ?_
      rintro _ _ _ _ _ _ ⟨rfl, rfl, rfl, rfl, rfl, rfl⟩
      exact V.iret (pc := 43) dX11_back_43 rfl (by
    rw [s_back, if_pos (by omega), show v.toInt.toNat = 1 by omega]
    simp only [hc]
    exact ⟨rfl, fun _ _ z => z, Nat.le_refl _, (hC.fr (by omega)).1.up (by omega), (hC.fr (by omega)).2.1, (hC.fr (by omega)).2.2, hX, (hR.bk1 hA hc hC).accept (ok_cor hA (hA.2.1 1 c hc))⟩)
    · have hc : img A 1 = none := by
        cases z : img A 1 with
        | none => rfl
        | some c => rw [hk1, z] at h20; simp at h20
      refine V.aload_n (pc := 23) dX11_back_23 rfl ?_
      refine V.bipush (v := (-2)) (pc := 24) dX11_back_24 (by decide) ?_
      refine V.invV0 (as := [_]) (pc := 26) dX11_back_26 lX11_85 bX11_refuse nX11_refuse (ci := 10) rfl eX11_refuse hX.o (x_refuse2 (d := d + 3) hX) (by omega) rfl (Nat.le_of_ble_eq_true rfl) ?_
      rintro _ _ _ _ _ _ ⟨rfl, rfl, rfl, rfl, rfl, rfl⟩
      exact V.iret (pc := 29) dX11_back_29 rfl (QX.no 1 (-2) (by decide) hX hA hR FrX.rf FrX.rf (by omega) (by rw [s_back, if_pos (by omega), show v.toInt.toNat = 1 by omega]; simp only [hc]; rfl))
  · have q : ¬ (0 ≤ v.toInt ∧ v.toInt ≤ 1) := by omega
    refine V.pV (as := [_]) (pc := 2) dX11_back_2 lX11_304 bX11_imageAt nX11_imageAt (ci := 10) rfl eX11_imageAt hX.o (x_imageN (d := d + 3) _ hX q) (by omega) rfl (Nat.le_of_ble_eq_true rfl) ?_
    refine V.nsn (pc := 5) dX11_back_5 (by decide) (st1_2 rfl) ?_
    refine V.nload_n (pc := 6) dX11_back_6 rfl ?_
    refine V.ifnonnullN (pc := 7) dX11_back_7 ?_
    refine V.aload_n (pc := 10) dX11_back_10 rfl ?_
    refine V.iconst (v := (-1)) (pc := 11) dX11_back_11 (by decide) ?_
    refine V.invV0 (as := [_]) (pc := 12) dX11_back_12 lX11_85 bX11_refuse nX11_refuse (ci := 10) rfl eX11_refuse hX.o (x_refuse1 (d := d + 3) hX) (by omega) rfl (Nat.le_of_ble_eq_true rfl) ?_
    rintro _ _ _ _ _ _ ⟨rfl, rfl, rfl, rfl, rfl, rfl⟩
    exact V.iret (pc := 15) dX11_back_15 rfl (QX.no 0 (-1) (by decide) hX hA hR FrX.rf FrX.rf (by omega) (by rw [s_back, if_neg q]; rfl))
