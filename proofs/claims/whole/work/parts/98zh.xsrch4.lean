-- the class's nearest
def NRx (p q oo : Nat) (I : mI) (J : mJ) (b : NSt) (I' : mI) (J' : mJ) : Prop := (∀ a, a ≠ oo → a ≠ oo + 1 → a ≠ oo + 2 → I' a = I a) ∧ (∀ a, a ≠ oo → J' a = J a) ∧ (J' oo 3 = lN p ∧ J' oo 4 = lN q) ∧ I' oo 2 = nI b.1 ∧ (b.1 ≠ 0 → J' oo 5 = lN b.2.1 ∧ J' oo 6 = lN b.2.2.1 ∧ ∀ i, i < 2 * b.1 → I' (oo + 2) i = nI (dg (2 * b.1) b.2.2.2 i)) ∧ NSOK b
theorem NRx.tried {p q oo k : Nat} {I I' : mI} {J J' : mJ} {b : NSt} {v : Int32} (h : NRx p q oo I J b I' J') : NRx p q oo I J b (up2 I' (oo + 1) k v) J' := by
  obtain ⟨h1, h2, h3, h4, h5, h6⟩ := h
  exact ⟨fun a a1 a2 a3 => by rw [up2_off a2]; exact h1 a a1 a2 a3, h2, h3, by rw [up2_off (by omega)]; exact h4, fun z => by rw [up2_off (by omega)]; exact h5 z, h6⟩
theorem NRx.yes {s : List Nat} {p q N c oo : Nat} {I I' I2 : mI} {J J' J2 : mJ} {b : NSt} (h : NRx p q oo I J b I' J') (hN : N = 2 ∨ N = 4) (hs : StkOK s) (hv : vld s.length N c = true) (hp : p ≤ 100000) (hq : q ≤ 100000) (hd : ∀ i, i < N → I' (oo + 1) i = nI (dg N c i)) (hb : b.1 = 0 ∨ absN (drvN s N c * q) (drnN s N c * p) * b.2.2.1 < b.2.1 * drnN s N c)
    (k1 : ∀ a, a ≠ oo → a ≠ oo + 2 → I2 a = I' a) (k2 : I2 oo 2 = nI (N / 2)) (k3 : ∀ i, i < 4 → I2 (oo + 2) i = I' (oo + 1) i) (j1 : ∀ a, a ≠ oo → J2 a = J' a) (j2 : J2 oo 3 = J' oo 3 ∧ J2 oo 4 = J' oo 4) (j3 : J2 oo 5 = lN (absN (drvN s N c * q) (drnN s N c * p))) (j4 : J2 oo 6 = lN (drnN s N c)) : NRx p q oo I J (nstep s p q N c b) I2 J2 := by
  have hok := nstep_ok (N := N) (c := c) hs hN hv hp hq h.2.2.2.2.2
  have e : nstep s p q N c b = (N / 2, absN (drvN s N c * q) (drnN s N c * p), drnN s N c, c) := by rw [nstep, if_pos hb]
  rw [e] at hok ⊢
  obtain ⟨h1, h2, h3, h4, h5, h6⟩ := h
  refine ⟨fun a a1 a2 a3 => by rw [k1 a a1 a3]; exact h1 a a1 a2 a3, fun a ha => by rw [j1 a ha]; exact h2 a ha, ⟨j2.1.trans h3.1, j2.2.trans h3.2⟩, k2, fun _ => ⟨j3, j4, fun i hi => ?_⟩, hok⟩
  have hi2 : i < 2 * (N / 2) := hi
  show _ = nI (dg (2 * (N / 2)) c i)
  rw [show 2 * (N / 2) = N by omega, k3 i (by omega)]
  exact hd i (by omega)
theorem x_keep3 {g : gG} {d : Nat} {T : mT} {n : Nat} {I : mI} {J : mJ} {F : mF} {oo : Nat} (v : Int32) (hSe : SrS 3 T F oo) : Ct g mX5_keepTried (d + 1) [.ref oo, .int v] 0 0 T n I J F (fun r' T' n' I' J' F' => r' = none ∧ T' = T ∧ n' = n ∧ I' = cpyI (up2 I oo 2 v) (oo + 1) (oo + 2) 0 0 4 ∧ J' = J ∧ F' = F) := by
  refine Ct.ofV (k := 0) (by decide) (Nat.le_of_ble_eq_true rfl) ?_
  show V g mX5_keepTried (d + 1) _ 0 0 0 [some (.ref oo), some (.int v)] [] T n I J F
  refine V.aload_n (pc := 0) dX5_keepTried_0 rfl ?_
  refine V.iload_n (pc := 1) dX5_keepTried_1 rfl ?_
  refine V.putI (pc := 2) dX5_keepTried_2 fX5_18_3 (fun r h => by cases h; exact Or.inl rfl) rfl hSe.o ?_
  refine V.aload_n (pc := 5) dX5_keepTried_5 rfl ?_
  refine V.getR (pc := 6) dX5_keepTried_6 fX5_9_3 rfl hSe.o hSe.f0 ?_
  refine V.iconst (v := 0) (pc := 9) dX5_keepTried_9 (by decide) ?_
  refine V.aload_n (pc := 10) dX5_keepTried_10 rfl ?_
  refine V.getR (pc := 11) dX5_keepTried_11 fX5_15_3 rfl hSe.o hSe.f1 ?_
  refine V.iconst (v := 0) (pc := 14) dX5_keepTried_14 (by decide) ?_
  refine V.iconst (v := 4) (pc := 15) dX5_keepTried_15 (by decide) ?_
  refine V.copy0 (K := 4) (pc := 16) dX5_keepTried_16 lX5_39 (by omega) (Nat.le_of_ble_eq_true rfl) hSe.t0 hSe.t1 rfl (by decide) (by decide) (by decide) ?_
  exact V.vret (pc := 19) dX5_keepTried_19 rfl ⟨rfl, rfl, rfl, rfl, rfl, rfl⟩
theorem x_keep7 {g : gG} {d : Nat} {T : mT} {n : Nat} {I : mI} {J : mJ} {F : mF} {oo : Nat} (v : Int32) (hSe : SrS 6 T F oo) : Ct g mX5_keepTried (d + 1) [.ref oo, .int v] 0 0 T n I J F (fun r' T' n' I' J' F' => r' = none ∧ T' = T ∧ n' = n ∧ I' = cpyI (up2 I oo 2 v) (oo + 1) (oo + 2) 0 0 4 ∧ J' = J ∧ F' = F) := by
  refine Ct.ofV (k := 0) (by decide) (Nat.le_of_ble_eq_true rfl) ?_
  show V g mX5_keepTried (d + 1) _ 0 0 0 [some (.ref oo), some (.int v)] [] T n I J F
  refine V.aload_n (pc := 0) dX5_keepTried_0 rfl ?_
  refine V.iload_n (pc := 1) dX5_keepTried_1 rfl ?_
  refine V.putI (pc := 2) dX5_keepTried_2 fX5_18_6 (fun r h => by cases h; exact Or.inl rfl) rfl hSe.o ?_
  refine V.aload_n (pc := 5) dX5_keepTried_5 rfl ?_
  refine V.getR (pc := 6) dX5_keepTried_6 fX5_9_6 rfl hSe.o hSe.f0 ?_
  refine V.iconst (v := 0) (pc := 9) dX5_keepTried_9 (by decide) ?_
  refine V.aload_n (pc := 10) dX5_keepTried_10 rfl ?_
  refine V.getR (pc := 11) dX5_keepTried_11 fX5_15_6 rfl hSe.o hSe.f1 ?_
  refine V.iconst (v := 0) (pc := 14) dX5_keepTried_14 (by decide) ?_
  refine V.iconst (v := 4) (pc := 15) dX5_keepTried_15 (by decide) ?_
  refine V.copy0 (K := 4) (pc := 16) dX5_keepTried_16 lX5_39 (by omega) (Nat.le_of_ble_eq_true rfl) hSe.t0 hSe.t1 rfl (by decide) (by decide) (by decide) ?_
  exact V.vret (pc := 19) dX5_keepTried_19 rfl ⟨rfl, rfl, rfl, rfl, rfl, rfl⟩
theorem x_best3 {g : gG} {d : Nat} {T : mT} {n : Nat} {I : mI} {J : mJ} {F : mF} {oo k : Nat} (v : Int32) (hSe : SrS 3 T F oo) (hk : I oo 2 = nI k) (hk2 : k ≤ 2) : Ct g mX5_bestWheel (d + 0) [.ref oo, .int v] 0 0 T n I J F (pureQ T n I J F (some (.int (if 0 ≤ v.toInt ∧ v.toInt < 2 * (k : Int) then I (oo + 2) v.toInt.toNat else -1)))) := by
  refine Ct.ofV (k := 0) (by decide) (Nat.le_of_ble_eq_true rfl) ?_
  show V g mX5_bestWheel (d + 0) _ 0 0 0 [some (.ref oo), some (.int v)] [] T n I J F
  refine V.iload_n (pc := 0) dX5_bestWheel_0 rfl ?_
  refine V.if_lt 32 (pc := 1) dX5_bestWheel_1 (by decide) (fun h1 => ?_) (fun h1 => ?_)
  · have v1 : v.toInt < 0 := (lt32 _ _).mp h1
    refine V.iconst (v := (-1)) (pc := 32) dX5_bestWheel_32 (by decide) ?_
    exact V.iret (pc := 33) dX5_bestWheel_33 rfl ⟨by rw [if_neg (by omega)], rfl, rfl, rfl, rfl, rfl⟩
  · have v1 : 0 ≤ v.toInt := by
      rw [lt32] at h1
      have e0 : (0 : Int32).toInt = 0 := rfl
      omega
    refine V.iload_n (pc := 4) dX5_bestWheel_4 rfl ?_
    refine V.iconst (v := 2) (pc := 5) dX5_bestWheel_5 (by decide) ?_
    refine V.aload_n (pc := 6) dX5_bestWheel_6 rfl ?_
    refine V.getI (pc := 7) dX5_bestWheel_7 fX5_18_3 rfl hSe.o ?_
    rw [hk]
    refine V.imul (pc := 10) dX5_bestWheel_10 ?_
    rw [L2, pk_mul]
    refine V.icmp_ge 32 (pc := 11) dX5_bestWheel_11 (by decide) (fun h11 => ?_) (fun h11 => ?_)
    · rw [le32, nI_toInt (by omega)] at h11
      refine V.iconst (v := (-1)) (pc := 32) dX5_bestWheel_32 (by decide) ?_
      exact V.iret (pc := 33) dX5_bestWheel_33 rfl ⟨by rw [if_neg (by omega)], rfl, rfl, rfl, rfl, rfl⟩
    · rw [le32, nI_toInt (by omega)] at h11
      refine V.iload_n (pc := 14) dX5_bestWheel_14 rfl ?_
      refine V.aload_n (pc := 15) dX5_bestWheel_15 rfl ?_
      refine V.getR (pc := 16) dX5_bestWheel_16 fX5_15_3 rfl hSe.o hSe.f1 ?_
      refine V.alen (pc := 19) dX5_bestWheel_19 hSe.t1 ty_i (by rfl) ?_
      refine V.icmp_ge 32 (pc := 20) dX5_bestWheel_20 (by decide) (fun h20 => absurd h20 (by rw [show Int32.ofNat 4 = nI 4 from rfl, le32, nI_toInt (by omega)]; omega)) (fun h20 => ?_)
      refine V.aload_n (pc := 23) dX5_bestWheel_23 rfl ?_
      refine V.getR (pc := 24) dX5_bestWheel_24 fX5_15_3 rfl hSe.o hSe.f1 ?_
      refine V.iload_n (pc := 27) dX5_bestWheel_27 rfl ?_
      refine V.iald' (k := v.toInt.toNat) (pc := 28) dX5_bestWheel_28 hSe.t1 (nIx v1 rfl) (by omega) (by decide) ?_
      refine V.goto 33 (pc := 29) dX5_bestWheel_29 (by decide) ?_
      exact V.iret (pc := 33) dX5_bestWheel_33 rfl ⟨by rw [if_pos (by omega)], rfl, rfl, rfl, rfl, rfl⟩
theorem x_best7 {g : gG} {d : Nat} {T : mT} {n : Nat} {I : mI} {J : mJ} {F : mF} {oo k : Nat} (v : Int32) (hSe : SrS 6 T F oo) (hk : I oo 2 = nI k) (hk2 : k ≤ 2) : Ct g mX5_bestWheel (d + 0) [.ref oo, .int v] 0 0 T n I J F (pureQ T n I J F (some (.int (if 0 ≤ v.toInt ∧ v.toInt < 2 * (k : Int) then I (oo + 2) v.toInt.toNat else -1)))) := by
  refine Ct.ofV (k := 0) (by decide) (Nat.le_of_ble_eq_true rfl) ?_
  show V g mX5_bestWheel (d + 0) _ 0 0 0 [some (.ref oo), some (.int v)] [] T n I J F
  refine V.iload_n (pc := 0) dX5_bestWheel_0 rfl ?_
  refine V.if_lt 32 (pc := 1) dX5_bestWheel_1 (by decide) (fun h1 => ?_) (fun h1 => ?_)
  · have v1 : v.toInt < 0 := (lt32 _ _).mp h1
    refine V.iconst (v := (-1)) (pc := 32) dX5_bestWheel_32 (by decide) ?_
    exact V.iret (pc := 33) dX5_bestWheel_33 rfl ⟨by rw [if_neg (by omega)], rfl, rfl, rfl, rfl, rfl⟩
  · have v1 : 0 ≤ v.toInt := by
      rw [lt32] at h1
      have e0 : (0 : Int32).toInt = 0 := rfl
      omega
    refine V.iload_n (pc := 4) dX5_bestWheel_4 rfl ?_
    refine V.iconst (v := 2) (pc := 5) dX5_bestWheel_5 (by decide) ?_
    refine V.aload_n (pc := 6) dX5_bestWheel_6 rfl ?_
    refine V.getI (pc := 7) dX5_bestWheel_7 fX5_18_6 rfl hSe.o ?_
    rw [hk]
    refine V.imul (pc := 10) dX5_bestWheel_10 ?_
    rw [L2, pk_mul]
    refine V.icmp_ge 32 (pc := 11) dX5_bestWheel_11 (by decide) (fun h11 => ?_) (fun h11 => ?_)
    · rw [le32, nI_toInt (by omega)] at h11
      refine V.iconst (v := (-1)) (pc := 32) dX5_bestWheel_32 (by decide) ?_
      exact V.iret (pc := 33) dX5_bestWheel_33 rfl ⟨by rw [if_neg (by omega)], rfl, rfl, rfl, rfl, rfl⟩
    · rw [le32, nI_toInt (by omega)] at h11
      refine V.iload_n (pc := 14) dX5_bestWheel_14 rfl ?_
      refine V.aload_n (pc := 15) dX5_bestWheel_15 rfl ?_
      refine V.getR (pc := 16) dX5_bestWheel_16 fX5_15_6 rfl hSe.o hSe.f1 ?_
      refine V.alen (pc := 19) dX5_bestWheel_19 hSe.t1 ty_i (by rfl) ?_
      refine V.icmp_ge 32 (pc := 20) dX5_bestWheel_20 (by decide) (fun h20 => absurd h20 (by rw [show Int32.ofNat 4 = nI 4 from rfl, le32, nI_toInt (by omega)]; omega)) (fun h20 => ?_)
      refine V.aload_n (pc := 23) dX5_bestWheel_23 rfl ?_
      refine V.getR (pc := 24) dX5_bestWheel_24 fX5_15_6 rfl hSe.o hSe.f1 ?_
      refine V.iload_n (pc := 27) dX5_bestWheel_27 rfl ?_
      refine V.iald' (k := v.toInt.toNat) (pc := 28) dX5_bestWheel_28 hSe.t1 (nIx v1 rfl) (by omega) (by decide) ?_
      refine V.goto 33 (pc := 29) dX5_bestWheel_29 (by decide) ?_
      exact V.iret (pc := 33) dX5_bestWheel_33 rfl ⟨by rw [if_pos (by omega)], rfl, rfl, rfl, rfl, rfl⟩
theorem x_weigh3 {g : gG} {d : Nat} {T : mT} {n : Nat} {I : mI} {J : mJ} {F : mF} {oo p q N c : Nat} {s : List Nat} {I0 : mI} {J0 : mJ} {b : NSt} (v z : Int32) (hNs : SrS 3 T F oo) (hN : N = 2 ∨ N = 4) (hs : StkOK s) (hv : vld s.length N c = true) (hp : 1 ≤ p ∧ p ≤ 100000) (hq : 1 ≤ q ∧ q ≤ 100000) (hr : NRx p q oo I0 J0 b I J) (hd : ∀ i, i < N → I (oo + 1) i = nI (dg N c i)) (hz : v = nI (N / 2)) : Ct g mX3_weigh (d + 2) [.ref oo, .long (lN (drvN s N c)), .long (lN (drnN s N c)), .int v, .int z] 0 0 T n I J F (fun r' T' n' I' J' F' => r' = none ∧ T' = T ∧ n' = n ∧ F' = F ∧ NRx p q oo I0 J0 (nstep s p q N c b) I' J' ∧ I' (oo + 1) = I (oo + 1)) := by
  refine Ct.ofV (k := 2) (by decide) (Nat.le_of_ble_eq_true rfl) ?_
  show V g mX3_weigh (d + 2) _ 0 0 0 [some (.ref oo), some (.long (lN (drvN s N c))), none, some (.long (lN (drnN s N c))), none, some (.int v), some (.int z), none, none] [] T n I J F
  subst hz
  obtain ⟨h1, h2, h3, h4, h5, h6⟩ := id hr
  have hd1 := drvN_bd hs hN hv
  have hd2 := drnN_bd hs hN hv
  have b1 : drvN s N c * q ≤ 14400 * 100000 := Nat.mul_le_mul hd1.2 hq.2
  have b2 : drnN s N c * p ≤ 14400 * 100000 := Nat.mul_le_mul hd2.2 hp.2
  have b4 : (absN (drvN s N c * q) (drnN s N c * p)) ≤ 14400 * 100000 := absN_le _ _ b1 b2
  have b6 : (absN (drvN s N c * q) (drnN s N c * p)) * b.2.2.1 ≤ 14400 * 100000 * 14400 := Nat.mul_le_mul b4 h6.2.2.1
  have b7 : b.2.1 * drnN s N c ≤ 1440000000 * 14400 := Nat.mul_le_mul h6.2.1 hd2.2
  refine V.lload_n (pc := 0) dX3_weigh_0 rfl ?_
  refine V.aload_n (pc := 1) dX3_weigh_1 rfl ?_
  refine V.getJ (pc := 2) dX3_weigh_2 fX3_13_3 rfl hNs.o ?_
  rw [h3.2]
  refine V.lmul (pc := 5) dX3_weigh_5 ?_
  rw [lN_mul]
  refine V.lload_n (pc := 6) dX3_weigh_6 rfl ?_
  refine V.aload_n (pc := 7) dX3_weigh_7 rfl ?_
  refine V.getJ (pc := 8) dX3_weigh_8 fX3_7_3 rfl hNs.o ?_
  rw [h3.1]
  refine V.lmul (pc := 11) dX3_weigh_11 ?_
  rw [lN_mul]
  refine V.lsub (pc := 12) dX3_weigh_12 ?_
  refine V.mabs (pc := 13) dX3_weigh_13 lX3_30 (by omega) (Nat.le_of_ble_eq_true rfl) ?_
  rw [lN_abs2 (by omega) (by omega), show (if drvN s N c * q < drnN s N c * p then drnN s N c * p - drvN s N c * q else drvN s N c * q - drnN s N c * p) = (absN (drvN s N c * q) (drnN s N c * p)) from rfl]
  refine V.ls (pc := 16) dX3_weigh_16 (by decide) (st2_7 rfl) ?_
  refine V.aload_n (pc := 18) dX3_weigh_18 rfl ?_
  refine V.getI (pc := 19) dX3_weigh_19 fX3_26_3 rfl hNs.o ?_
  rw [h4]
  refine V.if_eq 42 (pc := 22) dX3_weigh_22 (by decide) (fun h22 => ?_) (fun h22 => ?_)
  · have z0 : b.1 = 0 := by
      rw [L0, nI_eq (by have := h6.1; omega) (by omega)] at h22
      exact h22
    refine V.aload_n (pc := 42) dX3_weigh_42 rfl ?_
    refine V.lload (pc := 43) dX3_weigh_43 rfl ?_
    refine V.putJ (pc := 45) dX3_weigh_45 fX3_16_3 (fun r h => by cases h; exact Or.inl rfl) rfl hNs.o ?_
    refine V.aload_n (pc := 48) dX3_weigh_48 rfl ?_
    refine V.lload_n (pc := 49) dX3_weigh_49 rfl ?_
    refine V.putJ (pc := 50) dX3_weigh_50 fX3_19_3 (fun r h => by cases h; exact Or.inl rfl) rfl hNs.o ?_
    refine V.aload_n (pc := 53) dX3_weigh_53 rfl ?_
    refine V.iload (pc := 54) dX3_weigh_54 rfl ?_
    refine V.invU0 (as := [_]) (pc := 56) dX3_weigh_56 (ci := 3) rfl uX3_36_X3 bX5_keepTried nX5_keepTried hNs.o (x_keep3 (d := d + 0) _ hNs) (by omega) rfl (Nat.le_of_ble_eq_true rfl) ?_
    rintro _ _ _ _ _ _ ⟨rfl, rfl, rfl, rfl, rfl, rfl⟩
    exact V.vret (pc := 59) dX3_weigh_59 rfl ⟨rfl, rfl, rfl, rfl, hr.yes hN hs hv hp.2 hq.2 hd (Or.inl z0) (fun a a1 a2 => by rw [cpyI_off a2, up2_off a1]) (by rw [cpyI_off (by omega), up2_same]) (fun i hi => by rw [cpyI_in hi, up2_off (by omega)]) (fun a ha => by rw [up2_off ha, up2_off ha]) ⟨by rw [up2_ne (by omega), up2_ne (by omega)], by rw [up2_ne (by omega), up2_ne (by omega)]⟩ (by rw [up2_ne (by omega), up2_same]) up2_same, by rw [cpyI_off (by omega), up2_off (by omega)]⟩
  · have z0 : ¬ b.1 = 0 := fun z => h22 (by rw [z]; rfl)
    refine V.lload (pc := 25) dX3_weigh_25 rfl ?_
    refine V.aload_n (pc := 27) dX3_weigh_27 rfl ?_
    refine V.getJ (pc := 28) dX3_weigh_28 fX3_19_3 rfl hNs.o ?_
    rw [(h5 z0).2.1]
    refine V.lmul (pc := 31) dX3_weigh_31 ?_
    rw [lN_mul]
    refine V.aload_n (pc := 32) dX3_weigh_32 rfl ?_
    refine V.getJ (pc := 33) dX3_weigh_33 fX3_16_3 rfl hNs.o ?_
    rw [(h5 z0).1]
    refine V.lload_n (pc := 36) dX3_weigh_36 rfl ?_
    refine V.lmul (pc := 37) dX3_weigh_37 ?_
    rw [lN_mul]
    refine V.lcmp_ge 59 (pc := 38) dX3_weigh_38 dX3_weigh_39 (by decide) (fun h38 => ?_) (fun h38 => ?_)
    · rw [lN_leL (by omega) (by omega)] at h38
      exact V.vret (pc := 59) dX3_weigh_59 rfl ⟨rfl, rfl, rfl, rfl, by rw [nstep, if_neg (by omega)]; exact hr, rfl⟩
    · rw [lN_leL (by omega) (by omega)] at h38
      refine V.aload_n (pc := 42) dX3_weigh_42 rfl ?_
      refine V.lload (pc := 43) dX3_weigh_43 rfl ?_
      refine V.putJ (pc := 45) dX3_weigh_45 fX3_16_3 (fun r h => by cases h; exact Or.inl rfl) rfl hNs.o ?_
      refine V.aload_n (pc := 48) dX3_weigh_48 rfl ?_
      refine V.lload_n (pc := 49) dX3_weigh_49 rfl ?_
      refine V.putJ (pc := 50) dX3_weigh_50 fX3_19_3 (fun r h => by cases h; exact Or.inl rfl) rfl hNs.o ?_
      refine V.aload_n (pc := 53) dX3_weigh_53 rfl ?_
      refine V.iload (pc := 54) dX3_weigh_54 rfl ?_
      refine V.invU0 (as := [_]) (pc := 56) dX3_weigh_56 (ci := 3) rfl uX3_36_X3 bX5_keepTried nX5_keepTried hNs.o (x_keep3 (d := d + 0) _ hNs) (by omega) rfl (Nat.le_of_ble_eq_true rfl) ?_
      rintro _ _ _ _ _ _ ⟨rfl, rfl, rfl, rfl, rfl, rfl⟩
      exact V.vret (pc := 59) dX3_weigh_59 rfl ⟨rfl, rfl, rfl, rfl, hr.yes hN hs hv hp.2 hq.2 hd (Or.inr (by omega)) (fun a a1 a2 => by rw [cpyI_off a2, up2_off a1]) (by rw [cpyI_off (by omega), up2_same]) (fun i hi => by rw [cpyI_in hi, up2_off (by omega)]) (fun a ha => by rw [up2_off ha, up2_off ha]) ⟨by rw [up2_ne (by omega), up2_ne (by omega)], by rw [up2_ne (by omega), up2_ne (by omega)]⟩ (by rw [up2_ne (by omega), up2_same]) up2_same, by rw [cpyI_off (by omega), up2_off (by omega)]⟩
theorem x_find3 {g : gG} {d : Nat} {T : mT} {n : Nat} {I : mI} {J : mJ} {F : mF} {oo u p q : Nat} {s : List Nat} (v z : Int32) (hNs : SrS 3 T F oo) (hS : SS T F u) (hs : StkU I u s) (hu : u + 2 < oo ∨ oo + 2 < u) (hx : v = nI p) (hz : z = nI q) (hp : 1 ≤ p ∧ p ≤ 100000) (hq : 1 ≤ q ∧ q ≤ 100000) : Ct g mX3_findFor (d + 5) [.ref oo, .ref u, .int v, .int z] 0 0 T n I J F (fun r' T' n' I' J' F' => r' = some (.int (bi ((nearF s p q).1 ≠ 0))) ∧ T' = T ∧ n' = n ∧ F' = F ∧ NRx p q oo I J (nearF s p q) I' J') := by
  refine Ct.ofV (k := 0) (by decide) (Nat.le_of_ble_eq_true rfl) ?_
  show V g mX3_findFor (d + 5) _ 0 0 0 [some (.ref oo), some (.ref u), some (.int v), some (.int z)] [] T n I J F
  subst hx hz
  refine V.aload_n (pc := 0) dX3_findFor_0 rfl ?_
  refine V.iload_n (pc := 1) dX3_findFor_1 rfl ?_
  refine V.i2l (pc := 2) dX3_findFor_2 ?_
  rw [nI_l (by omega)]
  refine V.putJ (pc := 3) dX3_findFor_3 fX3_7_3 (fun r h => by cases h; exact Or.inl rfl) rfl hNs.o ?_
  refine V.aload_n (pc := 6) dX3_findFor_6 rfl ?_
  refine V.iload_n (pc := 7) dX3_findFor_7 rfl ?_
  refine V.i2l (pc := 8) dX3_findFor_8 ?_
  rw [nI_l (by omega)]
  refine V.putJ (pc := 9) dX3_findFor_9 fX3_13_3 (fun r h => by cases h; exact Or.inl rfl) rfl hNs.o ?_
  refine V.aload_n (pc := 12) dX3_findFor_12 rfl ?_
  refine V.aload_n (pc := 13) dX3_findFor_13 rfl ?_
  refine V.invU0 (as := [_]) (pc := 14) dX3_findFor_14 (ci := 3) rfl uX3_22_X3 bX5_goThrough nX5_goThrough hNs.o (c_go_X3 (d := d + 0) (R := NRx p q oo I J) (stp := nstep s p q) (u := u) (s := s) (b1 := (0, 0, 0, 0)) hNs hS hs (fun b I2 J2 k v h => h.tried) (fun b I2 J2 h => ⟨h.1 u (by omega) (by omega) (by omega), h.1 (u + 2) (by omega) (by omega) (by omega)⟩) ⟨by omega, by omega⟩ (fun c b I2 J2 hv hr hd d => x_weigh3 _ _ hNs (Or.inr rfl) hs.1 (by rw [v4, Bool.and_eq_true] at hv; exact hv.1) hp hq hr hd rfl) (fun c b I2 J2 hv hr hd d => x_weigh3 _ _ hNs (Or.inl rfl) hs.1 hv hp hq hr hd rfl) ⟨fun a a1 a2 a3 => up2_off a1, fun a ha => by rw [up2_off ha, up2_off ha], ⟨by rw [up2_ne (by omega), up2_same], up2_same⟩, up2_same, fun z => absurd rfl z, by decide, by decide, by decide, fun z => absurd rfl z⟩) (by omega) rfl (Nat.le_of_ble_eq_true rfl) ?_
  rintro _ _ _ I2 J2 _ ⟨rfl, rfl, rfl, rfl, w1⟩
  rw [show foldP (v4 s.length) (nstep s p q 4) 65536 (foldP (vld s.length 2) (nstep s p q 2) 256 (0, 0, 0, 0)) = nearF s p q from nearG_eq hs.1 hp.2 hq.2] at w1
  have w4 := w1.2.2.2.1
  have w5 := w1.2.2.2.2.2.1
  refine V.aload_n (pc := 17) dX3_findFor_17 rfl ?_
  refine V.getI (pc := 18) dX3_findFor_18 fX3_26_3 rfl hNs.o ?_
  rw [w4]
  refine V.if_le 28 (pc := 21) dX3_findFor_21 (by decide) (fun h21 => ?_) (fun h21 => ?_)
  · rw [le32, nI_toInt (by omega)] at h21
    have z0 : (nearF s p q).1 = 0 := by
      have e0 : (0 : Int32).toInt = 0 := rfl
      omega
    refine V.iconst (v := 0) (pc := 28) dX3_findFor_28 (by decide) ?_
    exact V.zret (pc := 29) dX3_findFor_29 rfl (by first | exact Or.inl rfl | exact Or.inr rfl | exact bi_or | assumption) ⟨by rw [bi_f (fun z => z z0)], rfl, rfl, rfl, w1⟩
  · rw [le32, nI_toInt (by omega)] at h21
    have z0 : (nearF s p q).1 ≠ 0 := by
      have e0 : (0 : Int32).toInt = 0 := rfl
      omega
    refine V.iconst (v := 1) (pc := 24) dX3_findFor_24 (by decide) ?_
    refine V.goto 29 (pc := 25) dX3_findFor_25 (by decide) ?_
    exact V.zret (pc := 29) dX3_findFor_29 rfl (by first | exact Or.inl rfl | exact Or.inr rfl | exact bi_or | assumption) ⟨by rw [bi_t z0], rfl, rfl, rfl, w1⟩
