theorem trN_get {s : List Nat} {B : NSt} {p : Nat} {r : Nat × Nat} (hB : B.1 = 1 ∨ B.1 = 2) (h : (trN s B)[p]? = some r) : p < B.1 ∧ r = (stT s (dg (2 * B.1) B.2.2.2 (2 * p)), stT s (dg (2 * B.1) B.2.2.2 (2 * p + 1))) := by
  unfold trN at h
  rcases hB with e | e
  · rw [if_neg (by omega), if_pos e] at h
    rcases p with _ | p
    · simp at h; rw [e]; exact ⟨by omega, h.symm⟩
    · simp at h
  · rw [if_neg (by omega), if_neg (by omega)] at h
    rcases p with _ | _ | p
    · simp at h; rw [e]; exact ⟨by omega, h.symm⟩
    · simp at h; rw [e]; exact ⟨by omega, h.symm⟩
    · simp at h
theorem trN_len {s : List Nat} {B : NSt} (hB : B.1 = 1 ∨ B.1 = 2) : (trN s B).length = B.1 := by
  unfold trN
  rcases hB with e | e
  · rw [if_neg (by omega), if_pos e, e]; rfl
  · rw [if_neg (by omega), if_neg (by omega), e]; rfl
theorem p_mount {g : gG} {d : Nat} {T : mT} {n : Nat} {I : mI} {J : mJ} {F : mF} {m : Nat} {A : Ab} (x p q : Int32) (hM : MS T F m) (hA : AbOK A) (hR : RepM I J m A)  : Ct g mX12_mount (d + 4) [.ref m, .int x, .int p, .int q] 0 0 T n I J F (QM m T n I J F (some (.int (iI (s_mount A x.toInt p.toInt q.toInt).1))) (s_mount A x.toInt p.toInt q.toInt).2) := by
  refine Ct.ofV (k := 1) (by decide) (Nat.le_of_ble_eq_true rfl) ?_
  show V g mX12_mount (d + 4) _ 0 0 0 [some (.ref m), some (.int x), some (.int p), some (.int q), none] [] T n I J F
  refine V.aload_n (pc := 0) dX12_mount_0 rfl ?_
  refine V.iconst (v := 0) (pc := 1) dX12_mount_1 (by decide) ?_
  refine V.putI (pc := 2) dX12_mount_2 fX12_88_11 (fun r h => by cases h; exact Or.inl rfl) rfl hM.o ?_
  refine V.thr hR (fun I1 hR1 hf => ?_)
  clear hR
  have hR := hR1
  clear hR1
  refine V.iload_n (pc := 5) dX12_mount_5 rfl ?_
  refine V.iload_n (pc := 6) dX12_mount_6 rfl ?_
  refine V.pS (as := [_, _]) (pc := 7) dX12_mount_7 lX12_363 bX12_isRate sX12_isRate (c_isRate (d := d + 2) _ _) (by omega) rfl (Nat.le_of_ble_eq_true rfl) ?_
  refine V.if_ne 19 (pc := 10) dX12_mount_10 (by decide) (fun h10 => ?_) (fun h10 => ?_)
  · have qr := bi_ne.mp h10
    have hp1 := nIx (x := p) (by omega) rfl
    have hq1 := nIx (x := q) (by omega) rfl
    refine V.aload_n (pc := 19) dX12_mount_19 rfl ?_
    refine V.iload_n (pc := 20) dX12_mount_20 rfl ?_
    refine V.pV (as := [_]) (pc := 21) dX12_mount_21 lX12_111 bX12_isHand nX12_isHand (ci := 11) rfl eX12_isHand hM.o (c_isHand (d := d + 2) (k := (hds (cor A)).length) _ hM (by have := hA.1.1; omega) hR.h0) (by omega) rfl (Nat.le_of_ble_eq_true rfl) ?_
    refine V.if_eq 37 (pc := 24) dX12_mount_24 (by decide) (fun h24 => ?_) (fun h24 => ?_)
    · have q := bi_eq.mp h24
      have ey := hdAt_no q
      refine V.aload_n (pc := 37) dX12_mount_37 rfl ?_
      refine V.bipush (v := (-2)) (pc := 38) dX12_mount_38 (by decide) ?_
      refine V.invV0 (as := [_]) (pc := 40) dX12_mount_40 lX12_102 bX12_tell nX12_tell (ci := 11) rfl eX12_tell hM.o (c_tell (d := d + 3) _ hM (by first | decide | (rw [nI_toInt (by omega)]; omega))) (by omega) rfl (Nat.le_of_ble_eq_true rfl) ?_
      rintro _ _ _ _ _ _ ⟨rfl, rfl, rfl, rfl, rfl, rfl⟩
      exact V.iret (pc := 43) dX12_mount_43 rfl (QM.no hR hf (by decide) (by rw [s_mount, if_pos qr]; simp only [ey]; rfl))
    · have q2 := bi_ne.mp h24
      obtain ⟨y, hy, ey⟩ := hdAt_yes q2
      have hx := nIx q2.1 rfl
      have h6 := hA.1.1
      have hY := hA.1.2.1 y (List.mem_of_getElem? hy)
      have hW := hR.2.2.1.2.1 _ y hy
      have h12 := hA.1.2.2.1
      refine V.aload_n (pc := 27) dX12_mount_27 rfl ?_
      refine V.getR (pc := 28) dX12_mount_28 fX12_13_11 rfl hM.o hM.f3 ?_
      refine V.iconst (v := 1) (pc := 31) dX12_mount_31 (by decide) ?_
      refine V.iald' (k := 1) (pc := 32) dX12_mount_32 hM.t3 rfl (by decide) (by decide) ?_
      rw [hR.h1]
      refine V.iconst (v := 2) (pc := 33) dX12_mount_33 (by decide) ?_
      refine V.icmp_ge 44 (pc := 34) dX12_mount_34 (by decide) (fun h34 => ?_) (fun h34 => ?_)
      · rw [le32, nI_toInt (by omega)] at h34
        have hS2 : 2 ≤ (stk (cor A)).length := by have e2 : (2 : Int32).toInt = 2 := rfl; omega
        refine V.aload_n (pc := 44) dX12_mount_44 rfl ?_
        refine V.iload_n (pc := 45) dX12_mount_45 rfl ?_
        refine V.iload_n (pc := 46) dX12_mount_46 rfl ?_
        refine V.invV0 (as := [_, _]) (pc := 47) dX12_mount_47 lX12_407 bX12_findNearest nX12_findNearest (ci := 11) rfl eX12_findNearest hM.o (c_findNearest (d := d + 1) (p := p.toInt.toNat) (q := q.toInt.toNat) _ _ hM (hR.stk hA) (by omega) hp1 hq1 (by omega) (by omega)) (by omega) rfl (Nat.le_of_ble_eq_true rfl) ?_
        rintro _ _ _ I2 J2 _ ⟨rfl, rfl, rfl, rfl, f2, nm⟩
        have hn0 := nearF_1 (s := stk (cor A)) (p := p.toInt.toNat) (q := q.toInt.toNat) (by omega)
        have hnk := nearOK (s := stk (cor A)) (p := p.toInt.toNat) (q := q.toInt.toNat) ⟨hA.1.2.2.1, hA.1.2.2.2.1⟩ (by omega) (by omega)
        have nm1 := nm.1
        obtain ⟨nm2, nm3, nm4⟩ := nm.2 hn0
        have hnv := nearV (s := stk (cor A)) (p := p.toInt.toNat) (q := q.toInt.toNat)
        generalize hgB : nearF (stk (cor A)) p.toInt.toNat q.toInt.toNat = B at nm1 nm2 nm3 nm4 hn0 hnk hnv
        obtain ⟨k1, k2, k3, k4⟩ := hnk
        have hB : B.1 = 1 ∨ B.1 = 2 := by omega
        have hBv : vld (stk (cor A)).length (2 * B.1) B.2.2.2 = true := by
          rcases hnv with z | z
          · exact absurd z hn0
          · exact z.2
        have hR2 := f2.rep hR
        refine V.aload_n (pc := 50) dX12_mount_50 rfl ?_
        refine V.getR (pc := 51) dX12_mount_51 fX12_13_11 rfl hM.o hM.f3 ?_
        refine V.bipush (v := 10) (pc := 54) dX12_mount_54 (by decide) ?_
        refine V.bipush (v := 12) (pc := 56) dX12_mount_56 (by decide) ?_
        refine V.iload_n (pc := 58) dX12_mount_58 rfl ?_
        refine V.imul (pc := 59) dX12_mount_59 ?_
        refine V.iadd (pc := 60) dX12_mount_60 ?_
        refine V.iconst (v := 3) (pc := 61) dX12_mount_61 (by decide) ?_
        refine V.iadd (pc := 62) dX12_mount_62 ?_
        refine V.iconst (v := 0) (pc := 63) dX12_mount_63 (by decide) ?_
        refine V.iast' (k := 10 + 12 * x.toInt.toNat + 3) (pc := 64) dX12_mount_64 hM.t3 (ix3 hx) (by omega) (by decide) ?_
        refine V.iconst (v := 0) (pc := 65) dX12_mount_65 (by decide) ?_
        refine V.is (pc := 66) dX12_mount_66 (by decide) (st1_4 rfl) ?_
        conv => arg 8; rw [hx, show (0 : Int32) = nI 0 from rfl]
        refine l_mount (h := x.toInt.toNat) (s := stk (cor A)) (B := B) (I := up2 I2 (m + 2) (10 + 12 * x.toInt.toNat + 3) 0) hM (by omega) ?hs hB hBv (by rw [up2_off (by omega)]; exact nm1) (fun i hi => by rw [up2_off (by omega)]; exact nm4 i hi) (fun I3 g1 g2 g3 g4 => ?_) B.1 0 _ (by omega) ⟨fun _ _ => rfl, up2_same, fun i hi => absurd hi (by omega), fun _ _ => rfl⟩
        case hs =>
          have z := hR2.stk hA
          exact ⟨z.1, by rw [up2_ne (by omega)]; exact z.2.1, fun i t hi => by have := (List.getElem?_eq_some_iff.mp hi).1; rw [up2_ne (by omega)]; exact z.2.2 i t hi⟩
        refine V.aload_n (pc := 124) dX12_mount_124 rfl ?_
        refine V.aload_n (pc := 125) dX12_mount_125 rfl ?_
        refine V.getI (pc := 126) dX12_mount_126 fX12_378_11 rfl hM.o ?_
        rw [g1 _ (by omega), up2_off (by omega), nm1]
        refine V.invV0 (as := [_]) (pc := 129) dX12_mount_129 lX12_102 bX12_tell nX12_tell (ci := 11) rfl eX12_tell hM.o (c_tell (d := d + 3) _ hM (by first | decide | (rw [nI_toInt (by omega)]; omega))) (by omega) rfl (Nat.le_of_ble_eq_true rfl) ?_
        rintro _ _ _ _ _ _ ⟨rfl, rfl, rfl, rfl, rfl, rfl⟩
        exact V.iret (pc := 132) dX12_mount_132 rfl ⟨by rw [s_mount, if_pos qr]; simp only [ey]; rw [if_pos (by omega), hgB]; simp only [okYes]; rw [iI_nat], rfl, rfl, rfl, Frm.tell (hf.trans (f2.frm.1.trans (fun b hb => by rw [g1 b (by omega), up2_off (by omega)]))), f2.frm.2, by
        rw [s_mount, if_pos qr]; simp only [ey]; rw [if_pos (by omega), hgB]; simp only [okYes]
        refine RepM.okay (hR2.setRow (fun b hb => by rw [g1 b hb, up2_off hb]) ?_) _ (nI_pos' (by omega))
        refine RowRep.hand hA.1 hR2.2.2.1 (by omega) ⟨?_, ?_, ?_, ?_, fun p2 qq hp => ?_⟩ (fun j hj => by rw [g4 j (by omega), up2_ne (by omega)])
        · rw [g4 _ (by omega), up2_ne (by omega), f2.1 _ (by omega) (by omega) (by omega)]; exact hW.1
        · rw [g4 _ (by omega), up2_ne (by omega), f2.1 _ (by omega) (by omega) (by omega)]; exact hW.2.1
        · rw [g4 _ (by omega), up2_ne (by omega), f2.1 _ (by omega) (by omega) (by omega)]; exact hW.2.2.1
        · rw [g2]; show _ = nI (trN (stk (cor A)) B).length; rw [trN_len hB]
        · obtain ⟨p3, p4⟩ := trN_get hB (show (trN (stk (cor A)) B)[p2]? = some qq from hp)
          rw [p4]; exact g3 p2 p3⟩
      · rw [le32, nI_toInt (by omega)] at h34
        have hS2 : ¬ 1 < (stk (cor A)).length := by have e2 : (2 : Int32).toInt = 2 := rfl; omega
        refine V.aload_n (pc := 37) dX12_mount_37 rfl ?_
        refine V.bipush (v := (-2)) (pc := 38) dX12_mount_38 (by decide) ?_
        refine V.invV0 (as := [_]) (pc := 40) dX12_mount_40 lX12_102 bX12_tell nX12_tell (ci := 11) rfl eX12_tell hM.o (c_tell (d := d + 3) _ hM (by first | decide | (rw [nI_toInt (by omega)]; omega))) (by omega) rfl (Nat.le_of_ble_eq_true rfl) ?_
        rintro _ _ _ _ _ _ ⟨rfl, rfl, rfl, rfl, rfl, rfl⟩
        exact V.iret (pc := 43) dX12_mount_43 rfl (QM.no hR hf (by decide) (by rw [s_mount, if_pos qr]; simp only [ey]; rw [if_neg hS2]; rfl))
  · have qr := bi_eq.mp h10
    refine V.aload_n (pc := 13) dX12_mount_13 rfl ?_
    refine V.iconst (v := (-1)) (pc := 14) dX12_mount_14 (by decide) ?_
    refine V.invV0 (as := [_]) (pc := 15) dX12_mount_15 lX12_102 bX12_tell nX12_tell (ci := 11) rfl eX12_tell hM.o (c_tell (d := d + 3) _ hM (by first | decide | (rw [nI_toInt (by omega)]; omega))) (by omega) rfl (Nat.le_of_ble_eq_true rfl) ?_
    rintro _ _ _ _ _ _ ⟨rfl, rfl, rfl, rfl, rfl, rfl⟩
    exact V.iret (pc := 18) dX12_mount_18 rfl (QM.no hR hf (by decide) (by rw [s_mount, if_neg qr]; rfl))
