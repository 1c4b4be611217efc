theorem xl_row {g : gG} {d : Nat} {T : mT} {n : Nat} {I : mI} {J : mJ} {F : mF} {Q : mQ} {x : Nat} {A : Ab} (hX : XS T F x) (hA : AbOK A) (hR : RepX T I J F x A) (kk : ∀ I' : mI, (∀ b, b ≠ x + 1 → b ≠ x + 1 + 2 → I' b = I b) → StX T I' J F (x + 111) (x + 1) (stkC (cor A) (rowF (stk (cor A)) (tap A))) → V g mX11_row (d + 4) Q 0 0 73 [some (.ref x), some (.int (nI ((rowF (stk (cor A)) (tap A)).length - (stk (cor A)).length))), some (.int (nI (tap A).length))] [] T n I' J F) : ∀ (t j : Nat) (I' : mI), j + t = (tap A).length → ((∀ b, b ≠ x + 1 → b ≠ x + 1 + 2 → I' b = I b) ∧ StX T I' J F (x + 111) (x + 1) (stkC (cor A) (rowF (stk (cor A)) ((tap A).take j)))) → V g mX11_row (d + 4) Q 0 0 18 [some (.ref x), some (.int (nI ((rowF (stk (cor A)) ((tap A).take j)).length - (stk (cor A)).length))), some (.int (nI j))] [] T n I' J F := by
  intro t
  induction t with
  | zero =>
    intro j I' hj hi
    obtain rfl : j = (tap A).length := by omega
    refine V.iload_n (pc := 18) dX11_row_18 rfl ?_
    refine V.aload_n (pc := 19) dX11_row_19 rfl ?_
    refine V.getI (pc := 20) dX11_row_20 fX11_24_10 rfl hX.o ?_
    rw [hi.1 x (by omega) (by omega), hR.1.1]
    refine V.icmp_ge 73 (pc := 23) dX11_row_23 (by decide) (fun h23 => ?_) (fun h23 => absurd (nI_le (Nat.le_refl _) (by have := hA.2.2.1; omega)) h23)
    rw [List.take_length] at hi ⊢
    exact kk I' hi.1 hi.2
  | succ t ih =>
    intro j I' hj hi
    have hTo := hX.s.o
    have hjl : j < (tap A).length := by omega
    obtain ⟨t, ht'⟩ : ∃ t, (tap A)[j]? = some t := ⟨_, List.getElem?_eq_getElem hjl⟩
    have et : I' (x + 22) j = nI t := by rw [hi.1 (x + 22) (by omega) (by omega)]; exact hR.2.2.2.2.2.1 j t ht'
    have t255 := hA.2.2.2.1 t (List.mem_of_getElem? ht')
    have hok := rowF_ok (ts := (tap A).take j) hA.1.2.2.1 hA.1.2.2.2.1
    have hgr := rowF_grow (s := stk (cor A)) (ts := (tap A).take j)
    rw [List.length_take, Nat.min_eq_left (by omega)] at hgr
    have hle := rowF_len (s := stk (cor A)) (ts := (tap A).take j)
    have h400 := hA.2.2.1
    have hst := rowF_take (s := stk (cor A)) ht'
    have hln : I' (x + 1) 4 = nI (rowF (stk (cor A)) ((tap A).take j)).length := hi.2.1.2.1
    have hcR := stk_ok hA.1 hok.1 hok.2
    refine V.iload_n (pc := 18) dX11_row_18 rfl ?_
    refine V.aload_n (pc := 19) dX11_row_19 rfl ?_
    refine V.getI (pc := 20) dX11_row_20 fX11_24_10 rfl hX.o ?_
    rw [hi.1 x (by omega) (by omega), hR.1.1]
    refine V.icmp_ge 73 (pc := 23) dX11_row_23 (by decide) (fun h23 => absurd h23 (nI_ge (by omega) (by omega))) (fun h23 => ?_)
    refine V.iload_n (pc := 26) dX11_row_26 rfl ?_
    refine V.aload_n (pc := 27) dX11_row_27 rfl ?_
    refine V.getR (pc := 28) dX11_row_28 fX11_20_10 rfl hX.o hX.f2 ?_
    refine V.alen (pc := 31) dX11_row_31 hX.t2 ty_i (by rfl) ?_
    refine V.icmp_ge 73 (pc := 32) dX11_row_32 (by decide) (fun h32 => absurd h32 (by rw [show (Int32.ofNat 400) = nI 400 from rfl]; exact nI_ge (by omega) (by omega))) (fun h32 => ?_)
    refine V.aload_n (pc := 35) dX11_row_35 rfl ?_
    refine V.getR (pc := 36) dX11_row_36 fX11_20_10 rfl hX.o hX.f2 ?_
    refine V.iload_n (pc := 39) dX11_row_39 rfl ?_
    refine V.iald' (k := j) (pc := 40) dX11_row_40 hX.t2 rfl (by omega) (by decide) ?_
    rw [et]
    refine V.pS (as := [_]) (pc := 41) dX11_row_41 lX11_110 bX11_areTeeth sX11_areTeeth (x_areTeeth (d := d + 3) _) (by omega) rfl (Nat.le_of_ble_eq_true rfl) ?_
    refine V.if_eq 67 (pc := 44) dX11_row_44 (by decide) (fun h44 => ?_) (fun h44 => ?_)
    · have q := bi_eq.mp h44
      rw [nI_toInt (by omega)] at q
      refine V.iinc1 (pc := 67) dX11_row_67 (by decide) rfl (st1_2 rfl) ?_
      refine V.goto 18 (pc := 70) dX11_row_70 (by decide) ?_
      rw [rowStep, if_neg (by omega)] at hst
      have z := ih (j + 1) I' (by omega) (by rw [hst]; exact hi)
      rw [hst] at z
      rw [nI_1]
      exact z
    · have q := bi_ne.mp h44
      rw [nI_toInt (by omega)] at q
      refine V.aload_n (pc := 47) dX11_row_47 rfl ?_
      refine V.getR (pc := 48) dX11_row_48 fX11_10_10 rfl hX.o hX.f0 ?_
      refine V.aload_n (pc := 51) dX11_row_51 rfl ?_
      refine V.getR (pc := 52) dX11_row_52 fX11_20_10 rfl hX.o hX.f2 ?_
      refine V.iload_n (pc := 55) dX11_row_55 rfl ?_
      refine V.iald' (k := j) (pc := 56) dX11_row_56 hX.t2 rfl (by omega) (by decide) ?_
      rw [et]
      by_cases q12 : (rowF (stk (cor A)) ((tap A).take j)).length = 12
      · refine V.pV (as := [_]) (pc := 57) dX11_row_57 lX11_127 bX8_newWheel nX8_newWheel (ci := 7) rfl eX8_newWheel (by assumption) (x_newWheelN (d := d + 3) _ hX.s (by rw [hln, q12])) (by omega) rfl (Nat.le_of_ble_eq_true rfl) ?_
        refine V.iconst (v := (-1)) (pc := 60) dX11_row_60 (by decide) ?_
        refine V.icmp_eq 67 (pc := 61) dX11_row_61 (by decide) (fun h61 => ?_) (fun h61 => absurd rfl h61)
        refine V.iinc1 (pc := 67) dX11_row_67 (by decide) rfl (st1_2 rfl) ?_
        refine V.goto 18 (pc := 70) dX11_row_70 (by decide) ?_
        rw [rowStep, if_neg (by omega)] at hst
        have z := ih (j + 1) I' (by omega) (by rw [hst]; exact hi)
        rw [hst] at z
        rw [nI_1]
        exact z
      · refine V.invV0 (as := [_]) (pc := 57) dX11_row_57 lX11_127 bX8_newWheel nX8_newWheel (ci := 7) rfl eX8_newWheel (by assumption) (x_newWheelY (d := d + 3) (k := (rowF (stk (cor A)) ((tap A).take j)).length) _ hX.s hln (by omega)) (by omega) rfl (Nat.le_of_ble_eq_true rfl) ?_
        rintro _ _ _ _ _ _ ⟨rfl, rfl, rfl, rfl, rfl, rfl⟩
        refine V.iconst (v := (-1)) (pc := 60) dX11_row_60 (by decide) ?_
        refine V.icmp_eq 67 (pc := 61) dX11_row_61 (by decide) (fun h61 => absurd (show nI (rowF (stk (cor A)) ((tap A).take j)).length = -1 from h61) (by rw [eq32, nI_toInt (by omega)]; show ¬ _ = (-1 : Int); omega)) (fun h61 => ?_)
        refine V.iinc1 (pc := 64) dX11_row_64 (by decide) rfl (st1_1 rfl) ?_
        refine V.iinc1 (pc := 67) dX11_row_67 (by decide) rfl (st1_2 rfl) ?_
        refine V.goto 18 (pc := 70) dX11_row_70 (by decide) ?_
        rw [rowStep, if_pos (by omega)] at hst
        have z := ih (j + 1) (up2 (up2 I' (x + 1 + 2) (rowF (stk (cor A)) ((tap A).take j)).length (nI t)) (x + 1) 4 (nI ((rowF (stk (cor A)) ((tap A).take j)).length + 1))) (by omega) (by
          rw [hst]
          refine ⟨fun b q1 q2 => by rw [up2_off q1, up2_off q2]; exact hi.1 b q1 q2, ?_⟩
          exact StX.wheel (t := t) (by omega) hcR hi.2 (fun b q1 q2 => by rw [up2_off q1, up2_off q2]) (fun k hk => by rw [up2_ne (by omega), up2_off (by omega)]) up2_same (by rw [up2_off (by omega)]; exact up2_same) (fun i q1 => by
            have q1' : i ≠ (rowF (stk (cor A)) ((tap A).take j)).length := q1
            rw [up2_off (by omega), up2_ne (by omega)]))
        rw [hst, List.length_append, List.length_singleton] at z
        rw [nI_1, nI_1, show (rowF (stk (cor A)) ((tap A).take j)).length - (stk (cor A)).length + 1 = (rowF (stk (cor A)) ((tap A).take j)).length + 1 - (stk (cor A)).length by omega]
        exact z
theorem y_row {g : gG} {d : Nat} {T : mT} {n : Nat} {I : mI} {J : mJ} {F : mF} {x : Nat} {A : Ab}  (hX : XS T F x) (hA : AbOK A) (hR : RepX T I J F x A)  : Ct g mX11_row (d + 4) [.ref x] 0 0 T n I J F (QX x T n I J F (some (.int (iI (s_row A).1))) (s_row A).2) := by
  refine Ct.ofV (k := 2) (by decide) (Nat.le_of_ble_eq_true rfl) ?_
  show V g mX11_row (d + 4) _ 0 0 0 [some (.ref x), none, none] [] T n I J F
  have hTo := hX.s.o
  have h400 := hA.2.2.1
  have hgr := rowF_grow (s := stk (cor A)) (ts := tap A)
  have hok := rowF_ok (ts := tap A) hA.1.2.2.1 hA.1.2.2.2.1
  refine V.aload_n (pc := 0) dX11_row_0 rfl ?_
  refine V.getI (pc := 1) dX11_row_1 fX11_24_10 rfl hX.o ?_
  rw [hR.1.1]
  refine V.if_ne 14 (pc := 4) dX11_row_4 (by decide) (fun h4 => ?_) (fun h4 => ?_)
  · have q : ¬ (tap A).length = 0 := fun z => h4 (by rw [z]; rfl)
    refine V.iconst (v := 0) (pc := 14) dX11_row_14 (by decide) ?_
    refine V.isn (pc := 15) dX11_row_15 (by decide) (st1_1 rfl) ?_
    refine V.iconst (v := 0) (pc := 16) dX11_row_16 (by decide) ?_
    refine V.isn (pc := 17) dX11_row_17 (by decide) (st1_2 rfl) ?_
    have z := xl_row (A := A) hX hA hR (Q := QX x T n I J F (some (.int (iI (s_row A).1))) (s_row A).2) (g := g) (d := d) (n := n) (fun I2 g1 g2 => ?_) (tap A).length 0 I (by omega) ⟨fun _ _ _ => rfl, hR.2.2.1⟩
    · simpa [rowF, nI_0] using z
    refine V.aload_n (pc := 73) dX11_row_73 rfl ?_
    refine V.aload_n (pc := 74) dX11_row_74 rfl ?_
    refine V.getI (pc := 75) dX11_row_75 fX11_24_10 rfl hX.o ?_
    rw [g1 x (by omega) (by omega), hR.1.1]
    refine V.iload_n (pc := 78) dX11_row_78 rfl ?_
    refine V.isub (pc := 79) dX11_row_79 ?_
    rw [pk_sub (by omega)]
    refine V.putI (pc := 80) dX11_row_80 fX11_31_10 (fun r h => by cases h; exact Or.inl rfl) rfl hX.o ?_
    refine V.aload_n (pc := 83) dX11_row_83 rfl ?_
    refine V.iconst (v := 0) (pc := 84) dX11_row_84 (by decide) ?_
    refine V.putI (pc := 85) dX11_row_85 fX11_24_10 (fun r h => by cases h; exact Or.inl rfl) rfl hX.o ?_
    refine V.aload_n (pc := 88) dX11_row_88 rfl ?_
    refine V.iload_n (pc := 89) dX11_row_89 rfl ?_
    refine V.invV0 (as := [_]) (pc := 90) dX11_row_90 lX11_92 bX11_accept nX11_accept (ci := 10) rfl eX11_accept hX.o (x_accept (d := d + 3) _ hX) (by omega) rfl (Nat.le_of_ble_eq_true rfl) ?_
    rintro _ _ _ _ _ _ ⟨rfl, rfl, rfl, rfl, rfl, rfl⟩
    exact V.iret (pc := 93) dX11_row_93 rfl (by
    rw [s_row, if_neg q, ← iI_nat]
    have hcR := stk_ok hA.1 hok.1 hok.2
    have hR2 := RepX.core (c' := stkC (cor A) (rowF (stk (cor A)) (tap A))) hR hA (fun b hb => g1 b (by omega) (by omega)) g2 (fun _ _ => rfl)
    have hR3 := hR2.tape (ok_cor hA hcR) (stkC (cor A) (rowF (stk (cor A)) (tap A)), img A, [], flt A, (tap A).length - ((rowF (stk (cor A)) (tap A)).length - (stk (cor A)).length), rfs A, sts A, stm A) (I' := up2 (up2 I2 x 5 (nI ((tap A).length - ((rowF (stk (cor A)) (tap A)).length - (stk (cor A)).length)))) x 3 0) (fun b h1 h2 => by rw [up2_off h1, up2_off h1]) ⟨rfl, rfl, rfl, rfl⟩ ⟨by rw [up2_same]; rfl, by rw [up2_ne (by omega), up2_ne (by omega)]; exact hR2.1.2.1, by rw [up2_ne (by omega), up2_same], by rw [up2_ne (by omega), up2_ne (by omega)]; exact hR2.1.2.2.2⟩ (fun i t hi => by have h0 : ([] : List Nat)[i]? = some t := hi; simp at h0)
    exact QX.mk' hX (FrX.up (FrX.up (FrX.up (fun b h1 h2 => g1 b (by omega) (by omega)) (by omega)) (by omega)) (by omega)) FrX.rf (hR3.accept ⟨hcR, hA.2.1, Nat.zero_le _, fun t ht => by have h0 : t ∈ ([] : List Nat) := ht; simp at h0, hA.2.2.2.2⟩))
  · have q : (tap A).length = 0 := by
      rw [L0, nI_eq (by omega) (by omega)] at h4
      exact h4
    refine V.aload_n (pc := 7) dX11_row_7 rfl ?_
    refine V.bipush (v := (-6)) (pc := 8) dX11_row_8 (by decide) ?_
    refine V.invV0 (as := [_]) (pc := 10) dX11_row_10 lX11_85 bX11_refuse nX11_refuse (ci := 10) rfl eX11_refuse hX.o (x_refuse6 (d := d + 3) hX) (by omega) rfl (Nat.le_of_ble_eq_true rfl) ?_
    rintro _ _ _ _ _ _ ⟨rfl, rfl, rfl, rfl, rfl, rfl⟩
    exact V.iret (pc := 13) dX11_row_13 rfl (QX.no 3 (-6) (by decide) hX hA hR FrX.rf FrX.rf (by omega) (by rw [s_row, if_pos q]; rfl))
