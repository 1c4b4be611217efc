theorem kdT_w {t : Nat → Nat} {n i : Nat} (h : frT t n i < n) (h1 : isSm t (frT t n i) = true) : kdT t n i = wkd (wlr t (frT t n i) (posT t n (i + 1) - frT t n i)) ∧ nmT t n i = 0 := by
  have hn : ¬ n ≤ frT t n i := by omega
  exact ⟨by unfold kdT; rw [if_neg hn, if_pos h1], by unfold nmT; rw [if_neg hn, if_pos h1]⟩
theorem kdT_d {t : Nat → Nat} {n i : Nat} (h : frT t n i < n) (h1 : ¬ isSm t (frT t n i) = true) (h2 : isDg t (frT t n i) = true) : kdT t n i = 300 ∧ nmT t n i = dvX t (frT t n i) (posT t n (i + 1) - frT t n i) := by
  have hn : ¬ n ≤ frT t n i := by omega
  exact ⟨by unfold kdT; rw [if_neg hn, if_neg h1, if_pos h2], by unfold nmT; rw [if_neg hn, if_neg h1, if_pos h2]⟩
theorem kdT_s {t : Nat → Nat} {n i : Nat} (h : frT t n i < n) (h1 : ¬ isSm t (frT t n i) = true) (h2 : ¬ isDg t (frT t n i) = true) : kdT t n i = (t (frT t n i) : Int) ∧ nmT t n i = 0 := by
  have hn : ¬ n ≤ frT t n i := by omega
  exact ⟨by unfold kdT; rw [if_neg hn, if_neg h1, if_neg h2], by unfold nmT; rw [if_neg hn, if_neg h1, if_neg h2]⟩
theorem TkX.add {I : mI} {k N c : Nat} {tt : Nat → Nat} {x y z : Int32} (h : TkX I k tt N c) (hx : x = iI (kdT tt N c)) (hy : y = nI (nmT tt N c)) (hz : z = nI (frT tt N c)) : TkX (up2 (up2 (up2 (up2 I (k + 1) c x) (k + 3) c y) (k + 2) c z) k 3 (nI (c + 1))) k tt N (c + 1) := by
  refine ⟨up2_same, fun j hj => ?_⟩
  by_cases q : j = c
  · subst q
    rw [up2_off (by omega), up2_off (by omega), up2_off (by omega), up2_same, up2_off (by omega), up2_off (by omega), up2_same, up2_off (by omega), up2_same]
    exact ⟨hx, hy, hz⟩
  · rw [up2_off (by omega), up2_off (by omega), up2_off (by omega), up2_ne (by omega), up2_off (by omega), up2_off (by omega), up2_ne (by omega), up2_off (by omega), up2_off (by omega), up2_ne (by omega), up2_off (by omega), up2_off (by omega)]
    exact h.2 j (by omega)
theorem TkX.congr {I I' : mI} {k N c : Nat} {tt : Nat → Nat} (h : TkX I k tt N c) (h3 : I' k 3 = I k 3) (h1 : ∀ b, b ≠ k → I' b = I b) : TkX I' k tt N c := ⟨by rw [h3]; exact h.1, fun j hj => by rw [h1 _ (by omega), h1 _ (by omega), h1 _ (by omega)]; exact h.2 j hj⟩
theorem dvX_le {t : Nat → Nat} {f : Nat} : ∀ k, dvX t f k ≤ 10001
  | 0 => Nat.zero_le _
  | k + 1 => by rw [dvX]; split <;> omega
theorem byN_in {tt : Nat → Nat} {N p : Nat} (h : p < N) : byN tt N p = nI (tt p) := if_pos h
theorem scn_out {pr : Nat → Bool} {n p : Nat} (h : ¬ (p < n ∧ pr p = true)) : scn pr (n - p) p = p := by
  by_cases q : p < n
  · exact scn_n (fun z => h ⟨q, z⟩)
  · exact scn_e (by omega)
theorem l_takeW {g : gG} {d : Nat} {T : mT} {n : Nat} {I : mI} {J : mJ} {F : mF} {Q : mQ} {k a N : Nat} {tt : Nat → Nat} {p0 : Nat} (hTk : TkS T F k) (hx : TxM T I F k a N tt) (hp0 : p0 ≤ N) (kk : ∀ (I' : mI) (j : Nat), (∀ b, b ≠ k → I' b = I b) → (∀ t, t ≠ 6 → I' k t = I k t) → p0 + j = scn (isSm tt) (N - p0) p0 → I' k 6 = nI (p0 + j) → V g mX10_takeWord (d + 6) Q 0 0 44 [some (.ref k), some (.int (nI p0)), some (.int (nI j))] [] T n I' J F) : ∀ (f j : Nat) (I' : mI), N - (p0 + j) < f → p0 + j ≤ N → (∀ b, b ≠ k → I' b = I b) → (∀ t, t ≠ 6 → I' k t = I k t) → scn (isSm tt) (N - (p0 + j)) (p0 + j) = scn (isSm tt) (N - p0) p0 → I' k 6 = nI (p0 + j) → V g mX10_takeWord (d + 6) Q 0 0 7 [some (.ref k), some (.int (nI p0)), some (.int (nI j))] [] T n I' J F := by
  have hN4 : N ≤ 400 := hx.2.2.2.2.1
  have ht := hx.2.2.2.2.2.1
  intro f
  induction f with
  | zero => intro j I' h; omega
  | succ f ih =>
    intro j I' hf hp e1 e2 hs e6
    have hx2 : TxM T I' F k a N tt := TkFr.tx ⟨fun b hb => e1 b (by omega), e2 5 (by decide)⟩ hx
    refine V.iload_n (pc := 7) dX10_takeWord_7 rfl ?_
    refine V.sipush (v := 400) (pc := 8) dX10_takeWord_8 (by decide) ?_
    refine V.icmp_ge 44 (pc := 11) dX10_takeWord_11 (by decide) (fun h11 => ?_) (fun h11 => ?_)
    · rw [show (400 : Int32) = nI 400 from rfl, nI_leI (by omega) (by omega)] at h11
      exact kk I' j e1 e2 (by rw [← hs, scn_e (by omega)]) e6
    · rw [show (400 : Int32) = nI 400 from rfl, nI_leI (by omega) (by omega)] at h11
      refine V.aload_n (pc := 14) dX10_takeWord_14 rfl ?_
      refine V.aload_n (pc := 15) dX10_takeWord_15 rfl ?_
      refine V.getI (pc := 16) dX10_takeWord_16 fX10_31_9 rfl hTk.o ?_
      rw [e6]
      refine V.pV (as := [_]) (pc := 19) dX10_takeWord_19 lX10_41 bX10_byteAt nX10_byteAt (ci := 9) rfl eX10_byteAt hTk.o (x_byteAt (d := d + 5) (a := a) (N := N) (tt := tt) (p := p0 + j) _ hTk hx2 rfl (by omega)) (by omega) rfl (Nat.le_of_ble_eq_true rfl) ?_
      refine V.pS (as := [_]) (pc := 22) dX10_takeWord_22 lX10_45 bX10_isLetter sX10_isLetter (x_isLetter (d := d + 5) _) (by omega) rfl (Nat.le_of_ble_eq_true rfl) ?_
      rw [bi_c (by_sm ht)]
      refine V.if_eq 44 (pc := 25) dX10_takeWord_25 (by decide) (fun h25 => ?_) (fun h25 => ?_)
      · have z1 := bi_eq.mp h25
        exact kk I' j e1 e2 (by rw [← hs, scn_out z1]) e6
      · have z1 := bi_ne.mp h25
        refine V.aload_n (pc := 28) dX10_takeWord_28 rfl ?_
        refine V.dup (pc := 29) dX10_takeWord_29 rfl ?_
        refine V.getI (pc := 30) dX10_takeWord_30 fX10_31_9 rfl hTk.o ?_
        rw [e6]
        refine V.iconst (v := 1) (pc := 33) dX10_takeWord_33 (by decide) ?_
        refine V.iadd (pc := 34) dX10_takeWord_34 ?_
        rw [nI_1]
        refine V.putI (pc := 35) dX10_takeWord_35 fX10_31_9 (fun r h => by cases h; exact Or.inl rfl) rfl hTk.o ?_
        refine V.iinc1 (pc := 38) dX10_takeWord_38 (by decide) rfl (st1_2 rfl) ?_
        refine V.goto 7 (pc := 41) dX10_takeWord_41 (by decide) ?_
        rw [nI_1]
        exact ih (j + 1) _ (by omega) (by omega) (fun b hb => by rw [up2_off hb]; exact e1 b hb) (fun t h => by rw [up2_ne (by omega)]; exact e2 t h) (by rw [← hs, scn_y z1.1 z1.2]; rfl) (by rw [up2_same]; rfl)
theorem l_takeN {g : gG} {d : Nat} {T : mT} {n : Nat} {I : mI} {J : mJ} {F : mF} {Q : mQ} {k a N : Nat} {tt : Nat → Nat} {p0 : Nat} (hTk : TkS T F k) (hx : TxM T I F k a N tt) (hp0 : p0 ≤ N) (kk : ∀ (I' : mI) (j : Nat), (∀ b, b ≠ k → I' b = I b) → (∀ t, t ≠ 6 → I' k t = I k t) → p0 + j = scn (isDg tt) (N - p0) p0 → I' k 6 = nI (p0 + j) → V g mX10_takeNumber (d + 6) Q 0 0 69 [some (.ref k), some (.int (nI p0)), some (.int (nI (dvX tt p0 j))), some (.int (nI j))] [] T n I' J F) : ∀ (f j : Nat) (I' : mI), N - (p0 + j) < f → p0 + j ≤ N → (∀ b, b ≠ k → I' b = I b) → (∀ t, t ≠ 6 → I' k t = I k t) → scn (isDg tt) (N - (p0 + j)) (p0 + j) = scn (isDg tt) (N - p0) p0 → I' k 6 = nI (p0 + j) → V g mX10_takeNumber (d + 6) Q 0 0 9 [some (.ref k), some (.int (nI p0)), some (.int (nI (dvX tt p0 j))), some (.int (nI j))] [] T n I' J F := by
  have hN4 : N ≤ 400 := hx.2.2.2.2.1
  have ht := hx.2.2.2.2.2.1
  intro f
  induction f with
  | zero => intro j I' h; omega
  | succ f ih =>
    intro j I' hf hp e1 e2 hs e6
    have hx2 : TxM T I' F k a N tt := TkFr.tx ⟨fun b hb => e1 b (by omega), e2 5 (by decide)⟩ hx
    refine V.iload_n (pc := 9) dX10_takeNumber_9 rfl ?_
    refine V.sipush (v := 400) (pc := 10) dX10_takeNumber_10 (by decide) ?_
    refine V.icmp_ge 69 (pc := 13) dX10_takeNumber_13 (by decide) (fun h13 => ?_) (fun h13 => ?_)
    · rw [show (400 : Int32) = nI 400 from rfl, nI_leI (by omega) (by omega)] at h13
      exact kk I' j e1 e2 (by rw [← hs, scn_e (by omega)]) e6
    · rw [show (400 : Int32) = nI 400 from rfl, nI_leI (by omega) (by omega)] at h13
      refine V.aload_n (pc := 16) dX10_takeNumber_16 rfl ?_
      refine V.aload_n (pc := 17) dX10_takeNumber_17 rfl ?_
      refine V.getI (pc := 18) dX10_takeNumber_18 fX10_31_9 rfl hTk.o ?_
      rw [e6]
      refine V.pV (as := [_]) (pc := 21) dX10_takeNumber_21 lX10_41 bX10_byteAt nX10_byteAt (ci := 9) rfl eX10_byteAt hTk.o (x_byteAt (d := d + 5) (a := a) (N := N) (tt := tt) (p := p0 + j) _ hTk hx2 rfl (by omega)) (by omega) rfl (Nat.le_of_ble_eq_true rfl) ?_
      refine V.pS (as := [_]) (pc := 24) dX10_takeNumber_24 lX10_52 bX10_isDigit sX10_isDigit (x_isDigit (d := d + 5) _) (by omega) rfl (Nat.le_of_ble_eq_true rfl) ?_
      rw [bi_c (by_dg ht)]
      refine V.if_eq 69 (pc := 27) dX10_takeNumber_27 (by decide) (fun h27 => ?_) (fun h27 => ?_)
      · have z1 := bi_eq.mp h27
        exact kk I' j e1 e2 (by rw [← hs, scn_out z1]) e6
      · have z1 := bi_ne.mp h27
        have hdv := dvX_le (t := tt) (f := p0) j
        have z2 := of_decide_eq_true z1.2
        have z3 := ht (p0 + j)
        refine V.iload_n (pc := 30) dX10_takeNumber_30 rfl ?_
        refine V.bipush (v := 10) (pc := 31) dX10_takeNumber_31 (by decide) ?_
        refine V.imul (pc := 33) dX10_takeNumber_33 ?_
        rw [L10, pk_mul]
        refine V.aload_n (pc := 34) dX10_takeNumber_34 rfl ?_
        refine V.aload_n (pc := 35) dX10_takeNumber_35 rfl ?_
        refine V.getI (pc := 36) dX10_takeNumber_36 fX10_31_9 rfl hTk.o ?_
        rw [e6]
        refine V.pV (as := [_]) (pc := 39) dX10_takeNumber_39 lX10_41 bX10_byteAt nX10_byteAt (ci := 9) rfl eX10_byteAt hTk.o (x_byteAt (d := d + 5) (a := a) (N := N) (tt := tt) (p := p0 + j) _ hTk hx2 rfl (by omega)) (by omega) rfl (Nat.le_of_ble_eq_true rfl) ?_
        rw [byN_in z1.1]
        refine V.iadd (pc := 42) dX10_takeNumber_42 ?_
        rw [nI_add]
        refine V.bipush (v := 48) (pc := 43) dX10_takeNumber_43 (by decide) ?_
        refine V.isub (pc := 45) dX10_takeNumber_45 ?_
        rw [show (48 : Int32) = nI 48 from rfl, pk_sub (by omega)]
        refine V.sipush (v := 10001) (pc := 46) dX10_takeNumber_46 (by decide) ?_
        refine V.mmin (pc := 49) dX10_takeNumber_49 lX10_61 (by omega) (Nat.le_of_ble_eq_true rfl) ?_
        rw [show (if (10001 : Int32) < nI (dvX tt p0 j * 10 + tt (p0 + j) - 48) then (10001 : Int32) else nI (dvX tt p0 j * 10 + tt (p0 + j) - 48)) = nI (dvX tt p0 (j + 1)) from by rw [show (10001 : Int32) = nI 10001 from rfl, nI_min (by omega) (by omega), dvX, Nat.min_def, show dvX tt p0 j * 10 + tt (p0 + j) - 48 = dvX tt p0 j * 10 + (tt (p0 + j) - 48) by omega]]
        refine V.isn (pc := 52) dX10_takeNumber_52 (by decide) (st1_2 rfl) ?_
        refine V.aload_n (pc := 53) dX10_takeNumber_53 rfl ?_
        refine V.dup (pc := 54) dX10_takeNumber_54 rfl ?_
        refine V.getI (pc := 55) dX10_takeNumber_55 fX10_31_9 rfl hTk.o ?_
        rw [e6]
        refine V.iconst (v := 1) (pc := 58) dX10_takeNumber_58 (by decide) ?_
        refine V.iadd (pc := 59) dX10_takeNumber_59 ?_
        rw [nI_1]
        refine V.putI (pc := 60) dX10_takeNumber_60 fX10_31_9 (fun r h => by cases h; exact Or.inl rfl) rfl hTk.o ?_
        refine V.iinc1 (pc := 63) dX10_takeNumber_63 (by decide) rfl (st1_3 rfl) ?_
        refine V.goto 9 (pc := 66) dX10_takeNumber_66 (by decide) ?_
        rw [nI_1]
        exact ih (j + 1) _ (by omega) (by omega) (fun b hb => by rw [up2_off hb]; exact e1 b hb) (fun t h => by rw [up2_ne (by omega)]; exact e2 t h) (by rw [← hs, scn_y z1.1 z1.2]; rfl) (by rw [up2_same]; rfl)
theorem x_takeWord {g : gG} {d : Nat} {T : mT} {n : Nat} {I : mI} {J : mJ} {F : mF} {k a N : Nat} {tt : Nat → Nat} {c : Nat} {aK aV : Nat → Nat} (hTk : TkS T F k) (hx : TxM T I F k a N tt) (hk : TkX I k tt N c) (h6 : I k 6 = nI (frT tt N c)) (hc : c ≤ 400) (hlt : frT tt N c < N) (hst : StrG g aK aV) (hsm : isSm tt (frT tt N c) = true) : Ct g mX10_takeWord (d + 6) [.ref k] 0 0 T n I J F (fun r' T' n' I' J' F' => r' = none ∧ T' = T ∧ n' = n ∧ J' = J ∧ F' = F ∧ TkFr k I I' ∧ TkX I' k tt N (c + 1) ∧ I' k 6 = nI (posT tt N (c + 1))) := by
  refine Ct.ofV (k := 2) (by decide) (Nat.le_of_ble_eq_true rfl) ?_
  show V g mX10_takeWord (d + 6) _ 0 0 0 [some (.ref k), none, none] [] T n I J F
  refine V.aload_n (pc := 0) dX10_takeWord_0 rfl ?_
  refine V.getI (pc := 1) dX10_takeWord_1 fX10_31_9 rfl hTk.o ?_
  rw [h6]
  refine V.isn (pc := 4) dX10_takeWord_4 (by decide) (st1_1 rfl) ?_
  refine V.iconst (v := 0) (pc := 5) dX10_takeWord_5 (by decide) ?_
  refine V.isn (pc := 6) dX10_takeWord_6 (by decide) (st1_2 rfl) ?_
  refine l_takeW (p0 := frT tt N c) hTk hx (by omega) (fun I' j e1 e2 ee e6 => ?_) _ 0 I (Nat.lt_succ_self _) (by omega) (fun _ _ => rfl) (fun _ _ => rfl) rfl h6
  have hpe := posT_word hlt hsm
  rw [← ee] at hpe
  have hpl := posT_le (t := tt) (n := N) (c + 1)
  have hx2 : TxM T I' F k a N tt := TkFr.tx ⟨fun b hb => e1 b (by omega), e2 5 (by decide)⟩ hx
  refine V.aload_n (pc := 44) dX10_takeWord_44 rfl ?_
  refine V.aload_n (pc := 45) dX10_takeWord_45 rfl ?_
  refine V.iload_n (pc := 46) dX10_takeWord_46 rfl ?_
  refine V.pV (as := [_]) (pc := 47) dX10_takeWord_47 lX10_58 bX10_wordKind nX10_wordKind (ci := 9) rfl eX10_wordKind hTk.o (x_wordKind (d := d + 0) (a := a) (N := N) (tt := tt) (f := frT tt N c) (p := frT tt N c + j) _ hTk hx2 hst e6 (by omega) (by omega) rfl) (by omega) rfl (Nat.le_of_ble_eq_true rfl) ?_
  refine V.iconst (v := 0) (pc := 50) dX10_takeWord_50 (by decide) ?_
  refine V.iload_n (pc := 51) dX10_takeWord_51 rfl ?_
  refine V.invV0 (as := [_, _, _]) (pc := 52) dX10_takeWord_52 lX10_37 bX10_add nX10_add (ci := 9) rfl eX10_add hTk.o (x_add (d := d + 5) (c := c) _ _ _ hTk hc (by rw [e2 3 (by decide)]; exact hk.1)) (by omega) rfl (Nat.le_of_ble_eq_true rfl) ?_
  rintro _ _ _ _ _ _ ⟨rfl, rfl, rfl, rfl, rfl, rfl⟩
  exact V.vret (pc := 55) dX10_takeWord_55 rfl ⟨rfl, rfl, rfl, rfl, rfl, ((((TkFr.up (TkFr.up (TkFr.up (TkFr.up ⟨fun b hb => e1 b (by omega), e2 5 (by decide)⟩ (by omega)) (by omega)) (by omega)) (by omega))))), TkX.add (hk.congr (e2 3 (by decide)) e1) (by rw [(kdT_w hlt hsm).1, hpe]) (by rw [(kdT_w hlt hsm).2]; rfl) rfl, by rw [up2_ne (by omega), up2_off (by omega), up2_off (by omega), up2_off (by omega), e6, hpe]⟩
theorem x_takeNumber {g : gG} {d : Nat} {T : mT} {n : Nat} {I : mI} {J : mJ} {F : mF} {k a N : Nat} {tt : Nat → Nat} {c : Nat} (hTk : TkS T F k) (hx : TxM T I F k a N tt) (hk : TkX I k tt N c) (h6 : I k 6 = nI (frT tt N c)) (hc : c ≤ 400) (hlt : frT tt N c < N) (hsm : ¬ isSm tt (frT tt N c) = true) (hdg : isDg tt (frT tt N c) = true) : Ct g mX10_takeNumber (d + 6) [.ref k] 0 0 T n I J F (fun r' T' n' I' J' F' => r' = none ∧ T' = T ∧ n' = n ∧ J' = J ∧ F' = F ∧ TkFr k I I' ∧ TkX I' k tt N (c + 1) ∧ I' k 6 = nI (posT tt N (c + 1))) := by
  refine Ct.ofV (k := 3) (by decide) (Nat.le_of_ble_eq_true rfl) ?_
  show V g mX10_takeNumber (d + 6) _ 0 0 0 [some (.ref k), none, none, none] [] T n I J F
  refine V.aload_n (pc := 0) dX10_takeNumber_0 rfl ?_
  refine V.getI (pc := 1) dX10_takeNumber_1 fX10_31_9 rfl hTk.o ?_
  rw [h6]
  refine V.isn (pc := 4) dX10_takeNumber_4 (by decide) (st1_1 rfl) ?_
  refine V.iconst (v := 0) (pc := 5) dX10_takeNumber_5 (by decide) ?_
  refine V.isn (pc := 6) dX10_takeNumber_6 (by decide) (st1_2 rfl) ?_
  refine V.iconst (v := 0) (pc := 7) dX10_takeNumber_7 (by decide) ?_
  refine V.isn (pc := 8) dX10_takeNumber_8 (by decide) (st1_3 rfl) ?_
  refine l_takeN (p0 := frT tt N c) hTk hx (by omega) (fun I' j e1 e2 ee e6 => ?_) _ 0 I (Nat.lt_succ_self _) (by omega) (fun _ _ => rfl) (fun _ _ => rfl) rfl h6
  have hpe := posT_num hlt hsm hdg
  rw [← ee] at hpe
  have hpl := posT_le (t := tt) (n := N) (c + 1)
  have hx2 : TxM T I' F k a N tt := TkFr.tx ⟨fun b hb => e1 b (by omega), e2 5 (by decide)⟩ hx
  refine V.aload_n (pc := 69) dX10_takeNumber_69 rfl ?_
  refine V.sipush (v := 300) (pc := 70) dX10_takeNumber_70 (by decide) ?_
  refine V.iload_n (pc := 73) dX10_takeNumber_73 rfl ?_
  refine V.iload_n (pc := 74) dX10_takeNumber_74 rfl ?_
  refine V.invV0 (as := [_, _, _]) (pc := 75) dX10_takeNumber_75 lX10_37 bX10_add nX10_add (ci := 9) rfl eX10_add hTk.o (x_add (d := d + 5) (c := c) _ _ _ hTk hc (by rw [e2 3 (by decide)]; exact hk.1)) (by omega) rfl (Nat.le_of_ble_eq_true rfl) ?_
  rintro _ _ _ _ _ _ ⟨rfl, rfl, rfl, rfl, rfl, rfl⟩
  exact V.vret (pc := 78) dX10_takeNumber_78 rfl ⟨rfl, rfl, rfl, rfl, rfl, ((((TkFr.up (TkFr.up (TkFr.up (TkFr.up ⟨fun b hb => e1 b (by omega), e2 5 (by decide)⟩ (by omega)) (by omega)) (by omega)) (by omega))))), TkX.add (hk.congr (e2 3 (by decide)) e1) (by rw [(kdT_d hlt hsm hdg).1]; rfl) (by rw [(kdT_d hlt hsm hdg).2, hpe, Nat.add_sub_cancel_left]) rfl, by rw [up2_ne (by omega), up2_off (by omega), up2_off (by omega), up2_off (by omega), e6, hpe]⟩
theorem x_takeOne {g : gG} {d : Nat} {T : mT} {n : Nat} {I : mI} {J : mJ} {F : mF} {k a N : Nat} {tt : Nat → Nat} {c p : Nat} {aK aV : Nat → Nat} (hTk : TkS T F k) (hx : TxM T I F k a N tt) (hst : StrG g aK aV) (hk : TkX I k tt N c) (h6 : I k 6 = nI p) (hc : c ≤ p) (hpN : p < N) (hs : skp tt N p = frT tt N c) (hall : ∀ j, j < c → frT tt N j < N) : Ct g mX10_takeOne (d + 7) [.ref k] 0 0 T n I J F (fun r' T' n' I' J' F' => r' = none ∧ T' = T ∧ n' = n ∧ J' = J ∧ F' = F ∧ TkFr k I I' ∧ ∃ c' p', TkX I' k tt N c' ∧ I' k 6 = nI p' ∧ p < p' ∧ p' ≤ N ∧ c' ≤ p' ∧ skp tt N p' = frT tt N c' ∧ ∀ j, j < c' → frT tt N j < N) := by
  refine Ct.ofV (k := 1) (by decide) (Nat.le_of_ble_eq_true rfl) ?_
  show V g mX10_takeOne (d + 7) _ 0 0 0 [some (.ref k), none] [] T n I J F
  have hN4 : N ≤ 400 := hx.2.2.2.2.1
  have ht := hx.2.2.2.2.2.1
  have hx2 := hx
  have hps := posT_s (t := tt) (n := N) c
  have hpl := posT_le (t := tt) (n := N) (c + 1)
  by_cases qs : isSm tt p = true
  · have hfr : frT tt N c = p := by rw [← hs]; unfold skp; exact scn_n (fun z => by have z1 := of_decide_eq_true z; have z2 := of_decide_eq_true qs; omega)
    refine V.aload_n (pc := 0) dX10_takeOne_0 rfl ?_
    refine V.aload_n (pc := 1) dX10_takeOne_1 rfl ?_
    refine V.getI (pc := 2) dX10_takeOne_2 fX10_31_9 rfl hTk.o ?_
    rw [h6]
    refine V.pV (as := [_]) (pc := 5) dX10_takeOne_5 lX10_41 bX10_byteAt nX10_byteAt (ci := 9) rfl eX10_byteAt hTk.o (x_byteAt (d := d + 6) (a := a) (N := N) (tt := tt) (p := p) _ hTk hx2 rfl (by omega)) (by omega) rfl (Nat.le_of_ble_eq_true rfl) ?_
    rw [byN_in hpN]
    refine V.isn (pc := 8) dX10_takeOne_8 (by decide) (st1_1 rfl) ?_
    refine V.iload_n (pc := 9) dX10_takeOne_9 rfl ?_
    refine V.pS (as := [_]) (pc := 10) dX10_takeOne_10 lX10_45 bX10_isLetter sX10_isLetter (x_isLetter (d := d + 6) _) (by omega) rfl (Nat.le_of_ble_eq_true rfl) ?_
    rw [bi_c (sm_iff (ht p)), bi_t qs]
    refine V.if_eq 23 (pc := 13) dX10_takeOne_13 (by decide) (fun h13 => absurd h13 (by decide)) (fun h13 => ?_)
    refine V.aload_n (pc := 16) dX10_takeOne_16 rfl ?_
    refine V.invV0 (as := []) (pc := 17) dX10_takeOne_17 lX10_49 bX10_takeWord nX10_takeWord (ci := 9) rfl eX10_takeWord hTk.o (x_takeWord (d := d + 0) (a := a) (N := N) (tt := tt) (c := c) hTk hx hk (by rw [hfr]; exact h6) (by omega) (by omega) hst (by rw [hfr]; exact qs)) (by omega) rfl (Nat.le_of_ble_eq_true rfl) ?_
    rintro _ _ _ I1 _ _ ⟨rfl, rfl, rfl, rfl, rfl, f1, k1, e61⟩
    refine V.goto 63 (pc := 20) dX10_takeOne_20 (by decide) ?_
    exact V.vret (pc := 63) dX10_takeOne_63 rfl ⟨rfl, rfl, rfl, rfl, rfl, f1, c + 1, posT tt N (c + 1), k1, e61, by have := hps.2 (by omega); omega, hpl, by have := hps.2 (by omega); omega, rfl, fun j hj => (by by_cases z : j = c; rw [z]; omega; exact hall j (by omega))⟩
  · by_cases qd : isDg tt p = true
    · have hfr : frT tt N c = p := by rw [← hs]; unfold skp; exact scn_n (fun z => by have z1 := of_decide_eq_true z; have z2 := of_decide_eq_true qd; omega)
      refine V.aload_n (pc := 0) dX10_takeOne_0 rfl ?_
      refine V.aload_n (pc := 1) dX10_takeOne_1 rfl ?_
      refine V.getI (pc := 2) dX10_takeOne_2 fX10_31_9 rfl hTk.o ?_
      rw [h6]
      refine V.pV (as := [_]) (pc := 5) dX10_takeOne_5 lX10_41 bX10_byteAt nX10_byteAt (ci := 9) rfl eX10_byteAt hTk.o (x_byteAt (d := d + 6) (a := a) (N := N) (tt := tt) (p := p) _ hTk hx2 rfl (by omega)) (by omega) rfl (Nat.le_of_ble_eq_true rfl) ?_
      rw [byN_in hpN]
      refine V.isn (pc := 8) dX10_takeOne_8 (by decide) (st1_1 rfl) ?_
      refine V.iload_n (pc := 9) dX10_takeOne_9 rfl ?_
      refine V.pS (as := [_]) (pc := 10) dX10_takeOne_10 lX10_45 bX10_isLetter sX10_isLetter (x_isLetter (d := d + 6) _) (by omega) rfl (Nat.le_of_ble_eq_true rfl) ?_
      rw [bi_c (sm_iff (ht p)), bi_f qs]
      refine V.if_eq 23 (pc := 13) dX10_takeOne_13 (by decide) (fun h13 => ?_) (fun h13 => absurd rfl h13)
      refine V.iload_n (pc := 23) dX10_takeOne_23 rfl ?_
      refine V.pS (as := [_]) (pc := 24) dX10_takeOne_24 lX10_52 bX10_isDigit sX10_isDigit (x_isDigit (d := d + 6) _) (by omega) rfl (Nat.le_of_ble_eq_true rfl) ?_
      rw [bi_c (dg_iff (ht p)), bi_t qd]
      refine V.if_eq 37 (pc := 27) dX10_takeOne_27 (by decide) (fun h27 => absurd h27 (by decide)) (fun h27 => ?_)
      refine V.aload_n (pc := 30) dX10_takeOne_30 rfl ?_
      refine V.invV0 (as := []) (pc := 31) dX10_takeOne_31 lX10_55 bX10_takeNumber nX10_takeNumber (ci := 9) rfl eX10_takeNumber hTk.o (x_takeNumber (d := d + 0) (a := a) (N := N) (tt := tt) (c := c) hTk hx hk (by rw [hfr]; exact h6) (by omega) (by omega) (by rw [hfr]; exact qs) (by rw [hfr]; exact qd)) (by omega) rfl (Nat.le_of_ble_eq_true rfl) ?_
      rintro _ _ _ I1 _ _ ⟨rfl, rfl, rfl, rfl, rfl, f1, k1, e61⟩
      refine V.goto 63 (pc := 34) dX10_takeOne_34 (by decide) ?_
      exact V.vret (pc := 63) dX10_takeOne_63 rfl ⟨rfl, rfl, rfl, rfl, rfl, f1, c + 1, posT tt N (c + 1), k1, e61, by have := hps.2 (by omega); omega, hpl, by have := hps.2 (by omega); omega, rfl, fun j hj => (by by_cases z : j = c; rw [z]; omega; exact hall j (by omega))⟩
    · by_cases qb : tt p = 32
      · refine V.aload_n (pc := 0) dX10_takeOne_0 rfl ?_
        refine V.aload_n (pc := 1) dX10_takeOne_1 rfl ?_
        refine V.getI (pc := 2) dX10_takeOne_2 fX10_31_9 rfl hTk.o ?_
        rw [h6]
        refine V.pV (as := [_]) (pc := 5) dX10_takeOne_5 lX10_41 bX10_byteAt nX10_byteAt (ci := 9) rfl eX10_byteAt hTk.o (x_byteAt (d := d + 6) (a := a) (N := N) (tt := tt) (p := p) _ hTk hx2 rfl (by omega)) (by omega) rfl (Nat.le_of_ble_eq_true rfl) ?_
        rw [byN_in hpN]
        refine V.isn (pc := 8) dX10_takeOne_8 (by decide) (st1_1 rfl) ?_
        refine V.iload_n (pc := 9) dX10_takeOne_9 rfl ?_
        refine V.pS (as := [_]) (pc := 10) dX10_takeOne_10 lX10_45 bX10_isLetter sX10_isLetter (x_isLetter (d := d + 6) _) (by omega) rfl (Nat.le_of_ble_eq_true rfl) ?_
        rw [bi_c (sm_iff (ht p)), bi_f qs]
        refine V.if_eq 23 (pc := 13) dX10_takeOne_13 (by decide) (fun h13 => ?_) (fun h13 => absurd rfl h13)
        refine V.iload_n (pc := 23) dX10_takeOne_23 rfl ?_
        refine V.pS (as := [_]) (pc := 24) dX10_takeOne_24 lX10_52 bX10_isDigit sX10_isDigit (x_isDigit (d := d + 6) _) (by omega) rfl (Nat.le_of_ble_eq_true rfl) ?_
        rw [bi_c (dg_iff (ht p)), bi_f qd]
        refine V.if_eq 37 (pc := 27) dX10_takeOne_27 (by decide) (fun h27 => ?_) (fun h27 => absurd rfl h27)
        refine V.iload_n (pc := 37) dX10_takeOne_37 rfl ?_
        refine V.bipush (v := 32) (pc := 38) dX10_takeOne_38 (by decide) ?_
        refine V.icmp_eq 53 (pc := 40) dX10_takeOne_40 (by decide) (fun h40 => ?_) (fun h40 => absurd (by rw [qb]; rfl) h40)
        refine V.aload_n (pc := 53) dX10_takeOne_53 rfl ?_
        refine V.dup (pc := 54) dX10_takeOne_54 rfl ?_
        refine V.getI (pc := 55) dX10_takeOne_55 fX10_31_9 rfl hTk.o ?_
        rw [h6]
        refine V.iconst (v := 1) (pc := 58) dX10_takeOne_58 (by decide) ?_
        refine V.iadd (pc := 59) dX10_takeOne_59 ?_
        rw [nI_1]
        refine V.putI (pc := 60) dX10_takeOne_60 fX10_31_9 (fun r h => by cases h; exact Or.inl rfl) rfl hTk.o ?_
        exact V.vret (pc := 63) dX10_takeOne_63 rfl ⟨rfl, rfl, rfl, rfl, rfl, TkFr.rf.up (by omega), c, p + 1, hk.congr (up2_ne (by omega)) (fun b hb => up2_off hb), up2_same, by omega, by omega, by omega, by rw [← hs]; unfold skp; exact (scn_y hpN (decide_eq_true qb)).symm, hall⟩
      · have hfr : frT tt N c = p := by rw [← hs]; unfold skp; exact scn_n (fun z => qb (of_decide_eq_true z))
        refine V.aload_n (pc := 0) dX10_takeOne_0 rfl ?_
        refine V.aload_n (pc := 1) dX10_takeOne_1 rfl ?_
        refine V.getI (pc := 2) dX10_takeOne_2 fX10_31_9 rfl hTk.o ?_
        rw [h6]
        refine V.pV (as := [_]) (pc := 5) dX10_takeOne_5 lX10_41 bX10_byteAt nX10_byteAt (ci := 9) rfl eX10_byteAt hTk.o (x_byteAt (d := d + 6) (a := a) (N := N) (tt := tt) (p := p) _ hTk hx2 rfl (by omega)) (by omega) rfl (Nat.le_of_ble_eq_true rfl) ?_
        rw [byN_in hpN]
        refine V.isn (pc := 8) dX10_takeOne_8 (by decide) (st1_1 rfl) ?_
        refine V.iload_n (pc := 9) dX10_takeOne_9 rfl ?_
        refine V.pS (as := [_]) (pc := 10) dX10_takeOne_10 lX10_45 bX10_isLetter sX10_isLetter (x_isLetter (d := d + 6) _) (by omega) rfl (Nat.le_of_ble_eq_true rfl) ?_
        rw [bi_c (sm_iff (ht p)), bi_f qs]
        refine V.if_eq 23 (pc := 13) dX10_takeOne_13 (by decide) (fun h13 => ?_) (fun h13 => absurd rfl h13)
        refine V.iload_n (pc := 23) dX10_takeOne_23 rfl ?_
        refine V.pS (as := [_]) (pc := 24) dX10_takeOne_24 lX10_52 bX10_isDigit sX10_isDigit (x_isDigit (d := d + 6) _) (by omega) rfl (Nat.le_of_ble_eq_true rfl) ?_
        rw [bi_c (dg_iff (ht p)), bi_f qd]
        refine V.if_eq 37 (pc := 27) dX10_takeOne_27 (by decide) (fun h27 => ?_) (fun h27 => absurd rfl h27)
        refine V.iload_n (pc := 37) dX10_takeOne_37 rfl ?_
        refine V.bipush (v := 32) (pc := 38) dX10_takeOne_38 (by decide) ?_
        refine V.icmp_eq 53 (pc := 40) dX10_takeOne_40 (by decide) (fun h40 => absurd ((nI_eq (a := tt p) (b := 32) (by have := ht p; omega) (by decide)).mp h40) qb) (fun h40 => ?_)
        refine V.aload_n (pc := 43) dX10_takeOne_43 rfl ?_
        refine V.iload_n (pc := 44) dX10_takeOne_44 rfl ?_
        refine V.iconst (v := 0) (pc := 45) dX10_takeOne_45 (by decide) ?_
        refine V.aload_n (pc := 46) dX10_takeOne_46 rfl ?_
        refine V.getI (pc := 47) dX10_takeOne_47 fX10_31_9 rfl hTk.o ?_
        rw [h6]
        refine V.invV0 (as := [_, _, _]) (pc := 50) dX10_takeOne_50 lX10_37 bX10_add nX10_add (ci := 9) rfl eX10_add hTk.o (x_add (d := d + 6) (c := c) _ _ _ hTk (by omega) hk.1) (by omega) rfl (Nat.le_of_ble_eq_true rfl) ?_
        rintro _ _ _ _ _ _ ⟨rfl, rfl, rfl, rfl, rfl, rfl⟩
        refine V.aload_n (pc := 53) dX10_takeOne_53 rfl ?_
        refine V.dup (pc := 54) dX10_takeOne_54 rfl ?_
        refine V.getI (pc := 55) dX10_takeOne_55 fX10_31_9 rfl hTk.o ?_
        rw [up2_ne (by omega), up2_off (by omega), up2_off (by omega), up2_off (by omega), h6]
        refine V.iconst (v := 1) (pc := 58) dX10_takeOne_58 (by decide) ?_
        refine V.iadd (pc := 59) dX10_takeOne_59 ?_
        rw [nI_1]
        refine V.putI (pc := 60) dX10_takeOne_60 fX10_31_9 (fun r h => by cases h; exact Or.inl rfl) rfl hTk.o ?_
        exact V.vret (pc := 63) dX10_takeOne_63 rfl ⟨rfl, rfl, rfl, rfl, rfl, ((((TkFr.rf.up (by omega)).up (by omega)).up (by omega)).up (by omega)).up (by omega), c + 1, posT tt N (c + 1), (hk.add (by rw [(kdT_s (by omega) (by rw [hfr]; exact qs) (by rw [hfr]; exact qd)).1, hfr, iI_nat]) (by rw [(kdT_s (by omega) (by rw [hfr]; exact qs) (by rw [hfr]; exact qd)).2]; rfl) (by rw [hfr])).congr (up2_ne (by omega)) (fun b hb => up2_off hb), by rw [up2_same, posT_sign (by omega) (by rw [hfr]; exact qs) (by rw [hfr]; exact qd), hfr], by have := hps.2 (by omega); omega, hpl, by have := hps.2 (by omega); omega, rfl, fun j hj => (by by_cases z : j = c; rw [z]; omega; exact hall j (by omega))⟩
theorem l_takeAll {g : gG} {d : Nat} {T : mT} {n : Nat} {I : mI} {J : mJ} {F : mF} {Q : mQ} {k a N : Nat} {tt : Nat → Nat} {aK aV : Nat → Nat} (hTk : TkS T F k) (hx : TxM T I F k a N tt) (hst : StrG g aK aV) (kk : ∀ I' : mI, TkFr k I I' → TkX I' k tt N (tkN tt N) → ∀ j : Nat, V g mX10_takeAll (d + 8) Q 0 0 50 [some (.ref k), some (.ref a), some (.int (nI N)), some (.int (nI j))] [] T n I' J F) : ∀ (f j c p : Nat) (I' : mI), N - p < f → j ≤ p → TkFr k I I' → TkX I' k tt N c → I' k 6 = nI p → c ≤ p → p ≤ N → skp tt N p = frT tt N c → (∀ j, j < c → frT tt N j < N) → V g mX10_takeAll (d + 8) Q 0 0 22 [some (.ref k), some (.ref a), some (.int (nI N)), some (.int (nI j))] [] T n I' J F := by
  have hN4 : N ≤ 400 := hx.2.2.2.2.1
  intro f
  induction f with
  | zero => intro j c p I' h; omega
  | succ f ih =>
    intro j c p I' hf hj hfr hk h6 hc hp hs hall
    have hx2 := hfr.tx hx
    have e5 : I' k 5 = nI N := hx2.2.2.2.1
    have hend : N ≤ p → c = tkN tt N := by
      intro z
      have hfe : frT tt N c = N := by rw [← hs]; unfold skp; rw [scn_e z]; omega
      rcases Nat.lt_trichotomy c (tkN tt N) with w | w | w
      · have := tkN_lt w; omega
      · exact w
      · have := hall _ w; have := tkN_end (t := tt) (n := N); omega
    refine V.iload_n (pc := 22) dX10_takeAll_22 rfl ?_
    refine V.sipush (v := 400) (pc := 23) dX10_takeAll_23 (by decide) ?_
    refine V.icmp_ge 50 (pc := 26) dX10_takeAll_26 (by decide) (fun h26 => ?_) (fun h26 => ?_)
    · rw [show (400 : Int32) = nI 400 from rfl, nI_leI (by omega) (by omega)] at h26
      exact kk I' hfr (hend (by omega) ▸ hk) j
    · rw [show (400 : Int32) = nI 400 from rfl, nI_leI (by omega) (by omega)] at h26
      refine V.aload_n (pc := 29) dX10_takeAll_29 rfl ?_
      refine V.getI (pc := 30) dX10_takeAll_30 fX10_31_9 rfl hTk.o ?_
      rw [h6]
      refine V.aload_n (pc := 33) dX10_takeAll_33 rfl ?_
      refine V.getI (pc := 34) dX10_takeAll_34 fX10_28_9 rfl hTk.o ?_
      rw [e5]
      refine V.icmp_ge 50 (pc := 37) dX10_takeAll_37 (by decide) (fun h37 => ?_) (fun h37 => ?_)
      · rw [nI_leI (by omega) (by omega)] at h37
        exact kk I' hfr (hend (by omega) ▸ hk) j
      · rw [nI_leI (by omega) (by omega)] at h37
        refine V.aload_n (pc := 40) dX10_takeAll_40 rfl ?_
        refine V.invV0 (as := []) (pc := 41) dX10_takeAll_41 lX10_34 bX10_takeOne nX10_takeOne (ci := 9) rfl eX10_takeOne hTk.o (x_takeOne (d := d + 0) (a := a) (N := N) (tt := tt) (c := c) (p := p) hTk hx2 hst hk h6 hc (by omega) hs hall) (by omega) rfl (Nat.le_of_ble_eq_true rfl) ?_
        rintro _ _ _ I1 _ _ ⟨rfl, rfl, rfl, rfl, rfl, f1, c1, p1, k1, e61, g1, g2, g3, g4, g5⟩
        refine V.iinc1 (pc := 44) dX10_takeAll_44 (by decide) rfl (st1_3 rfl) ?_
        refine V.goto 22 (pc := 47) dX10_takeAll_47 (by decide) ?_
        rw [nI_1]
        exact ih (j + 1) c1 p1 I1 (by omega) (by omega) (hfr.tr f1) k1 e61 g3 g2 g4 g5
theorem x_takeAll {g : gG} {d : Nat} {T : mT} {n : Nat} {I : mI} {J : mJ} {F : mF} {k a N : Nat} {tt : Nat → Nat} {aK aV : Nat → Nat} (x : Int32) (hTk : TkS T F k) (hst : StrG g aK aV) (ha : T a = some (.inr (.int, 400))) (hak : a < k ∨ k + 3 < a) (hN : N ≤ 400) (ht : ∀ i, tt i ≤ 255) (hI : ∀ i, i < N → I a i = nI (tt i)) (hxN : x = nI N) : Ct g mX10_takeAll (d + 8) [.ref k, .ref a, .int x] 0 0 T n I J F (fun r' T' n' I' J' F' => r' = none ∧ T' = T ∧ n' = n ∧ J' = J ∧ F' = up2 F k 4 (some a) ∧ (∀ b, b < k ∨ k + 3 < b → I' b = I b) ∧ TkX I' k tt N (tkN tt N + 1)) := by
  refine Ct.ofV (k := 1) (by decide) (Nat.le_of_ble_eq_true rfl) ?_
  show V g mX10_takeAll (d + 8) _ 0 0 0 [some (.ref k), some (.ref a), some (.int x), none] [] T n I J F
  subst hxN
  refine V.aload_n (pc := 0) dX10_takeAll_0 rfl ?_
  refine V.aload_n (pc := 1) dX10_takeAll_1 rfl ?_
  refine V.putR (b := (some _)) (pc := 2) dX10_takeAll_2 fX10_25_9 (fun r h => by cases h; exact Or.inl rfl) rfl hTk.o ?_
  refine V.aload_n (pc := 5) dX10_takeAll_5 rfl ?_
  refine V.iload_n (pc := 6) dX10_takeAll_6 rfl ?_
  refine V.putI (pc := 7) dX10_takeAll_7 fX10_28_9 (fun r h => by cases h; exact Or.inl rfl) rfl hTk.o ?_
  refine V.aload_n (pc := 10) dX10_takeAll_10 rfl ?_
  refine V.iconst (v := 0) (pc := 11) dX10_takeAll_11 (by decide) ?_
  refine V.putI (pc := 12) dX10_takeAll_12 fX10_31_9 (fun r h => by cases h; exact Or.inl rfl) rfl hTk.o ?_
  refine V.aload_n (pc := 15) dX10_takeAll_15 rfl ?_
  refine V.iconst (v := 0) (pc := 16) dX10_takeAll_16 (by decide) ?_
  refine V.putI (pc := 17) dX10_takeAll_17 fX10_21_9 (fun r h => by cases h; exact Or.inl rfl) rfl hTk.o ?_
  refine V.iconst (v := 0) (pc := 20) dX10_takeAll_20 (by decide) ?_
  refine V.isn (pc := 21) dX10_takeAll_21 (by decide) (st1_3 rfl) ?_
  have hTk2 : TkS T (up2 F k 4 (some a)) k := ⟨hTk.1, ⟨by rw [up2_ne (by omega)]; exact hTk.f0, hTk.t0⟩, ⟨by rw [up2_ne (by omega)]; exact hTk.f1, hTk.t1⟩, by rw [up2_ne (by omega)]; exact hTk.f2, hTk.t2⟩
  have hx : TxM T (up2 (up2 (up2 I k 5 (nI N)) k 6 0) k 3 0) (up2 F k 4 (some a)) k a N tt := ⟨up2_same, ha, hak, by rw [up2_ne (by omega), up2_ne (by omega), up2_same], hN, ht, fun i hi => by rw [up2_off (by omega), up2_off (by omega), up2_off (by omega)]; exact hI i hi⟩
  refine l_takeAll hTk2 hx hst (fun I' f1 k1 j => ?_) _ 0 0 0 _ (Nat.lt_succ_self _) (Nat.le_refl _) TkFr.rf ⟨up2_same, fun j hj => absurd hj (Nat.not_lt_zero j)⟩ (by rw [up2_ne (by omega), up2_same]; rfl) (Nat.le_refl _) (Nat.zero_le _) rfl (fun j hj => absurd hj (Nat.not_lt_zero j))
  have hN4 := tkN_le (t := tt) (n := N)
  have e5 : I' k 5 = nI N := (f1.tx hx).2.2.2.1
  refine V.aload_n (pc := 50) dX10_takeAll_50 rfl ?_
  refine V.iconst (v := (-1)) (pc := 51) dX10_takeAll_51 (by decide) ?_
  refine V.iconst (v := 0) (pc := 52) dX10_takeAll_52 (by decide) ?_
  refine V.aload_n (pc := 53) dX10_takeAll_53 rfl ?_
  refine V.getI (pc := 54) dX10_takeAll_54 fX10_28_9 rfl hTk.o ?_
  rw [e5]
  refine V.invV0 (as := [_, _, _]) (pc := 57) dX10_takeAll_57 lX10_37 bX10_add nX10_add (ci := 9) rfl eX10_add hTk.o (x_add (d := d + 7) (c := tkN tt N) _ _ _ hTk2 (by omega) k1.1) (by omega) rfl (Nat.le_of_ble_eq_true rfl) ?_
  rintro _ _ _ _ _ _ ⟨rfl, rfl, rfl, rfl, rfl, rfl⟩
  exact V.vret (pc := 60) dX10_takeAll_60 rfl ⟨rfl, rfl, rfl, rfl, rfl, fun b hb => by rw [up2_off (by omega), up2_off (by omega), up2_off (by omega), up2_off (by omega), f1.1 b hb, up2_off (by omega), up2_off (by omega), up2_off (by omega)], k1.add (by rw [kdT_end tkN_end]; rfl) (by rw [nm_other (by rw [kdT_end tkN_end]; decide)]; rfl) (by rw [tkN_end])⟩
