-- the class's sight search
def IRx (ds : List Sg) (mk oo : Nat) (I : mI) (J : mJ) (b : ISt) (I' : mI) (J' : mJ) : Prop := (∀ a, (a < oo ∨ oo + 4 < a) → I' a = I a) ∧ J' = J ∧ I' oo 3 = nI mk ∧ I' oo 4 = nI ds.length ∧ (∀ (i : Nat) (s : Sg), ds[i]? = some s → I' (oo + 3) i = nI s.2.1 ∧ I' (oo + 4) i = nI s.2.2) ∧ I' oo 7 = nI b.1 ∧ KBm oo I' b.2
theorem IRx.tried {ds : List Sg} {mk oo k : Nat} {I I' : mI} {J J' : mJ} {b : ISt} {v : Int32} (h : IRx ds mk oo I J b I' J') : IRx ds mk oo I J b (up2 I' (oo + 1) k v) J' := by
  obtain ⟨h1, h2, h3, h4, h5, h6, ⟨h7, h8⟩, h9⟩ := h
  exact ⟨fun a ha => by rw [up2_off (by omega)]; exact h1 a ha, h2, by rw [up2_off (by omega)]; exact h3, by rw [up2_off (by omega)]; exact h4, fun i s hi => by rw [up2_off (by omega), up2_off (by omega)]; exact h5 i s hi, by rw [up2_off (by omega)]; exact h6, ⟨by rw [up2_off (by omega)]; exact h7, fun z => by rw [up2_off (by omega), up2_off (by omega)]; exact h8 z⟩, h9⟩
theorem istW_y {w : Nat} {ss : List Sg} {h mk N c : Nat} {s : List Nat} {b : ISt} {O : Int} (e : insO ss h mk s N c = O) (hO : O ≠ -1) : istepW w ss h mk s N c b = (b.1 + w * (if O = (mk : Int) then mk else 1), kstp N (insK mk O) c b.2) := by
  unfold istepW kap istp2 kstp
  rw [e, if_neg hO, if_neg hO]
theorem istW_n {w : Nat} {ss : List Sg} {h mk N c : Nat} {s : List Nat} {b : ISt} (e : insO ss h mk s N c = -1) : istepW w ss h mk s N c b = b := by
  unfold istepW kap istp2
  rw [e, if_pos rfl, if_pos rfl]
  rfl
theorem IRx.kib {ds : List Sg} {mk oo k : Nat} {I I' I2 : mI} {J J' : mJ} {b : ISt} {e : Nat × Nat × Nat} {v : Int32} (h : IRx ds mk oo I J b I' J') (hk : v = nI k) (g1 : ∀ a, a ≠ oo → a ≠ oo + 2 → I2 a = up2 I' oo 7 v a) (g2 : ∀ k, k ≠ 2 → k ≠ 8 → I2 oo k = up2 I' oo 7 v oo k) (g3 : KBm oo I2 e) : IRx ds mk oo I J (k, e) I2 J' := by
  obtain ⟨h1, h2, h3, h4, h5, h6, h7⟩ := h
  refine ⟨fun a ha => by rw [g1 a (by omega) (by omega), up2_off (by omega)]; exact h1 a ha, h2, by rw [g2 3 (by omega) (by omega), up2_ne (by omega)]; exact h3, by rw [g2 4 (by omega) (by omega), up2_ne (by omega)]; exact h4, fun i s hi => by rw [g1 _ (by omega) (by omega), g1 (oo + 4) (by omega) (by omega), up2_off (by omega), up2_off (by omega)]; exact h5 i s hi, by rw [g2 7 (by omega) (by omega), up2_same, hk], g3⟩
theorem KBm.put7 {oo : Nat} {I : mI} {e : Nat × Nat × Nat} {v : Int32} (h : KBm oo I e) : KBm oo (up2 I oo 7 v) e := by
  obtain ⟨⟨h7, h8⟩, h9⟩ := h
  exact ⟨⟨by rw [up2_ne (by omega)]; exact h7, fun z => by rw [up2_ne (by omega), up2_off (by omega)]; exact h8 z⟩, h9⟩
theorem l_w7 {g : gG} {d : Nat} {T : mT} {n : Nat} {I : mI} {J : mJ} {F : mF} {Q : mQ} {oo mk h N c : Nat} {s : List Nat} {ss : List Sg} {I0 : mI} {J0 : mJ} {b : ISt} {s0 : Sg} {v5 v6 : Int32} (hSs : SgS T F oo) (hN : N = 2 ∨ N = 4) (hs : StkOK s) (hv : vld s.length N c = true) (hm : 0 < mk ∧ mk ≤ 400) (hds : (sgH ss h).length ≤ 10 ∧ ∀ t ∈ sgH ss h, t.2.1 ≤ 1000000 ∧ t.2.2 < mk) (hr : IRx (sgH ss h) mk oo I0 J0 b I J) (e0 : (sgH ss h)[0]? = some s0) (kk : (∀ t ∈ (sgH ss h), (obD (drvN s N c) (drnN s N c) mk t) = (obD (drvN s N c) (drnN s N c) mk s0)) → V g mX7_weigh (d + 3) Q 0 0 72 [some (.ref oo), some (.long (lN (drvN s N c))), none, some (.long (lN (drnN s N c))), none, some (.int v5), some (.int v6), some (.int (nI (obD (drvN s N c) (drnN s N c) mk s0))), some (.int (nI (sgH ss h).length))] [] T n I J F) (kr : ∀ t ∈ (sgH ss h), (obD (drvN s N c) (drnN s N c) mk t) ≠ (obD (drvN s N c) (drnN s N c) mk s0) → Q none T n I J F) : ∀ (t j : Nat) , j + t = (sgH ss h).length → (∀ (i : Nat) (t : Sg), i < j → (sgH ss h)[i]? = some t → (obD (drvN s N c) (drnN s N c) mk t) = (obD (drvN s N c) (drnN s N c) mk s0)) → V g mX7_weigh (d + 3) Q 0 0 43 [some (.ref oo), some (.long (lN (drvN s N c))), none, some (.long (lN (drnN s N c))), none, some (.int v5), some (.int v6), some (.int (nI (obD (drvN s N c) (drnN s N c) mk s0))), some (.int (nI j))] [] T n I J F := by
  intro t
  induction t with
  | zero =>
    intro j  hj hi
    obtain rfl : j = (sgH ss h).length := by omega
    obtain ⟨h1, h2, h3, h4, h5, h6, h7⟩ := id hr
    have hd1 := drvN_bd hs hN hv
    have hd2 := drnN_bd hs hN hv
    have hl := hds.1
    refine V.iload (pc := 43) dX7_weigh_43 rfl ?_
    refine V.aload_n (pc := 45) dX7_weigh_45 rfl ?_
    refine V.getI (pc := 46) dX7_weigh_46 fX7_15_6 rfl hSs.o ?_
    rw [h4]
    refine V.icmp_ge 72 (pc := 49) dX7_weigh_49 (by decide) (fun h49 => ?_) (fun h49 => absurd (nI_le (Nat.le_refl _) (by omega)) h49)
    refine kk (fun t ht => ?_)
    obtain ⟨i, hi2⟩ := List.getElem?_of_mem ht
    exact hi i t (List.getElem?_eq_some_iff.mp hi2).1 hi2
  | succ t ih =>
    intro j  hj hi
    obtain ⟨h1, h2, h3, h4, h5, h6, h7⟩ := id hr
    have hd1 := drvN_bd hs hN hv
    have hd2 := drnN_bd hs hN hv
    have hl := hds.1
    obtain ⟨sj, hq⟩ : ∃ s, (sgH ss h)[j]? = some s := ⟨_, List.getElem?_eq_getElem (by omega)⟩
    have bj := obD_lt (u := drvN s N c) (l := drnN s N c) hm.1 (hds.2 sj (List.mem_of_getElem? hq)).2
    have b0 := obD_lt (u := drvN s N c) (l := drnN s N c) hm.1 (hds.2 s0 (List.mem_of_getElem? e0)).2
    refine V.iload (pc := 43) dX7_weigh_43 rfl ?_
    refine V.aload_n (pc := 45) dX7_weigh_45 rfl ?_
    refine V.getI (pc := 46) dX7_weigh_46 fX7_15_6 rfl hSs.o ?_
    rw [h4]
    refine V.icmp_ge 72 (pc := 49) dX7_weigh_49 (by decide) (fun h49 => absurd h49 (nI_ge (by omega) (by omega))) (fun h49 => ?_)
    refine V.aload_n (pc := 52) dX7_weigh_52 rfl ?_
    refine V.iload (pc := 53) dX7_weigh_53 rfl ?_
    refine V.lload_n (pc := 55) dX7_weigh_55 rfl ?_
    refine V.lload_n (pc := 56) dX7_weigh_56 rfl ?_
    refine V.pV (as := [_, _, _]) (pc := 57) dX7_weigh_57 lX7_54 bX7_offsetBy nX7_offsetBy (ci := 6) rfl eX7_offsetBy hSs.o (x_offBy (d := d + 1) (u := drvN s N c) (l := drnN s N c) (mk := mk) (i := j) (s := sj) _ hSs rfl (by omega) h3 (h5 j sj (by assumption)).1 (h5 j sj (by assumption)).2 hm (hds.2 sj (List.mem_of_getElem? (by assumption))) hd1.2 ⟨hd2.1, hd2.2⟩) (by omega) rfl (Nat.le_of_ble_eq_true rfl) ?_
    refine V.iload (pc := 60) dX7_weigh_60 rfl ?_
    refine V.icmp_eq 66 (pc := 62) dX7_weigh_62 (by decide) (fun h62 => ?_) (fun h62 => ?_)
    · refine V.iinc1 (pc := 66) dX7_weigh_66 (by decide) rfl (st1_8 rfl) ?_
      refine V.goto 43 (pc := 69) dX7_weigh_69 (by decide) ?_
      rw [nI_1]
      refine ih (j + 1) (by omega) (fun i t h1 h2 => ?_)
      by_cases q : i = j
      · subst q
        obtain rfl : sj = t := Option.some.inj (hq.symm.trans h2)
        exact (nI_eq (by omega) (by omega)).mp h62
      · exact hi i t (by omega) h2
    · exact V.vret (pc := 65) dX7_weigh_65 rfl (kr sj (List.mem_of_getElem? hq) (fun z => h62 (by rw [z])))
theorem x_weigh7 {g : gG} {d : Nat} {T : mT} {n : Nat} {I : mI} {J : mJ} {F : mF} {oo mk h N c w : Nat} {s : List Nat} {ss : List Sg} {I0 : mI} {J0 : mJ} {b : ISt} (hSs : SgS T F oo) (hN : N = 2 ∨ N = 4) (hs : StkOK s) (hv : vld s.length N c = true) (hm : 0 < mk ∧ mk ≤ 400) (hds : (sgH ss h).length ≤ 10 ∧ ∀ t ∈ sgH ss h, t.2.1 ≤ 1000000 ∧ t.2.2 < mk) (hr : IRx (sgH ss h) mk oo I0 J0 b I J) (hd : ∀ i, i < N → I (oo + 1) i = nI (dg N c i)) : Ct g mX7_weigh (d + 3) [.ref oo, .long (lN (drvN s N c)), .long (lN (drnN s N c)), .int (nI (N / 2)), .int (nI w)] 0 0 T n I J F (fun r' T' n' I' J' F' => r' = none ∧ T' = T ∧ n' = n ∧ F' = F ∧ IRx (sgH ss h) mk oo I0 J0 (istepW w ss h mk s N c b) I' J' ∧ I' (oo + 1) = I (oo + 1)) := by
  refine Ct.ofV (k := 2) (by decide) (Nat.le_of_ble_eq_true rfl) ?_
  show V g mX7_weigh (d + 3) _ 0 0 0 [some (.ref oo), some (.long (lN (drvN s N c))), none, some (.long (lN (drnN s N c))), none, some (.int (nI (N / 2))), some (.int (nI w)), none, none] [] T n I J F
  obtain ⟨h1, h2, h3, h4, h5, h6, h7⟩ := id hr
  have hd1 := drvN_bd hs hN hv
  have hd2 := drnN_bd hs hN hv
  have hl := hds.1
  refine V.aload_n (pc := 0) dX7_weigh_0 rfl ?_
  refine V.getI (pc := 1) dX7_weigh_1 fX7_15_6 rfl hSs.o ?_
  rw [h4]
  refine V.if_ne 31 (pc := 4) dX7_weigh_4 (by decide) (fun h4 => ?_) (fun h4 => ?_)
  · have z0 : ¬ (sgH ss h).length = 0 := fun z => h4 (by rw [z]; rfl)
    obtain ⟨s0, e0⟩ : ∃ s, (sgH ss h)[0]? = some s := ⟨_, List.getElem?_eq_getElem (by omega)⟩
    have b0 := obD_lt (u := drvN s N c) (l := drnN s N c) hm.1 (hds.2 s0 (List.mem_of_getElem? e0)).2
    refine V.aload_n (pc := 31) dX7_weigh_31 rfl ?_
    refine V.iconst (v := 0) (pc := 32) dX7_weigh_32 (by decide) ?_
    refine V.lload_n (pc := 33) dX7_weigh_33 rfl ?_
    refine V.lload_n (pc := 34) dX7_weigh_34 rfl ?_
    refine V.pV (as := [_, _, _]) (pc := 35) dX7_weigh_35 lX7_54 bX7_offsetBy nX7_offsetBy (ci := 6) rfl eX7_offsetBy hSs.o (x_offBy (d := d + 1) (u := drvN s N c) (l := drnN s N c) (mk := mk) (i := 0) (s := s0) _ hSs rfl (by omega) h3 (h5 0 s0 (by assumption)).1 (h5 0 s0 (by assumption)).2 hm (hds.2 s0 (List.mem_of_getElem? (by assumption))) hd1.2 ⟨hd2.1, hd2.2⟩) (by omega) rfl (Nat.le_of_ble_eq_true rfl) ?_
    refine V.is (pc := 38) dX7_weigh_38 (by decide) (st1_7 rfl) ?_
    refine V.iconst (v := 1) (pc := 40) dX7_weigh_40 (by decide) ?_
    refine V.is (pc := 41) dX7_weigh_41 (by decide) (st1_8 rfl) ?_
    conv => arg 8; rw [show (1 : Int32) = nI 1 from rfl]
    refine l_w7 (ss := ss) (h := h) (s0 := s0) (b := b) hSs hN hs hv hm hds hr e0 (fun hall => ?_) (fun t ht hn => ?_) ((sgH ss h).length - 1) 1 (by omega) (fun i t h1 h2 => by obtain rfl : i = 0 := (by omega); rw [Option.some.inj (h2.symm.trans e0)])
    rotate_left
    · exact ⟨rfl, rfl, rfl, rfl, by rw [istW_n (ins_n hm.1 (fun t ht => (hds.2 t ht).2) e0 ht hn)]; exact hr, rfl⟩
    have eO := ins_y (mk := mk) (N := N) (c := c) (s := s) hm.1 e0 hall
    have eK : insK mk ((obD (drvN s N c) (drnN s N c) mk s0) : Int) = (obD (drvN s N c) (drnN s N c) mk s0) := by rw [insK, if_neg (by omega), Int.toNat_natCast]
    refine V.aload_n (pc := 72) dX7_weigh_72 rfl ?_
    refine V.dup (pc := 73) dX7_weigh_73 rfl ?_
    refine V.getI (pc := 74) dX7_weigh_74 fX7_25_6 rfl hSs.o ?_
    rw [h6]
    refine V.iload (pc := 77) dX7_weigh_77 rfl ?_
    refine V.iadd (pc := 79) dX7_weigh_79 ?_
    rw [nI_add]
    refine V.putI (pc := 80) dX7_weigh_80 fX7_25_6 (fun r h => by cases h; exact Or.inl rfl) rfl hSs.o ?_
    refine V.aload_n (pc := 83) dX7_weigh_83 rfl ?_
    refine V.iload (pc := 84) dX7_weigh_84 rfl ?_
    refine V.iload (pc := 86) dX7_weigh_86 rfl ?_
    refine V.invV0 (as := [_, _]) (pc := 88) dX7_weigh_88 lX7_50 bX7_keepIfBetter nX7_keepIfBetter (ci := 6) rfl eX7_keepIfBetter hSs.o (x_kib (d := d + 0) (N := N) (K := (obD (drvN s N c) (drnN s N c) mk s0)) (c := c) (e := b.2) _ _ hSs rfl rfl hN (by omega) (fun i hi => by rw [up2_off (by omega)]; exact hd i hi) h7.put7) (by omega) rfl (Nat.le_of_ble_eq_true rfl) ?_
    rintro _ _ _ I2 _ _ ⟨rfl, rfl, rfl, rfl, rfl, g1, g2, g3⟩
    exact V.vret (pc := 91) dX7_weigh_91 rfl ⟨rfl, rfl, rfl, rfl, by rw [istW_y eO (by omega), if_neg (by omega), Nat.mul_one, eK]; exact hr.kib rfl g1 g2 g3, by rw [g1 _ (by omega) (by omega), up2_off (by omega)]⟩
  · have z0 : (sgH ss h).length = 0 := by
      rw [L0, nI_eq (by omega) (by omega)] at h4
      exact h4
    have eO := ins_0 (mk := mk) (N := N) (c := c) (s := s) z0
    refine V.aload_n (pc := 7) dX7_weigh_7 rfl ?_
    refine V.dup (pc := 8) dX7_weigh_8 rfl ?_
    refine V.getI (pc := 9) dX7_weigh_9 fX7_25_6 rfl hSs.o ?_
    rw [h6]
    refine V.iload (pc := 12) dX7_weigh_12 rfl ?_
    refine V.aload_n (pc := 14) dX7_weigh_14 rfl ?_
    refine V.getI (pc := 15) dX7_weigh_15 fX7_9_6 rfl hSs.o ?_
    rw [h3]
    refine V.imul (pc := 18) dX7_weigh_18 ?_
    rw [pk_mul]
    refine V.iadd (pc := 19) dX7_weigh_19 ?_
    rw [nI_add]
    refine V.putI (pc := 20) dX7_weigh_20 fX7_25_6 (fun r h => by cases h; exact Or.inl rfl) rfl hSs.o ?_
    refine V.aload_n (pc := 23) dX7_weigh_23 rfl ?_
    refine V.iload (pc := 24) dX7_weigh_24 rfl ?_
    refine V.iconst (v := 0) (pc := 26) dX7_weigh_26 (by decide) ?_
    refine V.invV0 (as := [_, _]) (pc := 27) dX7_weigh_27 lX7_50 bX7_keepIfBetter nX7_keepIfBetter (ci := 6) rfl eX7_keepIfBetter hSs.o (x_kib (d := d + 0) (N := N) (K := 0) (c := c) (e := b.2) _ _ hSs rfl rfl hN (by omega) (fun i hi => by rw [up2_off (by omega)]; exact hd i hi) h7.put7) (by omega) rfl (Nat.le_of_ble_eq_true rfl) ?_
    rintro _ _ _ I2 _ _ ⟨rfl, rfl, rfl, rfl, rfl, g1, g2, g3⟩
    exact V.vret (pc := 30) dX7_weigh_30 rfl ⟨rfl, rfl, rfl, rfl, by rw [istW_y eO (by omega), if_pos rfl, show insK mk (mk : Int) = 0 from if_pos rfl]; exact hr.kib rfl g1 g2 g3, by rw [g1 _ (by omega) (by omega), up2_off (by omega)]⟩
