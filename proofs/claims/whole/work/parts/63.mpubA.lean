theorem L5000 : (5000 : Int32) = nI 5000 := rfl
theorem L401 : (401 : Int32) = nI 401 := rfl
theorem L1000000 : (1000000 : Int32) = nI 1000000 := rfl
theorem nI_eqI {a : Nat} {z : Int32} (ha : a < 2 ^ 31) : nI a = z ↔ (a : Int) = z.toInt := by rw [eq32, nI_toInt ha]
theorem cntD_snoc {P : Nat → Bool} : ∀ (t d : Nat), cntD P d (t + 1) = cntD P d t + (if P (d + t) then 1 else 0) := by
  intro t
  induction t with
  | zero => intro d; simp [cntD]
  | succ t ih => intro d; rw [cntD, ih (d + 1), cntD, show d + 1 + t = d + (t + 1) by omega]; omega
theorem fstD_snoc {P : Nat → Bool} : ∀ (t d : Nat), fstD P d (t + 1) = if fstD P d t = -1 then (if P (d + t) then ((d + t : Nat) : Int) else -1) else fstD P d t := by
  intro t
  induction t with
  | zero => intro d; rw [fstD, fstD, fstD, if_pos rfl, Nat.add_zero]
  | succ t ih =>
    intro d
    rw [fstD]
    by_cases h : P d = true
    · rw [if_pos h, fstD_y h, if_neg (by omega)]
    · have h' : P d = false := by cases e : P d; rfl; exact absurd e h
      rw [if_neg h, ih (d + 1), fstD_n h', show d + 1 + t = d + (t + 1) by omega]
theorem cnt0 {P : Nat → Bool} : ∀ (t d : Nat), cntD P d t = 0 ↔ fstD P d t = -1 := by
  intro t
  induction t with
  | zero => intro d; exact ⟨fun _ => rfl, fun _ => rfl⟩
  | succ t ih =>
    intro d
    rw [cntD, fstD]
    by_cases h : P d = true
    · rw [if_pos h, if_pos h]; constructor <;> intro z <;> omega
    · rw [if_neg h, if_neg h, Nat.zero_add]; exact ih (d + 1)
theorem l_together {g : gG} {d : Nat} {T : mT} {n : Nat} {I : mI} {J : mJ} {F : mF} {Q : mQ} {m k1 k2 f sp : Nat} {y1 y2 : Hd} {x1 m1 x2 m2 : Int32} (hM : MS T F m) (h1x : x1 = nI k1) (h2x : x2 = nI k2) (h1H : HdM I m k1 y1) (h2H : HdM I m k2 y2) (hf : f ≤ 1000000) (hsp : (f + 5000 ≤ 1000000 ∧ sp = 5001) ∨ (1000000 < f + 5000 ∧ f + sp = 1000001)) : ∀ (t j : Nat) , j + t = f + sp → (Q (some (.int (iI (fstD (togP y1 y2 m1.toInt m2.toInt) j t)))) T n I J F) → V g mX12_together (d + 4) Q 0 0 35 [some (.ref m), some (.int x1), some (.int m1), some (.int x2), some (.int m2), some (.int (nI f)), some (.int (nI j))] [] T n I J F := by
  intro t
  induction t with
  | zero =>
    intro j  hj hi
    obtain rfl : j = f + sp := by omega
    refine V.iload (pc := 35) dX12_together_35 rfl ?_
    refine V.iload (pc := 37) dX12_together_37 rfl ?_
    refine V.sipush (v := 5000) (pc := 39) dX12_together_39 (by decide) ?_
    refine V.iadd (pc := 42) dX12_together_42 ?_
    refine V.icmp_gt 96 (pc := 43) dX12_together_43 (by decide) (fun h43 => ?_) (fun h43 => ?_)
    · refine V.iconst (v := (-1)) (pc := 96) dX12_together_96 (by decide) ?_
      exact V.iret (pc := 97) dX12_together_97 rfl hi
    · refine V.iload (pc := 46) dX12_together_46 rfl ?_
      refine V.ldcw (pc := 48) dX12_together_48 qX12_428 ?_
      refine V.icmp_gt 96 (pc := 51) dX12_together_51 (by decide) (fun h51 => ?_) (fun h51 => absurd (by rw [L1000000, nI_ltI (by omega) (by omega)]; rw [L5000, nI_add, nI_ltI (by omega) (by omega)] at h43; omega) h51)
      refine V.iconst (v := (-1)) (pc := 96) dX12_together_96 (by decide) ?_
      exact V.iret (pc := 97) dX12_together_97 rfl hi
  | succ t ih =>
    intro j  hj hi
    have hl1 := markD_lt h1H.2.2 j
    have hl2 := markD_lt h2H.2.2 j
    refine V.iload (pc := 35) dX12_together_35 rfl ?_
    refine V.iload (pc := 37) dX12_together_37 rfl ?_
    refine V.sipush (v := 5000) (pc := 39) dX12_together_39 (by decide) ?_
    refine V.iadd (pc := 42) dX12_together_42 ?_
    refine V.icmp_gt 96 (pc := 43) dX12_together_43 (by decide) (fun h43 => absurd h43 (by rw [L5000, nI_add, nI_ltI (by omega) (by omega)]; omega)) (fun h43 => ?_)
    refine V.iload (pc := 46) dX12_together_46 rfl ?_
    refine V.ldcw (pc := 48) dX12_together_48 qX12_428 ?_
    refine V.icmp_gt 96 (pc := 51) dX12_together_51 (by decide) (fun h51 => absurd h51 (by rw [L1000000, nI_ltI (by omega) (by omega)]; omega)) (fun h51 => ?_)
    refine V.aload_n (pc := 54) dX12_together_54 rfl ?_
    refine V.iload_n (pc := 55) dX12_together_55 rfl ?_
    refine V.aload_n (pc := 56) dX12_together_56 rfl ?_
    refine V.iload_n (pc := 57) dX12_together_57 rfl ?_
    refine V.iload (pc := 58) dX12_together_58 rfl ?_
    refine V.pV (as := [_, _]) (pc := 60) dX12_together_60 lX12_307 bX12_gone2 nX12_gone2 (ci := 11) rfl eX12_gone2 hM.o (c_gone2 (d := d + 2) (h := k1) (dd := j) (y := y1) _ _ hM h1x h1H rfl (by omega)) (by omega) rfl (Nat.le_of_ble_eq_true rfl) ?_
    refine V.pV (as := [_, _]) (pc := 63) dX12_together_63 lX12_349 bX12_markAt nX12_markAt (ci := 11) rfl eX12_markAt hM.o (c_markAt (d := d + 0) (h := k1) (go := goN j y1.2.2.1) (y := y1) _ _ hM h1x h1H rfl (Nat.le_trans (goN_le _ _) (by omega))) (by omega) rfl (Nat.le_of_ble_eq_true rfl) ?_
    rw [show mkN (goN j y1.2.2.1) (upN y1.2.2.2) (loN y1.2.2.2) y1.1 y1.2.1 = markD y1 j from rfl]
    refine V.iload_n (pc := 66) dX12_together_66 rfl ?_
    refine V.icmp_ne 90 (pc := 67) dX12_together_67 (by decide) (fun h67 => ?_) (fun h67 => ?_)
    · rw [nI_eqI (by omega)] at h67
      refine V.iinc1 (pc := 90) dX12_together_90 (by decide) rfl (st1_6 rfl) ?_
      refine V.goto 35 (pc := 93) dX12_together_93 (by decide) ?_
      rw [nI_1]
      rw [fstD_n (togP_n1 h67)] at hi
      exact ih (j + 1) (by omega) hi
    · rw [nI_eqI (by omega)] at h67
      refine V.aload_n (pc := 70) dX12_together_70 rfl ?_
      refine V.iload_n (pc := 71) dX12_together_71 rfl ?_
      refine V.aload_n (pc := 72) dX12_together_72 rfl ?_
      refine V.iload_n (pc := 73) dX12_together_73 rfl ?_
      refine V.iload (pc := 74) dX12_together_74 rfl ?_
      refine V.pV (as := [_, _]) (pc := 76) dX12_together_76 lX12_307 bX12_gone2 nX12_gone2 (ci := 11) rfl eX12_gone2 hM.o (c_gone2 (d := d + 2) (h := k2) (dd := j) (y := y2) _ _ hM h2x h2H rfl (by omega)) (by omega) rfl (Nat.le_of_ble_eq_true rfl) ?_
      refine V.pV (as := [_, _]) (pc := 79) dX12_together_79 lX12_349 bX12_markAt nX12_markAt (ci := 11) rfl eX12_markAt hM.o (c_markAt (d := d + 0) (h := k2) (go := goN j y2.2.2.1) (y := y2) _ _ hM h2x h2H rfl (Nat.le_trans (goN_le _ _) (by omega))) (by omega) rfl (Nat.le_of_ble_eq_true rfl) ?_
      rw [show mkN (goN j y2.2.2.1) (upN y2.2.2.2) (loN y2.2.2.2) y2.1 y2.2.1 = markD y2 j from rfl]
      refine V.iload (pc := 82) dX12_together_82 rfl ?_
      refine V.icmp_ne 90 (pc := 84) dX12_together_84 (by decide) (fun h84 => ?_) (fun h84 => ?_)
      · rw [nI_eqI (by omega)] at h84
        refine V.iinc1 (pc := 90) dX12_together_90 (by decide) rfl (st1_6 rfl) ?_
        refine V.goto 35 (pc := 93) dX12_together_93 (by decide) ?_
        rw [nI_1]
        rw [fstD_n (togP_n2 h84)] at hi
        exact ih (j + 1) (by omega) hi
      · rw [nI_eqI (by omega)] at h84
        refine V.iload (pc := 87) dX12_together_87 rfl ?_
        exact V.iret (pc := 89) dX12_together_89 rfl (by rw [fstD_y (togP_y h67 h84), iI_nat] at hi; exact hi)
theorem p_together {g : gG} {d : Nat} {T : mT} {n : Nat} {I : mI} {J : mJ} {F : mF} {m : Nat} {A : Ab} (x m1 z m2 f : Int32) (hM : MS T F m) (hA : AbOK A) (hR : RepM I J m A)  : Ct g mX12_together (d + 5) [.ref m, .int x, .int m1, .int z, .int m2, .int f] 0 0 T n I J F (QM m T n I J F (some (.int (iI (s_together A x.toInt m1.toInt z.toInt m2.toInt f.toInt)))) A) := by
  refine Ct.ofV (k := 1) (by decide) (Nat.le_of_ble_eq_true rfl) ?_
  show V g mX12_together (d + 5) _ 0 0 0 [some (.ref m), some (.int x), some (.int m1), some (.int z), some (.int m2), some (.int f), none] [] T n I J F
  refine V.aload_n (pc := 0) dX12_together_0 rfl ?_
  refine V.iconst (v := 0) (pc := 1) dX12_together_1 (by decide) ?_
  refine V.putI (pc := 2) dX12_together_2 fX12_88_11 (fun r h => by cases h; exact Or.inl rfl) rfl hM.o ?_
  refine V.thr hR (fun I1 hR1 hf => ?_)
  clear hR
  have hR := hR1
  clear hR1
  refine V.aload_n (pc := 5) dX12_together_5 rfl ?_
  refine V.iload_n (pc := 6) dX12_together_6 rfl ?_
  refine V.pV (as := [_]) (pc := 7) dX12_together_7 lX12_111 bX12_isHand nX12_isHand (ci := 11) rfl eX12_isHand hM.o (c_isHand (d := d + 3) _ hM (by have := hA.1.1; omega) hR.h0) (by omega) rfl (Nat.le_of_ble_eq_true rfl) ?_
  refine V.if_eq 29 (pc := 10) dX12_together_10 (by decide) (fun h10 => ?_) (fun h10 => ?_)
  · have q0 := bi_eq.mp h10
    have ey := hdAt_no q0
    refine V.iconst (v := (-1)) (pc := 29) dX12_together_29 (by decide) ?_
    exact V.iret (pc := 30) dX12_together_30 rfl ⟨by rw [s_together]; simp only [ey]; rfl, rfl, rfl, rfl, hf, Frm.rf, hR⟩
  · have q0 := bi_ne.mp h10
    obtain ⟨y1, h1y, e1y⟩ := hdAt_yes q0
    have h1x := nIx q0.1 rfl
    have h1H := hR.hd hA h1y
    have h1b := rate_bd h1H.2.2 y1.2.2.2.length
    rw [List.take_length] at h1b
    refine V.aload_n (pc := 13) dX12_together_13 rfl ?_
    refine V.iload_n (pc := 14) dX12_together_14 rfl ?_
    refine V.pV (as := [_]) (pc := 15) dX12_together_15 lX12_111 bX12_isHand nX12_isHand (ci := 11) rfl eX12_isHand hM.o (c_isHand (d := d + 3) _ hM (by have := hA.1.1; omega) hR.h0) (by omega) rfl (Nat.le_of_ble_eq_true rfl) ?_
    refine V.if_eq 29 (pc := 18) dX12_together_18 (by decide) (fun h18 => ?_) (fun h18 => ?_)
    · have q2 := bi_eq.mp h18
      have ey := hdAt_no q2
      refine V.iconst (v := (-1)) (pc := 29) dX12_together_29 (by decide) ?_
      exact V.iret (pc := 30) dX12_together_30 rfl ⟨by rw [s_together]; simp only [e1y, ey]; rfl, rfl, rfl, rfl, hf, Frm.rf, hR⟩
    · have q2 := bi_ne.mp h18
      obtain ⟨y2, h2y, e2y⟩ := hdAt_yes q2
      have h2x := nIx q2.1 rfl
      have h2H := hR.hd hA h2y
      have h2b := rate_bd h2H.2.2 y2.2.2.2.length
      rw [List.take_length] at h2b
      refine V.iload (pc := 21) dX12_together_21 rfl ?_
      refine V.pS (as := [_]) (pc := 23) dX12_together_23 lX12_318 bX12_isDay sX12_isDay (c_isDay (d := d + 3) _) (by omega) rfl (Nat.le_of_ble_eq_true rfl) ?_
      refine V.if_ne 31 (pc := 26) dX12_together_26 (by decide) (fun h26 => ?_) (fun h26 => ?_)
      · have qd := bi_ne.mp h26
        refine V.iload (pc := 31) dX12_together_31 rfl ?_
        refine V.is (pc := 33) dX12_together_33 (by decide) (st1_6 rfl) ?_
        have hfx := nIx (x := f) qd.1 rfl
        conv => arg 8; rw [hfx]
        refine l_together (d := d + 1) (k1 := x.toInt.toNat) (k2 := z.toInt.toNat) (y1 := y1) (y2 := y2) hM h1x h2x h1H h2H (by omega) (spanN_or (by omega)) (spanN f.toInt.toNat) f.toInt.toNat rfl ?_
        exact ⟨by rw [s_together]; simp only [e1y, e2y]; rw [if_pos qd], rfl, rfl, rfl, hf, Frm.rf, hR⟩
      · have qd := bi_eq.mp h26
        refine V.iconst (v := (-1)) (pc := 29) dX12_together_29 (by decide) ?_
        exact V.iret (pc := 30) dX12_together_30 rfl ⟨by rw [s_together]; simp only [e1y, e2y]; rw [if_neg qd]; rfl, rfl, rfl, rfl, hf, Frm.rf, hR⟩
theorem seenP_take {ss : List Sg} {h gap j : Nat} {y : Hd} {s : Sg} (hs : ss[j]? = some s) : (seenP (ss.take (j + 1)) h y gap = true) ↔ (seenP (ss.take j) h y gap = true ∧ (s.1 = h → mkN (goN s.2.1 gap) (upN y.2.2.2) (loN y.2.2.2) y.1 y.2.1 = s.2.2)) := by
  unfold seenP
  rw [List.take_add_one, hs, Option.toList_some, List.all_append]
  simp only [List.all_cons, List.all_nil, Bool.and_true, Bool.and_eq_true, Bool.or_eq_true, Bool.not_eq_true', decide_eq_true_eq, decide_eq_false_iff_not]
  constructor
  · rintro ⟨a, b⟩; exact ⟨a, fun e => b.resolve_left (fun z => z e)⟩
  · rintro ⟨a, b⟩; refine ⟨a, ?_⟩; by_cases e : s.1 = h; exact Or.inr (b e); exact Or.inl e
def SgM (I : mI) (m : Nat) (ss : List Sg) : Prop := ss.length ≤ 10 ∧ I (m + 2) 4 = nI ss.length ∧ (∀ (i : Nat) (s : Sg), ss[i]? = some s → I (m + 2) (94 + 3 * i) = nI s.1 ∧ I (m + 2) (94 + 3 * i + 1) = nI s.2.1 ∧ I (m + 2) (94 + 3 * i + 2) = nI s.2.2) ∧ ∀ s ∈ ss, s.1 < 6 ∧ s.2.1 ≤ 1000000 ∧ s.2.2 < 400
theorem RepM.sg {I : mI} {J : mJ} {m : Nat} {A : Ab} (hR : RepM I J m A) (hA : AbOK A) : SgM I m (sgs (cor A)) := by
  refine ⟨hA.1.2.2.2.2.2.2.2.1, hR.h4, hR.2.2.1.2.2.2.1, fun s hs => ?_⟩
  obtain ⟨a, b, c⟩ := hA.1.2.2.2.2.2.2.2.2.1 s hs
  have h6 := hA.1.1
  have e := c _ (List.getElem?_eq_getElem a)
  have := (hA.1.2.1 _ (List.getElem_mem a)).2.1
  exact ⟨by omega, b, by omega⟩
theorem l_areSeen {g : gG} {d : Nat} {T : mT} {n : Nat} {I : mI} {J : mJ} {F : mF} {Q : mQ} {m h gap : Nat} {y : Hd} {x z : Int32} {ss : List Sg} (hM : MS T F m) (hx : x = nI h) (hz : z = nI gap) (hg : gap ≤ 9999) (hH : HdM I m h y) (hs : SgM I m ss) (kk : V g mX12_areSeen (d + 4) Q 0 0 83 [some (.ref m), some (.int x), some (.int z), some (.int (bi (seenP ss h y gap = true))), some (.int (nI ss.length)), none] [] T n I J F) : ∀ (t j : Nat) , j + t = ss.length → (True) → V g mX12_areSeen (d + 4) Q 0 0 5 [some (.ref m), some (.int x), some (.int z), some (.int (bi (seenP (ss.take j) h y gap = true))), some (.int (nI j)), none] [] T n I J F := by
  intro t
  induction t with
  | zero =>
    intro j  hj hi
    obtain rfl : j = ss.length := by omega
    obtain ⟨hs0, hs1, hs2, hs3⟩ := hs
    refine V.iload (pc := 5) dX12_areSeen_5 rfl ?_
    refine V.aload_n (pc := 7) dX12_areSeen_7 rfl ?_
    refine V.getR (pc := 8) dX12_areSeen_8 fX12_13_11 rfl hM.o hM.f3 ?_
    refine V.iconst (v := 4) (pc := 11) dX12_areSeen_11 (by decide) ?_
    refine V.iald' (k := 4) (pc := 12) dX12_areSeen_12 hM.t3 rfl (by decide) (by decide) ?_
    rw [hs1]
    refine V.icmp_ge 83 (pc := 13) dX12_areSeen_13 (by decide) (fun h13 => ?_) (fun h13 => absurd (nI_le (Nat.le_refl _) (by omega)) h13)
    rw [List.take_length]
    exact kk
  | succ t ih =>
    intro j  hj hi
    subst hz
    obtain ⟨hs0, hs1, hs2, hs3⟩ := hs
    obtain ⟨s, hj2⟩ : ∃ s, ss[j]? = some s := ⟨_, List.getElem?_eq_getElem (by omega)⟩
    obtain ⟨r0, r1, r2⟩ := hs2 j s hj2
    obtain ⟨b0, b1, b2⟩ := hs3 s (List.mem_of_getElem? hj2)
    have h6 := hH.1
    have hmk : mkN (goN s.2.1 gap) (upN y.2.2.2) (loN y.2.2.2) y.1 y.2.1 < 400 := by
      unfold mkN
      have h1 := hH.2.2.1
      have h2 := hH.2.2.2.1
      have := Nat.mod_lt (goN s.2.1 gap * upN y.2.2.2 * y.1 / loN y.2.2.2 + y.2.1) (show 0 < y.1 by omega)
      omega
    refine V.iload (pc := 5) dX12_areSeen_5 rfl ?_
    refine V.aload_n (pc := 7) dX12_areSeen_7 rfl ?_
    refine V.getR (pc := 8) dX12_areSeen_8 fX12_13_11 rfl hM.o hM.f3 ?_
    refine V.iconst (v := 4) (pc := 11) dX12_areSeen_11 (by decide) ?_
    refine V.iald' (k := 4) (pc := 12) dX12_areSeen_12 hM.t3 rfl (by decide) (by decide) ?_
    rw [hs1]
    refine V.icmp_ge 83 (pc := 13) dX12_areSeen_13 (by decide) (fun h13 => absurd h13 (nI_ge (by omega) (by omega))) (fun h13 => ?_)
    refine V.bipush (v := 94) (pc := 16) dX12_areSeen_16 (by decide) ?_
    refine V.iconst (v := 3) (pc := 18) dX12_areSeen_18 (by decide) ?_
    refine V.iload (pc := 19) dX12_areSeen_19 rfl ?_
    refine V.imul (pc := 21) dX12_areSeen_21 ?_
    refine V.iadd (pc := 22) dX12_areSeen_22 ?_
    refine V.is (pc := 23) dX12_areSeen_23 (by decide) (st1_5 rfl) ?_
    refine V.iload_n (pc := 25) dX12_areSeen_25 rfl ?_
    refine V.if_eq 75 (pc := 26) dX12_areSeen_26 (by decide) (fun h26 => ?_) (fun h26 => ?_)
    · refine V.iconst (v := 0) (pc := 75) dX12_areSeen_75 (by decide) ?_
      refine V.isn (pc := 76) dX12_areSeen_76 (by decide) (st1_3 rfl) ?_
      refine V.iinc1 (pc := 77) dX12_areSeen_77 (by decide) rfl (st1_4 rfl) ?_
      refine V.goto 5 (pc := 80) dX12_areSeen_80 (by decide) ?_
      refine V.weak wk_5 ?_
      have z := ih (j + 1) (by omega) trivial
      rw [bi_f (fun e => bi_eq.mp h26 ((seenP_take hj2).mp e).1)] at z
      rw [nI_1]
      exact z
    · refine V.aload_n (pc := 29) dX12_areSeen_29 rfl ?_
      refine V.getR (pc := 30) dX12_areSeen_30 fX12_13_11 rfl hM.o hM.f3 ?_
      refine V.iload (pc := 33) dX12_areSeen_33 rfl ?_
      refine V.iald' (k := 94 + 3 * j) (pc := 35) dX12_areSeen_35 hM.t3 (by simp only [L94, L3, pk_mul, nI_add]) (by omega) (by decide) ?_
      rw [r0]
      refine V.iload_n (pc := 36) dX12_areSeen_36 rfl ?_
      refine V.icmp_ne 71 (pc := 37) dX12_areSeen_37 (by decide) (fun h37 => ?_) (fun h37 => ?_)
      · rw [hx, nI_eq (by omega) (by omega)] at h37
        refine V.iconst (v := 1) (pc := 71) dX12_areSeen_71 (by decide) ?_
        refine V.goto 76 (pc := 72) dX12_areSeen_72 (by decide) ?_
        refine V.isn (pc := 76) dX12_areSeen_76 (by decide) (st1_3 rfl) ?_
        refine V.iinc1 (pc := 77) dX12_areSeen_77 (by decide) rfl (st1_4 rfl) ?_
        refine V.goto 5 (pc := 80) dX12_areSeen_80 (by decide) ?_
        refine V.weak wk_5 ?_
        have z := ih (j + 1) (by omega) trivial
        rw [bi_t ((seenP_take hj2).mpr ⟨bi_ne.mp h26, fun e => absurd e h37⟩)] at z
        rw [nI_1]
        exact z
      · rw [hx, nI_eq (by omega) (by omega)] at h37
        refine V.aload_n (pc := 40) dX12_areSeen_40 rfl ?_
        refine V.iload_n (pc := 41) dX12_areSeen_41 rfl ?_
        refine V.aload_n (pc := 42) dX12_areSeen_42 rfl ?_
        refine V.getR (pc := 43) dX12_areSeen_43 fX12_13_11 rfl hM.o hM.f3 ?_
        refine V.iload (pc := 46) dX12_areSeen_46 rfl ?_
        refine V.iconst (v := 1) (pc := 48) dX12_areSeen_48 (by decide) ?_
        refine V.iadd (pc := 49) dX12_areSeen_49 ?_
        refine V.iald' (k := 94 + 3 * j + 1) (pc := 50) dX12_areSeen_50 hM.t3 (by simp only [L94, L3, L1, pk_mul, nI_add]) (by omega) (by decide) ?_
        rw [r1]
        refine V.i2l (pc := 51) dX12_areSeen_51 ?_
        rw [nI_l (by omega)]
        refine V.iload_n (pc := 52) dX12_areSeen_52 rfl ?_
        refine V.pS (as := [_, _]) (pc := 53) dX12_areSeen_53 lX12_418 bX12_through sX12_through (c_through (d := d + 3) _ _) (by omega) rfl (Nat.le_of_ble_eq_true rfl) ?_
        rw [thr_go b1 hg]
        refine V.pV (as := [_, _]) (pc := 56) dX12_areSeen_56 lX12_349 bX12_markAt nX12_markAt (ci := 11) rfl eX12_markAt hM.o (c_markAt (d := d + 0) (h := h) (go := goN s.2.1 gap) (y := y) _ _ hM hx hH rfl (Nat.le_trans (goN_le _ _) b1)) (by omega) rfl (Nat.le_of_ble_eq_true rfl) ?_
        refine V.aload_n (pc := 59) dX12_areSeen_59 rfl ?_
        refine V.getR (pc := 60) dX12_areSeen_60 fX12_13_11 rfl hM.o hM.f3 ?_
        refine V.iload (pc := 63) dX12_areSeen_63 rfl ?_
        refine V.iconst (v := 2) (pc := 65) dX12_areSeen_65 (by decide) ?_
        refine V.iadd (pc := 66) dX12_areSeen_66 ?_
        refine V.iald' (k := 94 + 3 * j + 2) (pc := 67) dX12_areSeen_67 hM.t3 (by simp only [L94, L3, L2, pk_mul, nI_add]) (by omega) (by decide) ?_
        rw [r2]
        refine V.icmp_ne 75 (pc := 68) dX12_areSeen_68 (by decide) (fun h68 => ?_) (fun h68 => ?_)
        · rw [nI_eq (by omega) (by omega)] at h68
          refine V.iconst (v := 0) (pc := 75) dX12_areSeen_75 (by decide) ?_
          refine V.isn (pc := 76) dX12_areSeen_76 (by decide) (st1_3 rfl) ?_
          refine V.iinc1 (pc := 77) dX12_areSeen_77 (by decide) rfl (st1_4 rfl) ?_
          refine V.goto 5 (pc := 80) dX12_areSeen_80 (by decide) ?_
          refine V.weak wk_5 ?_
          have z := ih (j + 1) (by omega) trivial
          rw [bi_f (fun e => h68 (((seenP_take hj2).mp e).2 h37))] at z
          rw [nI_1]
          exact z
        · rw [nI_eq (by omega) (by omega)] at h68
          refine V.iconst (v := 1) (pc := 71) dX12_areSeen_71 (by decide) ?_
          refine V.goto 76 (pc := 72) dX12_areSeen_72 (by decide) ?_
          refine V.isn (pc := 76) dX12_areSeen_76 (by decide) (st1_3 rfl) ?_
          refine V.iinc1 (pc := 77) dX12_areSeen_77 (by decide) rfl (st1_4 rfl) ?_
          refine V.goto 5 (pc := 80) dX12_areSeen_80 (by decide) ?_
          refine V.weak wk_5 ?_
          have z := ih (j + 1) (by omega) trivial
          rw [bi_t ((seenP_take hj2).mpr ⟨bi_ne.mp h26, fun _ => h68⟩)] at z
          rw [nI_1]
          exact z
theorem c_areSeen {g : gG} {d : Nat} {T : mT} {n : Nat} {I : mI} {J : mJ} {F : mF} {m h gap : Nat} {y : Hd} {ss : List Sg} (x z : Int32) (hM : MS T F m) (hx : x = nI h) (hz : z = nI gap) (hg : gap ≤ 9999) (hH : HdM I m h y) (hs : SgM I m ss) : Ct g mX12_areSeen (d + 4) [.ref m, .int x, .int z] 0 0 T n I J F (pureQ T n I J F (some (.int (bi (seenP ss h y gap = true))))) := by
  refine Ct.ofV (k := 3) (by decide) (Nat.le_of_ble_eq_true rfl) ?_
  show V g mX12_areSeen (d + 4) _ 0 0 0 [some (.ref m), some (.int x), some (.int z), none, none, none] [] T n I J F
  refine V.iconst (v := 1) (pc := 0) dX12_areSeen_0 (by decide) ?_
  refine V.isn (pc := 1) dX12_areSeen_1 (by decide) (st1_3 rfl) ?_
  refine V.iconst (v := 0) (pc := 2) dX12_areSeen_2 (by decide) ?_
  refine V.is (pc := 3) dX12_areSeen_3 (by decide) (st1_4 rfl) ?_
  have e0 : (1 : Int32) = bi (seenP (ss.take 0) h y gap = true) := (bi_t (by rw [List.take_zero]; rfl)).symm
  rw [e0, L0]
  refine l_areSeen hM hx hz hg hH hs ?_ ss.length 0 (by omega) trivial
  refine V.iload_n (pc := 83) dX12_areSeen_83 rfl ?_
  exact V.zret (pc := 84) dX12_areSeen_84 rfl (by first | exact Or.inl rfl | exact Or.inr rfl | exact bi_or | assumption) ⟨rfl, rfl, rfl, rfl, rfl, rfl⟩
theorem l_gapOf {g : gG} {d : Nat} {T : mT} {n : Nat} {I : mI} {J : mJ} {F : mF} {Q : mQ} {m h : Nat} {y : Hd} {x w : Int32} {ss : List Sg} (hM : MS T F m) (hx : x = nI h) (hH : HdM I m h y) (hs : SgM I m ss) (kk : V g mX12_gapOf (d + 5) Q 0 0 48 [some (.ref m), some (.int x), some (.int w), some (.int (nI (cntD (seenP ss h y) 2 399))), some (.int (iI (fstD (seenP ss h y) 2 399))), some (.int (nI (2 + 399)))] [] T n I J F) : ∀ (t j : Nat) , j + t = 399 → (True) → V g mX12_gapOf (d + 5) Q 0 0 8 [some (.ref m), some (.int x), some (.int w), some (.int (nI (cntD (seenP ss h y) 2 j))), some (.int (iI (fstD (seenP ss h y) 2 j))), some (.int (nI (2 + j)))] [] T n I J F := by
  intro t
  induction t with
  | zero =>
    intro j  hj hi
    obtain rfl : j = 399 := by omega
    refine V.iload (pc := 8) dX12_gapOf_8 rfl ?_
    refine V.sipush (v := 401) (pc := 10) dX12_gapOf_10 (by decide) ?_
    refine V.icmp_ge 48 (pc := 13) dX12_gapOf_13 (by decide) (fun h13 => ?_) (fun h13 => absurd (by rw [L401]; exact nI_le (by omega) (by omega)) h13)
    exact kk
  | succ t ih =>
    intro j  hj hi
    have hc := cntD_le (P := (seenP ss h y)) j 2
    refine V.iload (pc := 8) dX12_gapOf_8 rfl ?_
    refine V.sipush (v := 401) (pc := 10) dX12_gapOf_10 (by decide) ?_
    refine V.icmp_ge 48 (pc := 13) dX12_gapOf_13 (by decide) (fun h13 => absurd h13 (by rw [L401]; exact nI_ge (by omega) (by omega))) (fun h13 => ?_)
    refine V.aload_n (pc := 16) dX12_gapOf_16 rfl ?_
    refine V.iload_n (pc := 17) dX12_gapOf_17 rfl ?_
    refine V.iload (pc := 18) dX12_gapOf_18 rfl ?_
    refine V.pV (as := [_, _]) (pc := 20) dX12_gapOf_20 lX12_425 bX12_areSeen nX12_areSeen (ci := 11) rfl eX12_areSeen hM.o (c_areSeen (d := d + 0) (h := h) (gap := 2 + j) (y := y) (ss := ss) _ _ hM hx rfl (by omega) hH hs) (by omega) rfl (Nat.le_of_ble_eq_true rfl) ?_
    refine V.if_eq 42 (pc := 23) dX12_gapOf_23 (by decide) (fun h23 => ?_) (fun h23 => ?_)
    · refine V.iinc1 (pc := 42) dX12_gapOf_42 (by decide) rfl (st1_5 rfl) ?_
      refine V.goto 8 (pc := 45) dX12_gapOf_45 (by decide) ?_
      have z := ih (j + 1) (by omega) trivial
      rw [cntD_snoc, if_neg (fun e => bi_eq.mp h23 e), Nat.add_zero, fstD_snoc, if_neg (fun e => bi_eq.mp h23 e)] at z
      rw [show (if fstD (seenP ss h y) 2 j = -1 then (-1 : Int) else fstD (seenP ss h y) 2 j) = fstD (seenP ss h y) 2 j from by split; exact (by assumption : _ = (-1 : Int)).symm; rfl] at z
      rw [nI_1]
      exact z
    · refine V.iload_n (pc := 26) dX12_gapOf_26 rfl ?_
      refine V.if_ne 35 (pc := 27) dX12_gapOf_27 (by decide) (fun h27 => ?_) (fun h27 => ?_)
      · refine V.iload (pc := 35) dX12_gapOf_35 rfl ?_
        refine V.is (pc := 37) dX12_gapOf_37 (by decide) (st1_4 rfl) ?_
        refine V.iinc1 (pc := 39) dX12_gapOf_39 (by decide) rfl (st1_3 rfl) ?_
        refine V.iinc1 (pc := 42) dX12_gapOf_42 (by decide) rfl (st1_5 rfl) ?_
        refine V.goto 8 (pc := 45) dX12_gapOf_45 (by decide) ?_
        have z := ih (j + 1) (by omega) trivial
        rw [cntD_snoc, if_pos (bi_ne.mp h23), fstD_snoc, if_neg (fun e => h27 (by rw [(cnt0 j 2).mpr e]; rfl))] at z
        rw [nI_1]
        rw [nI_1]
        exact z
      · refine V.iload (pc := 30) dX12_gapOf_30 rfl ?_
        refine V.goto 37 (pc := 32) dX12_gapOf_32 (by decide) ?_
        refine V.is (pc := 37) dX12_gapOf_37 (by decide) (st1_4 rfl) ?_
        refine V.iinc1 (pc := 39) dX12_gapOf_39 (by decide) rfl (st1_3 rfl) ?_
        refine V.iinc1 (pc := 42) dX12_gapOf_42 (by decide) rfl (st1_5 rfl) ?_
        refine V.goto 8 (pc := 45) dX12_gapOf_45 (by decide) ?_
        have z := ih (j + 1) (by omega) trivial
        rw [cntD_snoc, if_pos (bi_ne.mp h23), fstD_snoc, if_pos ((cnt0 j 2).mp (by rw [L0, nI_eq (by omega) (by omega)] at h27; exact h27)), if_pos (bi_ne.mp h23), iI_nat] at z
        rw [nI_1]
        rw [nI_1]
        exact z
theorem c_gapOf {g : gG} {d : Nat} {T : mT} {n : Nat} {I : mI} {J : mJ} {F : mF} {m h : Nat} {y : Hd} {ss : List Sg} (x w : Int32) (hM : MS T F m) (hx : x = nI h) (hH : HdM I m h y) (hs : SgM I m ss) : Ct g mX12_gapOf (d + 5) [.ref m, .int x, .int w] 0 0 T n I J F (pureQ T n I J F (some (.int (if w = 0 then nI (cntD (seenP ss h y) 2 399) else iI (fstD (seenP ss h y) 2 399))))) := by
  refine Ct.ofV (k := 3) (by decide) (Nat.le_of_ble_eq_true rfl) ?_
  show V g mX12_gapOf (d + 5) _ 0 0 0 [some (.ref m), some (.int x), some (.int w), none, none, none] [] T n I J F
  refine V.iconst (v := 0) (pc := 0) dX12_gapOf_0 (by decide) ?_
  refine V.isn (pc := 1) dX12_gapOf_1 (by decide) (st1_3 rfl) ?_
  refine V.iconst (v := (-1)) (pc := 2) dX12_gapOf_2 (by decide) ?_
  refine V.is (pc := 3) dX12_gapOf_3 (by decide) (st1_4 rfl) ?_
  refine V.iconst (v := 2) (pc := 5) dX12_gapOf_5 (by decide) ?_
  refine V.is (pc := 6) dX12_gapOf_6 (by decide) (st1_5 rfl) ?_
  conv => arg 8; rw [show (2 : Int32) = nI (2 + 0) from rfl, L0]
  refine l_gapOf (y := y) (ss := ss) hM hx hH hs ?_ 399 0 (by omega) trivial
  refine V.iload_n (pc := 48) dX12_gapOf_48 rfl ?_
  refine V.if_ne 56 (pc := 49) dX12_gapOf_49 (by decide) (fun h49 => ?_) (fun h49 => ?_)
  · refine V.iload (pc := 56) dX12_gapOf_56 rfl ?_
    exact V.iret (pc := 58) dX12_gapOf_58 rfl ⟨by rw [if_neg h49], rfl, rfl, rfl, rfl, rfl⟩
  · refine V.iload_n (pc := 52) dX12_gapOf_52 rfl ?_
    refine V.goto 58 (pc := 53) dX12_gapOf_53 (by decide) ?_
    exact V.iret (pc := 58) dX12_gapOf_58 rfl ⟨by rw [if_pos h49], rfl, rfl, rfl, rfl, rfl⟩
theorem p_gone {g : gG} {d : Nat} {T : mT} {n : Nat} {I : mI} {J : mJ} {F : mF} {m : Nat} {A : Ab} (x w : Int32) (hM : MS T F m) (hA : AbOK A) (hR : RepM I J m A)  : Ct g mX12_gone (d + 6) [.ref m, .int x, .int w] 0 0 T n I J F (QM m T n I J F (some (.int (iI (s_gone A x.toInt w.toInt)))) A) := by
  refine Ct.ofV (k := 0) (by decide) (Nat.le_of_ble_eq_true rfl) ?_
  show V g mX12_gone (d + 6) _ 0 0 0 [some (.ref m), some (.int x), some (.int w)] [] T n I J F
  refine V.aload_n (pc := 0) dX12_gone_0 rfl ?_
  refine V.iconst (v := 0) (pc := 1) dX12_gone_1 (by decide) ?_
  refine V.putI (pc := 2) dX12_gone_2 fX12_88_11 (fun r h => by cases h; exact Or.inl rfl) rfl hM.o ?_
  refine V.thr hR (fun I1 hR1 hf => ?_)
  clear hR
  have hR := hR1
  clear hR1
  refine V.aload_n (pc := 5) dX12_gone_5 rfl ?_
  refine V.iload_n (pc := 6) dX12_gone_6 rfl ?_
  refine V.pV (as := [_]) (pc := 7) dX12_gone_7 lX12_111 bX12_isHand nX12_isHand (ci := 11) rfl eX12_isHand hM.o (c_isHand (d := d + 4) _ hM (by have := hA.1.1; omega) hR.h0) (by omega) rfl (Nat.le_of_ble_eq_true rfl) ?_
  refine V.if_eq 32 (pc := 10) dX12_gone_10 (by decide) (fun h10 => ?_) (fun h10 => ?_)
  · have q := bi_eq.mp h10
    have ey := hdAt_no q
    refine V.iconst (v := (-1)) (pc := 32) dX12_gone_32 (by decide) ?_
    exact V.iret (pc := 33) dX12_gone_33 rfl ⟨by rw [s_gone]; simp only [ey]; rfl, rfl, rfl, rfl, hf, Frm.rf, hR⟩
  · have q := bi_ne.mp h10
    obtain ⟨y, h1y, e1y⟩ := hdAt_yes q
    have h1x := nIx q.1 rfl
    have h1H := hR.hd hA h1y
    have h1b := rate_bd h1H.2.2 y.2.2.2.length
    rw [List.take_length] at h1b
    refine V.iload_n (pc := 13) dX12_gone_13 rfl ?_
    refine V.i2l (pc := 14) dX12_gone_14 ?_
    refine V.lconst (v := 0) (pc := 15) dX12_gone_15 (by decide) ?_
    refine V.lconst (v := 1) (pc := 16) dX12_gone_16 (by decide) ?_
    refine V.pS (as := [_, _, _]) (pc := 17) dX12_gone_17 lX12_98 bX12_in sX12_in (c_in (d := d + 5) _ _ _) (by omega) rfl (Nat.le_of_ble_eq_true rfl) ?_
    refine V.if_eq 32 (pc := 20) dX12_gone_20 (by decide) (fun h20 => ?_) (fun h20 => ?_)
    · have qw : ¬ (0 ≤ w.toInt ∧ w.toInt ≤ 1) := fun z => bi_eq.mp h20 ((in64 w 0 1 0 1 rfl rfl).mpr z)
      refine V.iconst (v := (-1)) (pc := 32) dX12_gone_32 (by decide) ?_
      exact V.iret (pc := 33) dX12_gone_33 rfl ⟨by rw [s_gone]; simp only [e1y]; rw [if_neg (by omega), if_neg (by omega)]; rfl, rfl, rfl, rfl, hf, Frm.rf, hR⟩
    · have qw : 0 ≤ w.toInt ∧ w.toInt ≤ 1 := (in64 w 0 1 0 1 rfl rfl).mp (bi_ne.mp h20)
      refine V.aload_n (pc := 23) dX12_gone_23 rfl ?_
      refine V.iload_n (pc := 24) dX12_gone_24 rfl ?_
      refine V.iload_n (pc := 25) dX12_gone_25 rfl ?_
      refine V.pV (as := [_, _]) (pc := 26) dX12_gone_26 lX12_422 bX12_gapOf nX12_gapOf (ci := 11) rfl eX12_gapOf hM.o (c_gapOf (d := d + 0) (h := x.toInt.toNat) (y := y) (ss := sgs (cor A)) _ _ hM h1x h1H (hR.sg hA)) (by omega) rfl (Nat.le_of_ble_eq_true rfl) ?_
      refine V.goto 33 (pc := 29) dX12_gone_29 (by decide) ?_
      exact V.iret (pc := 33) dX12_gone_33 rfl ⟨by
                    rw [s_gone]
                    simp only [e1y]
                    by_cases w0 : w = 0
                    · rw [if_pos w0, if_pos (by rw [w0]; rfl), iI_nat]
                    · have w1 : ¬ w.toInt = 0 := fun z => w0 ((eq32 w 0).mpr z)
                      rw [if_neg w0, if_neg w1, if_pos (by omega)], rfl, rfl, rfl, hf, Frm.rf, hR⟩
