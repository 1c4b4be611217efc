theorem sgH_take {ss : List Sg} {h j : Nat} {s : Sg} (hq : ss[j]? = some s) : sgH (ss.take (j + 1)) h = sgH (ss.take j) h ++ (if s.1 = h then [s] else []) := by
  unfold sgH
  rw [List.take_succ, hq, List.filter_append]
  congr 1
  by_cases q : s.1 = h
  · rw [if_pos q]; simp [q]
  · rw [if_neg q]; simp [q]
theorem sgH_len {ss : List Sg} {h j : Nat} : (sgH (ss.take j) h).length ≤ j := by
  unfold sgH
  exact Nat.le_trans (List.length_filter_le _ _) (List.length_take_le j ss)
theorem sgH_len2 {ss : List Sg} {h : Nat} : (sgH ss h).length ≤ ss.length := List.length_filter_le _ _
/-- what was seen, laid by so far -/
def SLx (ds : List Sg) (oo : Nat) (I : mI) (I' : mI) : Prop := (∀ a, (a < oo ∨ oo + 4 < a) → I' a = I a) ∧ (∀ k, k ≠ 4 → I' oo k = I oo k) ∧ I' oo 4 = nI ds.length ∧ ∀ (i : Nat) (s : Sg), ds[i]? = some s → I' (oo + 3) i = nI s.2.1 ∧ I' (oo + 4) i = nI s.2.2
theorem SLx.add {ds : List Sg} {oo : Nat} {I I' : mI} {s : Sg} (h : SLx ds oo I I') : SLx (ds ++ [s]) oo I (up2 (up2 (up2 I' (oo + 3) ds.length (nI s.2.1)) (oo + 4) ds.length (nI s.2.2)) oo 4 (nI (ds.length + 1))) := by
  obtain ⟨h1, h2, h3, h4⟩ := h
  refine ⟨fun a ha => by rw [up2_off (by omega), up2_off (by omega), up2_off (by omega)]; exact h1 a ha, fun k hk => by rw [up2_ne (by omega), up2_off (by omega), up2_off (by omega)]; exact h2 k hk, by rw [up2_same, List.length_append]; rfl, fun i t hi => ?_⟩
  by_cases q : i < ds.length
  · rw [List.getElem?_append_left q] at hi
    rw [up2_off (by omega), up2_off (by omega), up2_ne (by omega), up2_off (by omega), up2_ne (by omega), up2_off (by omega)]
    exact h4 i t hi
  · have hl := (List.getElem?_eq_some_iff.mp hi).1
    rw [List.length_append, List.length_singleton] at hl
    obtain rfl : i = ds.length := by omega
    rw [List.getElem?_append_right (by omega), Nat.sub_self] at hi
    obtain rfl : s = t := by simpa using hi
    rw [up2_off (by omega), up2_off (by omega), up2_same, up2_off (by omega), up2_same]
    exact ⟨rfl, rfl⟩
theorem l_f7 {g : gG} {d : Nat} {T : mT} {n : Nat} {I : mI} {J : mJ} {F : mF} {Q : mQ} {oo u h : Nat} {ss : List Sg} {v3 : Int32} (hSs : SgS T F oo) (hS : SS T F u) (hu : u + 20 ≤ oo) (hh : h < 6) (hus : ss.length ≤ 10 ∧ I u 12 = nI ss.length ∧ (∀ (i : Nat) (s : Sg), ss[i]? = some s → I (u + 4) i = nI s.1 ∧ I (u + 5) i = nI s.2.1 ∧ I (u + 6) i = nI s.2.2) ∧ ∀ s ∈ ss, s.1 < 6 ∧ s.2.1 ≤ 1000000 ∧ s.2.2 < 400) (kk : ∀ I' : mI, SLx (sgH ss h) oo I I' → V g mX7_findFor (d + 6) Q 0 0 92 [some (.ref oo), some (.ref u), some (.int (nI h)), some (.int v3), some (.int (nI ss.length))] [] T n I' J F) : ∀ (t j : Nat) (I' : mI), j + t = ss.length → (SLx (sgH (ss.take j) h) oo I I') → V g mX7_findFor (d + 6) Q 0 0 18 [some (.ref oo), some (.ref u), some (.int (nI h)), some (.int v3), some (.int (nI j))] [] T n I' J F := by
  intro t
  induction t with
  | zero =>
    intro j I' hj hi
    obtain rfl : j = ss.length := by omega
    have hTu := hS.o
    have hl := hus.1
    refine V.iload (pc := 18) dX7_findFor_18 rfl ?_
    refine V.aload_n (pc := 20) dX7_findFor_20 rfl ?_
    refine V.getI (pc := 21) dX7_findFor_21 fX7_31_7 rfl (by assumption) ?_
    rw [hi.1 u (by omega), hus.2.1]
    refine V.icmp_ge 92 (pc := 24) dX7_findFor_24 (by decide) (fun h24 => ?_) (fun h24 => absurd (nI_le (Nat.le_refl _) (by omega)) h24)
    rw [List.take_length] at hi
    exact kk I' hi
  | succ t ih =>
    intro j I' hj hi
    have hTu := hS.o
    have hl := hus.1
    obtain ⟨s, hq⟩ : ∃ s, ss[j]? = some s := ⟨_, List.getElem?_eq_getElem (by omega)⟩
    obtain ⟨r0, r1, r2⟩ := hus.2.2.1 j s hq
    have hb := hus.2.2.2 s (List.mem_of_getElem? hq)
    have hlj := sgH_len (ss := ss) (h := h) (j := j)
    have e4 : I' (u + 4) = I (u + 4) := hi.1 _ (by omega)
    have e5 : I' (u + 5) = I (u + 5) := hi.1 _ (by omega)
    have e6 : I' (u + 6) = I (u + 6) := hi.1 _ (by omega)
    refine V.iload (pc := 18) dX7_findFor_18 rfl ?_
    refine V.aload_n (pc := 20) dX7_findFor_20 rfl ?_
    refine V.getI (pc := 21) dX7_findFor_21 fX7_31_7 rfl (by assumption) ?_
    rw [hi.1 u (by omega), hus.2.1]
    refine V.icmp_ge 92 (pc := 24) dX7_findFor_24 (by decide) (fun h24 => absurd h24 (nI_ge (by omega) (by omega))) (fun h24 => ?_)
    refine V.aload_n (pc := 27) dX7_findFor_27 rfl ?_
    refine V.getI (pc := 28) dX7_findFor_28 fX7_15_6 rfl hSs.o ?_
    rw [hi.2.2.1]
    refine V.bipush (v := 10) (pc := 31) dX7_findFor_31 (by decide) ?_
    refine V.icmp_ge 92 (pc := 33) dX7_findFor_33 (by decide) (fun h33 => absurd h33 (by rw [le32, nI_toInt (by omega)]; show ¬ (10 : Int) ≤ _; omega)) (fun h33 => ?_)
    refine V.aload_n (pc := 36) dX7_findFor_36 rfl ?_
    refine V.iload (pc := 37) dX7_findFor_37 rfl ?_
    refine V.pV (as := [_]) (pc := 39) dX7_findFor_39 lX7_36 bX8_sightHandAt nX8_sightHandAt (ci := 7) rfl eX8_sightHandAt (by assumption) (x_sightHand (d := d + 5) (k := j) _ hS rfl (by omega)) (by omega) rfl (Nat.le_of_ble_eq_true rfl) ?_
    rw [e4, r0]
    refine V.iload_n (pc := 42) dX7_findFor_42 rfl ?_
    refine V.icmp_ne 86 (pc := 43) dX7_findFor_43 (by decide) (fun h43 => ?_) (fun h43 => ?_)
    · have h43i : ¬ s.1 = h := fun z => h43 (by rw [z])
      refine V.iinc1 (pc := 86) dX7_findFor_86 (by decide) rfl (st1_4 rfl) ?_
      refine V.goto 18 (pc := 89) dX7_findFor_89 (by decide) ?_
      rw [nI_1]
      refine ih (j + 1) I' (by omega) ?_
      rw [sgH_take hq, if_neg h43i, List.append_nil]
      exact hi
    · have h43i : s.1 = h := (nI_eq (by omega) (by omega)).mp h43
      refine V.aload_n (pc := 46) dX7_findFor_46 rfl ?_
      refine V.getR (pc := 47) dX7_findFor_47 fX7_18_6 rfl hSs.o hSs.f5 ?_
      refine V.aload_n (pc := 50) dX7_findFor_50 rfl ?_
      refine V.getI (pc := 51) dX7_findFor_51 fX7_15_6 rfl hSs.o ?_
      rw [hi.2.2.1]
      refine V.aload_n (pc := 54) dX7_findFor_54 rfl ?_
      refine V.iload (pc := 55) dX7_findFor_55 rfl ?_
      refine V.pV (as := [_]) (pc := 57) dX7_findFor_57 lX7_40 bX8_sightDayAt nX8_sightDayAt (ci := 7) rfl eX8_sightDayAt (by assumption) (x_sightDay (d := d + 5) (k := j) _ hS rfl (by omega)) (by omega) rfl (Nat.le_of_ble_eq_true rfl) ?_
      rw [e5, r1]
      refine V.iast' (k := (sgH (ss.take j) h).length) (pc := 60) dX7_findFor_60 hSs.t5 rfl (by omega) (by decide) ?_
      refine V.aload_n (pc := 61) dX7_findFor_61 rfl ?_
      refine V.getR (pc := 62) dX7_findFor_62 fX7_22_6 rfl hSs.o hSs.f6 ?_
      refine V.aload_n (pc := 65) dX7_findFor_65 rfl ?_
      refine V.getI (pc := 66) dX7_findFor_66 fX7_15_6 rfl hSs.o ?_
      rw [up2_off (by omega), hi.2.2.1]
      refine V.aload_n (pc := 69) dX7_findFor_69 rfl ?_
      refine V.iload (pc := 70) dX7_findFor_70 rfl ?_
      refine V.pV (as := [_]) (pc := 72) dX7_findFor_72 lX7_43 bX8_sightMarkAt nX8_sightMarkAt (ci := 7) rfl eX8_sightMarkAt (by assumption) (x_sightMark (d := d + 5) (k := j) _ hS rfl (by omega)) (by omega) rfl (Nat.le_of_ble_eq_true rfl) ?_
      rw [up2_off (by omega), e6, r2]
      refine V.iast' (k := (sgH (ss.take j) h).length) (pc := 75) dX7_findFor_75 hSs.t6 rfl (by omega) (by decide) ?_
      refine V.aload_n (pc := 76) dX7_findFor_76 rfl ?_
      refine V.dup (pc := 77) dX7_findFor_77 rfl ?_
      refine V.getI (pc := 78) dX7_findFor_78 fX7_15_6 rfl hSs.o ?_
      rw [up2_off (by omega), up2_off (by omega), hi.2.2.1]
      refine V.iconst (v := 1) (pc := 81) dX7_findFor_81 (by decide) ?_
      refine V.iadd (pc := 82) dX7_findFor_82 ?_
      rw [nI_1]
      refine V.putI (pc := 83) dX7_findFor_83 fX7_15_6 (fun r h => by cases h; exact Or.inl rfl) rfl hSs.o ?_
      refine V.iinc1 (pc := 86) dX7_findFor_86 (by decide) rfl (st1_4 rfl) ?_
      refine V.goto 18 (pc := 89) dX7_findFor_89 (by decide) ?_
      rw [nI_1]
      refine ih (j + 1) _ (by omega) ?_
      rw [sgH_take hq, if_pos h43i]
      exact hi.add
theorem x_find7 {g : gG} {d : Nat} {T : mT} {n : Nat} {I : mI} {J : mJ} {F : mF} {oo u h mk : Nat} {s : List Nat} {ss : List Sg} (v z : Int32) (hSs : SgS T F oo) (hS : SS T F u) (hs : StkU I u s) (hu : u + 20 ≤ oo) (hx : v = nI h) (hz : z = nI mk) (hh : h < 6) (hm : 0 < mk ∧ mk ≤ 400) (hus : ss.length ≤ 10 ∧ I u 12 = nI ss.length ∧ (∀ (i : Nat) (s : Sg), ss[i]? = some s → I (u + 4) i = nI s.1 ∧ I (u + 5) i = nI s.2.1 ∧ I (u + 6) i = nI s.2.2) ∧ ∀ s ∈ ss, s.1 < 6 ∧ s.2.1 ≤ 1000000 ∧ s.2.2 < 400) (hsm : ∀ s ∈ ss, s.1 = h → s.2.2 < mk) : Ct g mX7_findFor (d + 6) [.ref oo, .ref u, .int v, .int z] 0 0 T n I J F (fun r' T' n' I' J' F' => r' = none ∧ T' = T ∧ n' = n ∧ F' = F ∧ IRx (sgH ss h) mk oo I J (insF ss h mk s) I' J') := by
  refine Ct.ofV (k := 1) (by decide) (Nat.le_of_ble_eq_true rfl) ?_
  show V g mX7_findFor (d + 6) _ 0 0 0 [some (.ref oo), some (.ref u), some (.int v), some (.int z), none] [] T n I J F
  subst hx hz
  have hlH := sgH_len2 (ss := ss) (h := h)
  have hds : (sgH ss h).length ≤ 10 ∧ ∀ t ∈ sgH ss h, t.2.1 ≤ 1000000 ∧ t.2.2 < mk := ⟨by have := hus.1; omega, fun t ht => ⟨(hus.2.2.2 t (sgH_mem ht).1).2.1, hsm t (sgH_mem ht).1 (sgH_mem ht).2⟩⟩
  refine V.aload_n (pc := 0) dX7_findFor_0 rfl ?_
  refine V.iload_n (pc := 1) dX7_findFor_1 rfl ?_
  refine V.putI (pc := 2) dX7_findFor_2 fX7_9_6 (fun r h => by cases h; exact Or.inl rfl) rfl hSs.o ?_
  refine V.aload_n (pc := 5) dX7_findFor_5 rfl ?_
  refine V.iconst (v := 0) (pc := 6) dX7_findFor_6 (by decide) ?_
  refine V.putI (pc := 7) dX7_findFor_7 fX7_25_6 (fun r h => by cases h; exact Or.inl rfl) rfl hSs.o ?_
  refine V.aload_n (pc := 10) dX7_findFor_10 rfl ?_
  refine V.iconst (v := 0) (pc := 11) dX7_findFor_11 (by decide) ?_
  refine V.putI (pc := 12) dX7_findFor_12 fX7_15_6 (fun r h => by cases h; exact Or.inl rfl) rfl hSs.o ?_
  refine V.iconst (v := 0) (pc := 15) dX7_findFor_15 (by decide) ?_
  refine V.is (pc := 16) dX7_findFor_16 (by decide) (st1_4 rfl) ?_
  conv => arg 8; rw [L0]
  refine l_f7 (ss := ss) (h := h) (I := up2 (up2 (up2 I oo 3 (nI mk)) oo 7 0) oo 4 0) hSs hS hu hh ⟨hus.1, by rw [up2_off (by omega), up2_off (by omega), up2_off (by omega)]; exact hus.2.1, fun i t hi => by simp (disch := omega) only [up2_off]; exact hus.2.2.1 i t hi, hus.2.2.2⟩ (fun I3 k1 => ?_) ss.length 0 _ (by omega) ⟨fun _ _ => rfl, fun _ _ => rfl, up2_same, fun i t hi => by simp [sgH] at hi⟩
  refine V.aload_n (pc := 92) dX7_findFor_92 rfl ?_
  refine V.aload_n (pc := 93) dX7_findFor_93 rfl ?_
  refine V.invU0 (as := [_]) (pc := 94) dX7_findFor_94 (ci := 6) rfl uX7_46_X7 bX5_goThrough nX5_goThrough hSs.o (c_go_X7 (d := d + 0) (R := IRx (sgH ss h) mk oo I J) (stp := fun N => istepW (if N = 2 then 1 else 4) ss h mk s N) (u := u) (s := s) (b1 := (0, 0, 0, 0)) hSs.1 hS (hs.congr (by rw [k1.1 _ (by omega), up2_off (by omega), up2_off (by omega), up2_off (by omega)]) (by rw [k1.1 _ (by omega), up2_off (by omega), up2_off (by omega), up2_off (by omega)])) (fun b I2 J2 k v h => h.tried) (fun b I2 J2 h => ⟨(h.1 u (by omega)).trans (by rw [k1.1 _ (by omega), up2_off (by omega), up2_off (by omega), up2_off (by omega)]), (h.1 (u + 2) (by omega)).trans (by rw [k1.1 _ (by omega), up2_off (by omega), up2_off (by omega), up2_off (by omega)])⟩) ⟨by omega, by omega⟩ (fun c b I2 J2 hv hr hd d => x_weigh7 (w := 4) hSs (Or.inr rfl) hs.1 (by rw [v4, Bool.and_eq_true] at hv; exact hv.1) hm hds hr hd) (fun c b I2 J2 hv hr hd d => x_weigh7 (w := 1) hSs (Or.inl rfl) hs.1 hv hm hds hr hd) ⟨fun a ha => by rw [up2_off (by omega), k1.1 a ha, up2_off (by omega), up2_off (by omega), up2_off (by omega)], rfl, by rw [up2_ne (by omega), k1.2.1 3 (by omega), up2_ne (by omega), up2_ne (by omega), up2_same], by rw [up2_ne (by omega)]; exact k1.2.2.1, fun i s hi => by rw [up2_off (by omega), up2_off (by omega)]; exact k1.2.2.2 i s hi, by rw [up2_ne (by omega), k1.2.1 7 (by omega), up2_ne (by omega), up2_same]; rfl, ⟨up2_same, fun z => absurd rfl z⟩, by decide, by decide⟩) (by omega) rfl (Nat.le_of_ble_eq_true rfl) ?_
  rintro _ _ _ I2 J2 _ ⟨rfl, rfl, rfl, rfl, w1⟩
  rw [show foldP (v4 s.length) ((fun N => istepW (if N = 2 then 1 else 4) ss h mk s N) 4) 65536 (foldP (vld s.length 2) ((fun N => istepW (if N = 2 then 1 else 4) ss h mk s N) 2) 256 (0, 0, 0, 0)) = insF ss h mk s from insG_eq] at w1
  exact V.vret (pc := 97) dX7_findFor_97 rfl ⟨rfl, rfl, rfl, rfl, w1⟩
section IRQ
variable {T : mT} {I I' : mI} {J J' : mJ} {F : mF} {x mk : Nat} {ds : List Sg} {b : ISt}
theorem IRx.srf (h : IRx ds mk (x + 36) I J b I' J') : SrF x I J I' J' := ⟨fun c hc => h.1 c (by omega), fun c hc => by rw [h.2.1]⟩
end IRQ
theorem y_inside {g : gG} {d : Nat} {T : mT} {n : Nat} {I : mI} {J : mJ} {F : mF} {x : Nat} {A : Ab} (v w : Int32) (hX : XS T F x) (hA : AbOK A) (hR : RepX T I J F x A)  : Ct g mX11_inside (d + 7) [.ref x, .int v, .int w] 0 0 T n I J F (QX x T n I J F (some (.int (iI (s_inside A v.toInt w.toInt)))) A) := by
  refine Ct.ofV (k := 1) (by decide) (Nat.le_of_ble_eq_true rfl) ?_
  show V g mX11_inside (d + 7) _ 0 0 0 [some (.ref x), some (.int v), some (.int w), none] [] T n I J F
  have hTo := hX.s.o
  have hT10 := hX.o10
  have hT11 := hX.o11
  refine V.aload_n (pc := 0) dX11_inside_0 rfl ?_
  refine V.getR (pc := 1) dX11_inside_1 fX11_10_10 rfl hX.o hX.f0 ?_
  refine V.iload_n (pc := 4) dX11_inside_4 rfl ?_
  by_cases q1 : 0 ≤ v.toInt ∧ v.toInt < (hds (cor A)).length
  · obtain ⟨y1, hy1, e1y⟩ := hdAt_yes q1
    have h6 := hA.1.1
    have hY1 := hA.1.2.1 y1 (List.mem_of_getElem? hy1)
    have hW1 := hR.hd hy1
    have hN1 := hX.s.n (h := v.toInt.toNat) (by omega)
    have hTa1 := hN1.o
    have hv1 := nIx q1.1 rfl
    refine V.pV (as := [_]) (pc := 5) dX11_inside_5 lX11_95 bX8_handAt nX8_handAt (ci := 7) rfl eX8_handAt (by assumption) (x_handAtY (d := d + 6) (k := (hds (cor A)).length) _ hX.s hR.h2 hA.1.1 q1) (by omega) rfl (Nat.le_of_ble_eq_true rfl) ?_
    refine V.asn (pc := 8) dX11_inside_8 (by decide) (st1_3 rfl) ?_
    refine V.aload_n (pc := 9) dX11_inside_9 rfl ?_
    refine V.ifnull (pc := 10) dX11_inside_10 ?_
    refine V.iload_n (pc := 13) dX11_inside_13 rfl ?_
    refine V.if_lt 23 (pc := 14) dX11_inside_14 (by decide) (fun h14 => ?_) (fun h14 => ?_)
    · have w1 : w.toInt < 0 := (lt32 _ _).mp h14
      refine V.iconst (v := (-1)) (pc := 23) dX11_inside_23 (by decide) ?_
      exact V.iret (pc := 24) dX11_inside_24 rfl (QX.q hX hR (by rw [s_inside]; simp only [e1y]; rw [if_neg (by omega)]; rfl))
    · have w1x : 0 ≤ w.toInt := by
        rw [lt32] at h14
        have e0 : (0 : Int32).toInt = 0 := rfl
        omega
      refine V.iload_n (pc := 17) dX11_inside_17 rfl ?_
      refine V.bipush (v := 6) (pc := 18) dX11_inside_18 (by decide) ?_
      refine V.icmp_le 25 (pc := 20) dX11_inside_20 (by decide) (fun h20 => ?_) (fun h20 => ?_)
      · have qw : w.toInt ≤ 6 := (le32 _ _).mp h20
        refine V.aload_n (pc := 25) dX11_inside_25 rfl ?_
        refine V.getR (pc := 26) dX11_inside_26 fX11_64_10 rfl hX.o hX.f11 ?_
        refine V.aload_n (pc := 29) dX11_inside_29 rfl ?_
        refine V.getR (pc := 30) dX11_inside_30 fX11_10_10 rfl hX.o hX.f0 ?_
        refine V.iload_n (pc := 33) dX11_inside_33 rfl ?_
        refine V.aload_n (pc := 34) dX11_inside_34 rfl ?_
        refine V.getI (pc := 35) dX11_inside_35 fX11_104_1 rfl (by assumption) ?_
        rw [hW1.1]
        refine V.invV0 (as := [_, _, _]) (pc := 38) dX11_inside_38 lX11_240 bX7_findFor nX7_findFor (ci := 6) rfl eX7_findFor (by assumption) (x_find7 (d := d + 0) (u := x + 1) (h := v.toInt.toNat) (mk := y1.1) (s := stk (cor A)) (ss := sgs (cor A)) _ _ hX.sight hX.s (hR.stkU hA) (by omega) hv1 rfl (by omega) ⟨hY1.1, hY1.2.1⟩ ⟨(hR.sg hA).1, hR.h12, (hR.sg hA).2.1, (hR.sg hA).2.2⟩ (fun s hs e => (hA.1.2.2.2.2.2.2.2.2.1 s hs).2.2 y1 (by rw [e]; exact hy1))) (by omega) rfl (Nat.le_of_ble_eq_true rfl) ?_
        rintro _ _ _ I2 J2 _ ⟨rfl, rfl, rfl, rfl, w1⟩
        have f2 := w1.srf
        have hok := insOK4 (ss := sgs (cor A)) (h := v.toInt.toNat) (mk := y1.1) (s := stk (cor A)) ⟨hY1.1, hY1.2.1⟩ (fun s hs e => (hA.1.2.2.2.2.2.2.2.2.1 s hs).2.2 y1 (by rw [e]; exact hy1))
        obtain ⟨-, -, -, -, -, k6, ⟨k7, k8⟩, k9, k10⟩ := w1
        generalize hgB : (insF (sgs (cor A)) v.toInt.toNat y1.1 (stk (cor A))) = B at k6 k7 k8 k9 k10 hok
        have ok4 := hok.2.2.2
        have ok1 := hok.1
        refine V.iload_n (pc := 41) dX11_inside_41 rfl ?_
        refine V.if_ne 53 (pc := 42) dX11_inside_42 (by decide) (fun h42 => ?_) (fun h42 => ?_)
        · have w0 : ¬ w.toInt = 0 := fun z => h42 ((eq32 _ _).mpr z)
          have w0n : ¬ w.toInt.toNat = 0 := by omega
          refine V.aload_n (pc := 53) dX11_inside_53 rfl ?_
          refine V.getR (pc := 54) dX11_inside_54 fX11_64_10 rfl hX.o hX.f11 ?_
          refine V.getI (pc := 57) dX11_inside_57 fX11_246_6 rfl (by assumption) ?_
          rw [k7]
          refine V.if_ne 65 (pc := 60) dX11_inside_60 (by decide) (fun h60 => ?_) (fun h60 => ?_)
          · have c0 : ¬ B.2.1 = 0 := fun z => h60 (by rw [z]; rfl)
            have c1 : ¬ B.1 = 0 := fun z => c0 (ok4.mp z)
            refine V.iload_n (pc := 65) dX11_inside_65 rfl ?_
            refine V.iconst (v := 1) (pc := 66) dX11_inside_66 (by decide) ?_
            refine V.icmp_ne 78 (pc := 67) dX11_inside_67 (by decide) (fun h67 => ?_) (fun h67 => ?_)
            · have w2 : ¬ w.toInt = 1 := fun z => h67 ((eq32 _ _).mpr z)
              refine V.iload_n (pc := 78) dX11_inside_78 rfl ?_
              refine V.iconst (v := 2) (pc := 79) dX11_inside_79 (by decide) ?_
              refine V.icmp_ne 93 (pc := 80) dX11_inside_80 (by decide) (fun h80 => ?_) (fun h80 => ?_)
              · have w3 : ¬ w.toInt = 2 := fun z => h80 ((eq32 _ _).mpr z)
                refine V.aload_n (pc := 93) dX11_inside_93 rfl ?_
                refine V.getR (pc := 94) dX11_inside_94 fX11_64_10 rfl hX.o hX.f11 ?_
                refine V.iload_n (pc := 97) dX11_inside_97 rfl ?_
                refine V.iconst (v := 3) (pc := 98) dX11_inside_98 (by decide) ?_
                refine V.isub (pc := 99) dX11_inside_99 ?_
                rw [L3, i_subk (by omega)]
                refine V.pU (as := [_]) (pc := 100) dX11_inside_100 (ci := 6) rfl uX11_250_X7 bX5_bestWheel nX5_bestWheel (by assumption) (x_best7 (d := d + 6) (k := B.2.1) _ hX.sight.1 k7 k9) (by omega) rfl (Nat.le_of_ble_eq_true rfl) ?_
                rw [nI_toInt (by omega), Int.toNat_natCast]
                exact V.iret (pc := 103) dX11_inside_103 rfl (f2.qx hX hA hR (by
        have eS : s_inside A v.toInt w.toInt = insV B w.toInt.toNat := by rw [s_inside]; simp only [e1y]; rw [if_pos ⟨w1x, qw⟩, hgB]
        rw [eS]
        by_cases z : 2 * B.2.1 < w.toInt.toNat - 2
        · rw [show insV B w.toInt.toNat = -1 from by rw [insV, if_neg w0n, if_neg c1, if_neg (by omega), if_neg (by omega), if_pos z], if_neg (by omega)]; rfl
        · rw [show insV B w.toInt.toNat = (dg (2 * B.2.1) B.2.2.2 (w.toInt.toNat - 3) : Int) from by rw [insV, if_neg w0n, if_neg c1, if_neg (by omega), if_neg (by omega), if_neg z], if_pos (by omega), (k8 c0).2 _ (by omega), iI_nat]))
              · have w3 : w.toInt = 2 := by rw [h80]; rfl
                refine V.aload_n (pc := 83) dX11_inside_83 rfl ?_
                refine V.getR (pc := 84) dX11_inside_84 fX11_64_10 rfl hX.o hX.f11 ?_
                refine V.getI (pc := 87) dX11_inside_87 fX11_247_6 rfl (by assumption) ?_
                rw [(k8 c0).1]
                refine V.goto 103 (pc := 90) dX11_inside_90 (by decide) ?_
                exact V.iret (pc := 103) dX11_inside_103 rfl (f2.qx hX hA hR (by rw [s_inside]; simp only [e1y]; rw [if_pos ⟨w1x, qw⟩, insV, hgB]; rw [if_neg w0n, if_neg c1, if_neg (by omega), if_pos (by omega), iI_nat]))
            · have w2 : w.toInt = 1 := by rw [h67]; rfl
              refine V.aload_n (pc := 70) dX11_inside_70 rfl ?_
              refine V.getR (pc := 71) dX11_inside_71 fX11_64_10 rfl hX.o hX.f11 ?_
              refine V.getI (pc := 74) dX11_inside_74 fX11_246_6 rfl (by assumption) ?_
              rw [k7]
              exact V.iret (pc := 77) dX11_inside_77 rfl (f2.qx hX hA hR (by rw [s_inside]; simp only [e1y]; rw [if_pos ⟨w1x, qw⟩, insV, hgB]; rw [if_neg w0n, if_neg c1, if_pos (by omega), iI_nat]))
          · have c0 : B.2.1 = 0 := by
              rw [L0, nI_eq (by omega) (by omega)] at h60
              exact h60
            have c1 : B.1 = 0 := ok4.mpr c0
            refine V.iconst (v := (-1)) (pc := 63) dX11_inside_63 (by decide) ?_
            exact V.iret (pc := 64) dX11_inside_64 rfl (f2.qx hX hA hR (by rw [s_inside]; simp only [e1y]; rw [if_pos ⟨w1x, qw⟩, insV, hgB]; rw [if_neg w0n, if_pos c1]; rfl))
        · have w0 : w.toInt = 0 := by rw [h42]; rfl
          refine V.aload_n (pc := 45) dX11_inside_45 rfl ?_
          refine V.getR (pc := 46) dX11_inside_46 fX11_64_10 rfl hX.o hX.f11 ?_
          refine V.getI (pc := 49) dX11_inside_49 fX11_243_6 rfl (by assumption) ?_
          rw [k6]
          exact V.iret (pc := 52) dX11_inside_52 rfl (f2.qx hX hA hR (by rw [s_inside]; simp only [e1y]; rw [if_pos ⟨w1x, qw⟩, insV, hgB]; rw [if_pos (by omega), iI_nat]))
      · have qw : ¬ w.toInt ≤ 6 := fun z => h20 ((le32 _ _).mpr z)
        refine V.iconst (v := (-1)) (pc := 23) dX11_inside_23 (by decide) ?_
        exact V.iret (pc := 24) dX11_inside_24 rfl (QX.q hX hR (by rw [s_inside]; simp only [e1y]; rw [if_neg (by omega)]; rfl))
  · have e1y := hdAt_no q1
    refine V.pV (as := [_]) (pc := 5) dX11_inside_5 lX11_95 bX8_handAt nX8_handAt (ci := 7) rfl eX8_handAt (by assumption) (x_handAtN (d := d + 6) (k := (hds (cor A)).length) _ hX.s hR.h2 hA.1.1 q1) (by omega) rfl (Nat.le_of_ble_eq_true rfl) ?_
    refine V.nsn (pc := 8) dX11_inside_8 (by decide) (st1_3 rfl) ?_
    refine V.nload_n (pc := 9) dX11_inside_9 rfl ?_
    refine V.ifnullN 23 (pc := 10) dX11_inside_10 (by decide) ?_
    refine V.iconst (v := (-1)) (pc := 23) dX11_inside_23 (by decide) ?_
    exact V.iret (pc := 24) dX11_inside_24 rfl (QX.q hX hR (by rw [s_inside]; simp only [e1y]; rfl))
