theorem l_off {g : gG} {d : Nat} {T : mT} {n : Nat} {I : mI} {J : mJ} {F : mF} {Q : mQ} {m h u l mk : Nat} {ss : List Sg} (hM : MS T F m) (hs : SgM I m ss) (hu : u ≤ 207360000) (hl : 0 < l ∧ l ≤ 207360000) (hm : 0 < mk ∧ mk ≤ 400) (hh : h < 6) (hsm : ∀ s ∈ ss, s.1 = h → s.2.2 < mk) (kk : V g mX12_offsetBy (d + 1) Q 0 0 130 [some (.ref m), some (.int (nI h)), some (.long (lN u)), none, some (.long (lN l)), none, some (.int (nI mk)), some (.int (iI (obF h u l mk ss))), some (.int (nI ss.length)), none, none, none] [] T n I J F) (kr : obF h u l mk ss = -1 → Q (some (.int (-1))) T n I J F) : ∀ (t j : Nat) , j + t = ss.length → (obF h u l mk (ss.take j) ≠ -1) → V g mX12_offsetBy (d + 1) Q 0 0 15 [some (.ref m), some (.int (nI h)), some (.long (lN u)), none, some (.long (lN l)), none, some (.int (nI mk)), some (.int (iI (obF h u l mk (ss.take j)))), some (.int (nI j)), none, none, none] [] T n I J F := by
  intro t
  induction t with
  | zero =>
    intro j  hj hi
    obtain rfl : j = ss.length := by omega
    have h10 := hs.1
    refine V.iload (pc := 15) dX12_offsetBy_15 rfl ?_
    refine V.aload_n (pc := 17) dX12_offsetBy_17 rfl ?_
    refine V.getR (pc := 18) dX12_offsetBy_18 fX12_13_11 rfl hM.o hM.f3 ?_
    refine V.iconst (v := 4) (pc := 21) dX12_offsetBy_21 (by decide) ?_
    refine V.iald' (k := 4) (pc := 22) dX12_offsetBy_22 hM.t3 rfl (by decide) (by decide) ?_
    rw [hs.2.1]
    refine V.icmp_ge 130 (pc := 23) dX12_offsetBy_23 (by decide) (fun h23 => ?_) (fun h23 => absurd (nI_le (Nat.le_refl _) (by omega)) h23)
    rw [List.take_length]
    exact kk
  | succ t ih =>
    intro j  hj hi
    have h10 := hs.1
    obtain ⟨s, hq⟩ : ∃ s, ss[j]? = some s := ⟨_, List.getElem?_eq_getElem (by omega)⟩
    obtain ⟨r1, r2, r3⟩ := hs.2.2.1 j s hq
    have hmem := List.mem_of_getElem? hq
    obtain ⟨s1, s2, s3⟩ := hs.2.2.2 s hmem
    have ob := obF_bd (h := h) (u := u) (l := l) hm.1 (ss.take j) (mk : Int) (fun t ht => hsm t (List.mem_of_mem_take ht)) (by omega)
    have ob1 : -1 ≤ obF h u l mk (ss.take j) ∧ obF h u l mk (ss.take j) ≤ mk := ob
    have hK : mkN s.2.1 u l mk 0 < mk := Nat.mod_lt _ hm.1
    refine V.iload (pc := 15) dX12_offsetBy_15 rfl ?_
    refine V.aload_n (pc := 17) dX12_offsetBy_17 rfl ?_
    refine V.getR (pc := 18) dX12_offsetBy_18 fX12_13_11 rfl hM.o hM.f3 ?_
    refine V.iconst (v := 4) (pc := 21) dX12_offsetBy_21 (by decide) ?_
    refine V.iald' (k := 4) (pc := 22) dX12_offsetBy_22 hM.t3 rfl (by decide) (by decide) ?_
    rw [hs.2.1]
    refine V.icmp_ge 130 (pc := 23) dX12_offsetBy_23 (by decide) (fun h23 => absurd h23 (nI_ge (by omega) (by omega))) (fun h23 => ?_)
    refine V.bipush (v := 94) (pc := 26) dX12_offsetBy_26 (by decide) ?_
    refine V.iconst (v := 3) (pc := 28) dX12_offsetBy_28 (by decide) ?_
    refine V.iload (pc := 29) dX12_offsetBy_29 rfl ?_
    refine V.imul (pc := 31) dX12_offsetBy_31 ?_
    refine V.iadd (pc := 32) dX12_offsetBy_32 ?_
    rw [show (94 : Int32) = nI 94 from rfl, show (3 : Int32) = nI 3 from rfl, pk_mul, nI_add]
    refine V.is (pc := 33) dX12_offsetBy_33 (by decide) (st1_9 rfl) ?_
    refine V.aload_n (pc := 35) dX12_offsetBy_35 rfl ?_
    refine V.getR (pc := 36) dX12_offsetBy_36 fX12_13_11 rfl hM.o hM.f3 ?_
    refine V.iload (pc := 39) dX12_offsetBy_39 rfl ?_
    refine V.iald' (k := 94 + 3 * j) (pc := 41) dX12_offsetBy_41 hM.t3 rfl (by omega) (by decide) ?_
    rw [r1]
    refine V.iload_n (pc := 42) dX12_offsetBy_42 rfl ?_
    refine V.icmp_ne 124 (pc := 43) dX12_offsetBy_43 (by decide) (fun h43 => ?_) (fun h43 => ?_)
    · have h43i : ¬ s.1 = h := fun z => h43 (by rw [z])
      refine V.iinc1 (pc := 124) dX12_offsetBy_124 (by decide) rfl (st1_8 rfl) ?_
      refine V.goto 15 (pc := 127) dX12_offsetBy_127 (by decide) ?_
      refine V.weak wk_9 ?_
      refine V.weak wk_10 ?_
      refine V.weak wk_11 ?_
      rw [nI_1]
      have e9 : obF h u l mk (ss.take (j + 1)) = obF h u l mk (ss.take j) := by rw [obF_take hq, obS, if_neg h43i]
      have z0 := ih (j + 1) (by omega) (by rw [e9]; omega)
      rw [e9] at z0
      exact z0
    · have h43i : s.1 = h := (nI_eq (by omega) (by omega)).mp h43
      have hD := obD_lt (u := u) (l := l) hm.1 (hsm s hmem h43i)
      refine V.aload_n (pc := 46) dX12_offsetBy_46 rfl ?_
      refine V.getR (pc := 47) dX12_offsetBy_47 fX12_13_11 rfl hM.o hM.f3 ?_
      refine V.iload (pc := 50) dX12_offsetBy_50 rfl ?_
      refine V.iconst (v := 2) (pc := 52) dX12_offsetBy_52 (by decide) ?_
      refine V.iadd (pc := 53) dX12_offsetBy_53 ?_
      refine V.iald' (k := 94 + 3 * j + 2) (pc := 54) dX12_offsetBy_54 hM.t3 (by rw [show (2 : Int32) = nI 2 from rfl, nI_add]) (by omega) (by decide) ?_
      rw [r3]
      refine V.aload_n (pc := 55) dX12_offsetBy_55 rfl ?_
      refine V.getR (pc := 56) dX12_offsetBy_56 fX12_13_11 rfl hM.o hM.f3 ?_
      refine V.iload (pc := 59) dX12_offsetBy_59 rfl ?_
      refine V.iconst (v := 1) (pc := 61) dX12_offsetBy_61 (by decide) ?_
      refine V.iadd (pc := 62) dX12_offsetBy_62 ?_
      refine V.iald' (k := 94 + 3 * j + 1) (pc := 63) dX12_offsetBy_63 hM.t3 (by rw [nI_1]) (by omega) (by decide) ?_
      rw [r2]
      refine V.i2l (pc := 64) dX12_offsetBy_64 ?_
      rw [nI_l (by omega)]
      refine V.lload_n (pc := 65) dX12_offsetBy_65 rfl ?_
      refine V.lload (pc := 66) dX12_offsetBy_66 rfl ?_
      refine V.iload (pc := 68) dX12_offsetBy_68 rfl ?_
      refine V.iconst (v := 0) (pc := 70) dX12_offsetBy_70 (by decide) ?_
      refine V.pS (as := [_, _, _, _, _]) (pc := 71) dX12_offsetBy_71 lX12_345 bX12_markOf sX12_markOf (c_markOf (d := d + 0) (go := s.2.1) (u := u) (l := l) (mk := mk) (off := 0) _ _ _ _ _ rfl rfl rfl rfl rfl (by omega) hu hl hm (by omega)) (by omega) rfl (Nat.le_of_ble_eq_true rfl) ?_
      refine V.isub (pc := 74) dX12_offsetBy_74 ?_
      rw [show nI s.2.2 - nI (mkN s.2.1 u l mk 0) = iI ((s.2.2 : Int) - ((mkN s.2.1 u l mk 0 : Nat) : Int)) from by rw [← iI_nat, ← iI_nat, iI_sub]]
      refine V.is (pc := 75) dX12_offsetBy_75 (by decide) (st1_10 rfl) ?_
      refine V.iload (pc := 77) dX12_offsetBy_77 rfl ?_
      refine V.if_ge 90 (pc := 79) dX12_offsetBy_79 (by decide) (fun h79 => ?_) (fun h79 => ?_)
      · have qd : ¬ s.2.2 < mkN s.2.1 u l mk 0 := by
          rw [le32, iI_toInt (by omega) (by omega)] at h79
          have e0 : (0 : Int32).toInt = 0 := rfl
          omega
        have eD : iI ((s.2.2 : Int) - ((mkN s.2.1 u l mk 0 : Nat) : Int)) = nI (obD u l mk s) := by rw [obD, if_neg qd, ← iI_nat]; congr 1; omega
        rw [eD]
        refine V.iload (pc := 90) dX12_offsetBy_90 rfl ?_
        refine V.is (pc := 92) dX12_offsetBy_92 (by decide) (st1_11 rfl) ?_
        refine V.iload (pc := 94) dX12_offsetBy_94 rfl ?_
        refine V.iload (pc := 96) dX12_offsetBy_96 rfl ?_
        refine V.icmp_eq 108 (pc := 98) dX12_offsetBy_98 (by decide) (fun h98 => ?_) (fun h98 => ?_)
        · have oM : obF h u l mk (ss.take j) = (mk : Int) := by rw [← iI_nat, ← Int32.toInt_inj, iI_toInt (by omega) (by omega), iI_toInt (by omega) (by omega)] at h98; exact h98
          refine V.iload (pc := 108) dX12_offsetBy_108 rfl ?_
          refine V.goto 114 (pc := 110) dX12_offsetBy_110 (by decide) ?_
          refine V.is (pc := 114) dX12_offsetBy_114 (by decide) (st1_7 rfl) ?_
          refine V.iload (pc := 116) dX12_offsetBy_116 rfl ?_
          refine V.iconst (v := (-1)) (pc := 118) dX12_offsetBy_118 (by decide) ?_
          refine V.icmp_ne 124 (pc := 119) dX12_offsetBy_119 (by decide) (fun h119 => ?_) (fun h119 => absurd h119 (fun z => by have z2 := congrArg Int32.toInt z; rw [nI_toInt (by omega)] at z2; have e1 : (-1 : Int32).toInt = -1 := rfl; omega))
          refine V.iinc1 (pc := 124) dX12_offsetBy_124 (by decide) rfl (st1_8 rfl) ?_
          refine V.goto 15 (pc := 127) dX12_offsetBy_127 (by decide) ?_
          refine V.weak wk_9 ?_
          refine V.weak wk_10 ?_
          refine V.weak wk_11 ?_
          rw [nI_1]
          have e9 : obF h u l mk (ss.take (j + 1)) = ((obD u l mk s : Nat) : Int) := by rw [obF_take hq, obS, if_pos h43i, if_pos (Or.inl oM)]
          have z0 := ih (j + 1) (by omega) (by rw [e9]; omega)
          rw [e9, iI_nat] at z0
          exact z0
        · have oM : ¬ obF h u l mk (ss.take j) = (mk : Int) := fun z => h98 (by rw [z, iI_nat])
          refine V.iload (pc := 101) dX12_offsetBy_101 rfl ?_
          refine V.iload (pc := 103) dX12_offsetBy_103 rfl ?_
          refine V.icmp_ne 113 (pc := 105) dX12_offsetBy_105 (by decide) (fun h105 => ?_) (fun h105 => ?_)
          · have oD : ¬ obF h u l mk (ss.take j) = ((obD u l mk s : Nat) : Int) := fun z => h105 (by rw [z, iI_nat])
            refine V.iconst (v := (-1)) (pc := 113) dX12_offsetBy_113 (by decide) ?_
            refine V.is (pc := 114) dX12_offsetBy_114 (by decide) (st1_7 rfl) ?_
            refine V.iload (pc := 116) dX12_offsetBy_116 rfl ?_
            refine V.iconst (v := (-1)) (pc := 118) dX12_offsetBy_118 (by decide) ?_
            refine V.icmp_ne 124 (pc := 119) dX12_offsetBy_119 (by decide) (fun h119 => absurd rfl h119) (fun h119 => ?_)
            refine V.iconst (v := (-1)) (pc := 122) dX12_offsetBy_122 (by decide) ?_
            exact V.iret (pc := 123) dX12_offsetBy_123 rfl (kr (obF_stop (j := j + 1) hm.1 (by rw [obF_take hq, obS, if_pos h43i, if_neg (fun z => z.elim oM oD)])))
          · have oD : obF h u l mk (ss.take j) = ((obD u l mk s : Nat) : Int) := by rw [← iI_nat, ← Int32.toInt_inj, iI_toInt (by omega) (by omega), iI_toInt (by omega) (by omega)] at h105; exact h105
            refine V.iload (pc := 108) dX12_offsetBy_108 rfl ?_
            refine V.goto 114 (pc := 110) dX12_offsetBy_110 (by decide) ?_
            refine V.is (pc := 114) dX12_offsetBy_114 (by decide) (st1_7 rfl) ?_
            refine V.iload (pc := 116) dX12_offsetBy_116 rfl ?_
            refine V.iconst (v := (-1)) (pc := 118) dX12_offsetBy_118 (by decide) ?_
            refine V.icmp_ne 124 (pc := 119) dX12_offsetBy_119 (by decide) (fun h119 => ?_) (fun h119 => absurd h119 (fun z => by have z2 := congrArg Int32.toInt z; rw [nI_toInt (by omega)] at z2; have e1 : (-1 : Int32).toInt = -1 := rfl; omega))
            refine V.iinc1 (pc := 124) dX12_offsetBy_124 (by decide) rfl (st1_8 rfl) ?_
            refine V.goto 15 (pc := 127) dX12_offsetBy_127 (by decide) ?_
            refine V.weak wk_9 ?_
            refine V.weak wk_10 ?_
            refine V.weak wk_11 ?_
            rw [nI_1]
            have e9 : obF h u l mk (ss.take (j + 1)) = ((obD u l mk s : Nat) : Int) := by rw [obF_take hq, obS, if_pos h43i, if_pos (Or.inr oD)]
            have z0 := ih (j + 1) (by omega) (by rw [e9]; omega)
            rw [e9, iI_nat] at z0
            exact z0
      · have qd : s.2.2 < mkN s.2.1 u l mk 0 := by
          rw [le32, iI_toInt (by omega) (by omega)] at h79
          have e0 : (0 : Int32).toInt = 0 := rfl
          omega
        have eD : iI ((s.2.2 : Int) - ((mkN s.2.1 u l mk 0 : Nat) : Int)) + nI mk = nI (obD u l mk s) := by rw [obD, if_pos qd, ← iI_nat, ← iI_nat, iI_add]; congr 1; omega
        refine V.iload (pc := 82) dX12_offsetBy_82 rfl ?_
        refine V.iload (pc := 84) dX12_offsetBy_84 rfl ?_
        refine V.iadd (pc := 86) dX12_offsetBy_86 ?_
        rw [eD]
        refine V.goto 92 (pc := 87) dX12_offsetBy_87 (by decide) ?_
        refine V.is (pc := 92) dX12_offsetBy_92 (by decide) (st1_11 rfl) ?_
        refine V.iload (pc := 94) dX12_offsetBy_94 rfl ?_
        refine V.iload (pc := 96) dX12_offsetBy_96 rfl ?_
        refine V.icmp_eq 108 (pc := 98) dX12_offsetBy_98 (by decide) (fun h98 => ?_) (fun h98 => ?_)
        · have oM : obF h u l mk (ss.take j) = (mk : Int) := by rw [← iI_nat, ← Int32.toInt_inj, iI_toInt (by omega) (by omega), iI_toInt (by omega) (by omega)] at h98; exact h98
          refine V.iload (pc := 108) dX12_offsetBy_108 rfl ?_
          refine V.goto 114 (pc := 110) dX12_offsetBy_110 (by decide) ?_
          refine V.is (pc := 114) dX12_offsetBy_114 (by decide) (st1_7 rfl) ?_
          refine V.iload (pc := 116) dX12_offsetBy_116 rfl ?_
          refine V.iconst (v := (-1)) (pc := 118) dX12_offsetBy_118 (by decide) ?_
          refine V.icmp_ne 124 (pc := 119) dX12_offsetBy_119 (by decide) (fun h119 => ?_) (fun h119 => absurd h119 (fun z => by have z2 := congrArg Int32.toInt z; rw [nI_toInt (by omega)] at z2; have e1 : (-1 : Int32).toInt = -1 := rfl; omega))
          refine V.iinc1 (pc := 124) dX12_offsetBy_124 (by decide) rfl (st1_8 rfl) ?_
          refine V.goto 15 (pc := 127) dX12_offsetBy_127 (by decide) ?_
          refine V.weak wk_9 ?_
          refine V.weak wk_10 ?_
          refine V.weak wk_11 ?_
          rw [nI_1]
          have e9 : obF h u l mk (ss.take (j + 1)) = ((obD u l mk s : Nat) : Int) := by rw [obF_take hq, obS, if_pos h43i, if_pos (Or.inl oM)]
          have z0 := ih (j + 1) (by omega) (by rw [e9]; omega)
          rw [e9, iI_nat] at z0
          exact z0
        · have oM : ¬ obF h u l mk (ss.take j) = (mk : Int) := fun z => h98 (by rw [z, iI_nat])
          refine V.iload (pc := 101) dX12_offsetBy_101 rfl ?_
          refine V.iload (pc := 103) dX12_offsetBy_103 rfl ?_
          refine V.icmp_ne 113 (pc := 105) dX12_offsetBy_105 (by decide) (fun h105 => ?_) (fun h105 => ?_)
          · have oD : ¬ obF h u l mk (ss.take j) = ((obD u l mk s : Nat) : Int) := fun z => h105 (by rw [z, iI_nat])
            refine V.iconst (v := (-1)) (pc := 113) dX12_offsetBy_113 (by decide) ?_
            refine V.is (pc := 114) dX12_offsetBy_114 (by decide) (st1_7 rfl) ?_
            refine V.iload (pc := 116) dX12_offsetBy_116 rfl ?_
            refine V.iconst (v := (-1)) (pc := 118) dX12_offsetBy_118 (by decide) ?_
            refine V.icmp_ne 124 (pc := 119) dX12_offsetBy_119 (by decide) (fun h119 => absurd rfl h119) (fun h119 => ?_)
            refine V.iconst (v := (-1)) (pc := 122) dX12_offsetBy_122 (by decide) ?_
            exact V.iret (pc := 123) dX12_offsetBy_123 rfl (kr (obF_stop (j := j + 1) hm.1 (by rw [obF_take hq, obS, if_pos h43i, if_neg (fun z => z.elim oM oD)])))
          · have oD : obF h u l mk (ss.take j) = ((obD u l mk s : Nat) : Int) := by rw [← iI_nat, ← Int32.toInt_inj, iI_toInt (by omega) (by omega), iI_toInt (by omega) (by omega)] at h105; exact h105
            refine V.iload (pc := 108) dX12_offsetBy_108 rfl ?_
            refine V.goto 114 (pc := 110) dX12_offsetBy_110 (by decide) ?_
            refine V.is (pc := 114) dX12_offsetBy_114 (by decide) (st1_7 rfl) ?_
            refine V.iload (pc := 116) dX12_offsetBy_116 rfl ?_
            refine V.iconst (v := (-1)) (pc := 118) dX12_offsetBy_118 (by decide) ?_
            refine V.icmp_ne 124 (pc := 119) dX12_offsetBy_119 (by decide) (fun h119 => ?_) (fun h119 => absurd h119 (fun z => by have z2 := congrArg Int32.toInt z; rw [nI_toInt (by omega)] at z2; have e1 : (-1 : Int32).toInt = -1 := rfl; omega))
            refine V.iinc1 (pc := 124) dX12_offsetBy_124 (by decide) rfl (st1_8 rfl) ?_
            refine V.goto 15 (pc := 127) dX12_offsetBy_127 (by decide) ?_
            refine V.weak wk_9 ?_
            refine V.weak wk_10 ?_
            refine V.weak wk_11 ?_
            rw [nI_1]
            have e9 : obF h u l mk (ss.take (j + 1)) = ((obD u l mk s : Nat) : Int) := by rw [obF_take hq, obS, if_pos h43i, if_pos (Or.inr oD)]
            have z0 := ih (j + 1) (by omega) (by rw [e9]; omega)
            rw [e9, iI_nat] at z0
            exact z0
