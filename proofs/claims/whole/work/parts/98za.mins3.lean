theorem i_subk {w : Int32} {k : Nat} (h : (k : Int) ≤ w.toInt) : w - nI k = nI (w.toInt.toNat - k) := by
  rw [show w - nI k = iI (w.toInt - k) from by rw [← iI_sub, ← iI_of, iI_nat], ← iI_nat]
  congr 1
  omega
theorem insOK2 {ss : List Sg} {h mk : Nat} {s : List Nat} (hm : 0 < mk ∧ mk ≤ 400) (hsm : ∀ s ∈ ss, s.1 = h → s.2.2 < mk) : ISOK 256 (foldP (vld s.length 2) (istep ss h mk s 2) 256 (0, 0, 0, 0)) := by
  have z := foldP_c (P := ISOK) (pr := vld s.length 2) (f := istep ss h mk s 2) (fun k c b hv hb => istep_ok (Or.inl rfl) hm hsm hb) (fun k b hb => hb.mono) 0 256 (0, 0, 0, 0) ⟨by decide, by decide, by decide, by decide⟩
  rw [Nat.zero_add] at z
  exact z
theorem insOK4 {ss : List Sg} {h mk : Nat} {s : List Nat} (hm : 0 < mk ∧ mk ≤ 400) (hsm : ∀ s ∈ ss, s.1 = h → s.2.2 < mk) : ISOK 65792 (insF ss h mk s) := by
  rw [insF]
  exact foldP_c (P := ISOK) (pr := vld s.length 4) (f := istep ss h mk s 4) (fun k c b hv hb => istep_ok (Or.inr rfl) hm hsm hb) (fun k b hb => hb.mono) 256 65536 _ (insOK2 hm hsm)
theorem vld_small2 {S c : Nat} (h : S < 2) : vld S 2 c = false := by
  rw [vld, if_pos rfl]
  refine decide_eq_false (fun z => ?_)
  omega
theorem e_inside {g : gG} {d : Nat} {T : mT} {n : Nat} {I I0 : mI} {J : mJ} {F : mF} {m k : Nat} {A : Ab} {x w v7 : Int32} {b : ISt} {mk : Nat} (hM : MS T F m) (hR : RepM I J m A) (hf : Frm m I0 I) (hw : 0 ≤ w.toInt ∧ w.toInt ≤ 6) (hb : ISOK k b) (hk : k ≤ 65792) (hm : IMem m b I) : V g mX12_inside (d + 2) (QM m T n I0 J F (some (.int (iI (insV b w.toInt.toNat)))) A) 0 0 177 [some (.ref m), some (.int x), some (.int w), some (.int (nI mk)), some (.int (nI b.1)), some (.int (nI b.2.1)), some (.int (nI b.2.2.1)), some (.int v7), none, none] [] T n I J F := by
  obtain ⟨o1, o2, o3, o4⟩ := hb
  refine V.iload_n (pc := 177) dX12_inside_177 rfl ?_
  refine V.if_ne 184 (pc := 178) dX12_inside_178 (by decide) (fun h178 => ?_) (fun h178 => ?_)
  · have w0 : ¬ w.toInt = 0 := fun z => h178 ((eq32 _ _).mpr z)
    have w0n : ¬ w.toInt.toNat = 0 := by omega
    refine V.iload (pc := 184) dX12_inside_184 rfl ?_
    refine V.if_ne 193 (pc := 186) dX12_inside_186 (by decide) (fun h186 => ?_) (fun h186 => ?_)
    · have c0 : ¬ b.1 = 0 := fun z => h186 (by rw [z]; rfl)
      refine V.iload_n (pc := 193) dX12_inside_193 rfl ?_
      refine V.iconst (v := 1) (pc := 194) dX12_inside_194 (by decide) ?_
      refine V.icmp_ne 203 (pc := 195) dX12_inside_195 (by decide) (fun h195 => ?_) (fun h195 => ?_)
      · have w1 : ¬ w.toInt = 1 := fun z => h195 ((eq32 _ _).mpr z)
        refine V.iload_n (pc := 203) dX12_inside_203 rfl ?_
        refine V.iconst (v := 2) (pc := 204) dX12_inside_204 (by decide) ?_
        refine V.icmp_ne 213 (pc := 205) dX12_inside_205 (by decide) (fun h205 => ?_) (fun h205 => ?_)
        · have w2 : ¬ w.toInt = 2 := fun z => h205 ((eq32 _ _).mpr z)
          refine V.iload_n (pc := 213) dX12_inside_213 rfl ?_
          refine V.iconst (v := 2) (pc := 214) dX12_inside_214 (by decide) ?_
          refine V.isub (pc := 215) dX12_inside_215 ?_
          rw [L2, i_subk (by omega)]
          refine V.iconst (v := 2) (pc := 216) dX12_inside_216 (by decide) ?_
          refine V.iload (pc := 217) dX12_inside_217 rfl ?_
          refine V.imul (pc := 219) dX12_inside_219 ?_
          rw [L2, pk_mul]
          refine V.icmp_gt 234 (pc := 220) dX12_inside_220 (by decide) (fun h220 => ?_) (fun h220 => ?_)
          · rw [lt32, nI_toInt (by omega), nI_toInt (by omega)] at h220
            refine V.iconst (v := (-1)) (pc := 234) dX12_inside_234 (by decide) ?_
            exact V.iret (pc := 235) dX12_inside_235 rfl ⟨by rw [insV, if_neg w0n, if_neg c0, if_neg (by omega), if_neg (by omega), if_pos (by omega)]; rfl, rfl, rfl, rfl, hf, Frm.rf, hR⟩
          · rw [lt32, nI_toInt (by omega), nI_toInt (by omega)] at h220
            refine V.aload_n (pc := 223) dX12_inside_223 rfl ?_
            refine V.getR (pc := 224) dX12_inside_224 fX12_68_11 rfl hM.o hM.f33 ?_
            refine V.iload_n (pc := 227) dX12_inside_227 rfl ?_
            refine V.iconst (v := 3) (pc := 228) dX12_inside_228 (by decide) ?_
            refine V.isub (pc := 229) dX12_inside_229 ?_
            rw [L3, i_subk (by omega)]
            refine V.iald' (k := w.toInt.toNat - 3) (pc := 230) dX12_inside_230 hM.t33 rfl (by omega) (by decide) ?_
            rw [hm (by omega) _ (by omega)]
            refine V.goto 235 (pc := 231) dX12_inside_231 (by decide) ?_
            exact V.iret (pc := 235) dX12_inside_235 rfl ⟨by rw [insV, if_neg w0n, if_neg c0, if_neg (by omega), if_neg (by omega), if_neg (by omega), iI_nat], rfl, rfl, rfl, hf, Frm.rf, hR⟩
        · have w2 : w.toInt = 2 := by rw [h205]; rfl
          refine V.iload (pc := 208) dX12_inside_208 rfl ?_
          refine V.goto 235 (pc := 210) dX12_inside_210 (by decide) ?_
          exact V.iret (pc := 235) dX12_inside_235 rfl ⟨by rw [insV, if_neg w0n, if_neg c0, if_neg (by omega), if_pos (by omega), iI_nat], rfl, rfl, rfl, hf, Frm.rf, hR⟩
      · have w1 : w.toInt = 1 := by rw [h195]; rfl
        refine V.iload (pc := 198) dX12_inside_198 rfl ?_
        refine V.goto 235 (pc := 200) dX12_inside_200 (by decide) ?_
        exact V.iret (pc := 235) dX12_inside_235 rfl ⟨by rw [insV, if_neg w0n, if_neg c0, if_pos (by omega), iI_nat], rfl, rfl, rfl, hf, Frm.rf, hR⟩
    · have c0 : b.1 = 0 := by
        rw [L0, nI_eq (by omega) (by omega)] at h186
        exact h186
      refine V.iconst (v := (-1)) (pc := 189) dX12_inside_189 (by decide) ?_
      refine V.goto 235 (pc := 190) dX12_inside_190 (by decide) ?_
      exact V.iret (pc := 235) dX12_inside_235 rfl ⟨by rw [insV, if_neg w0n, if_pos c0]; rfl, rfl, rfl, rfl, hf, Frm.rf, hR⟩
  · have w0 : w.toInt = 0 := by rw [h178]; rfl
    refine V.iload (pc := 181) dX12_inside_181 rfl ?_
    exact V.iret (pc := 183) dX12_inside_183 rfl ⟨by rw [insV, if_pos (by omega), iI_nat], rfl, rfl, rfl, hf, Frm.rf, hR⟩
theorem p_inside {g : gG} {d : Nat} {T : mT} {n : Nat} {I : mI} {J : mJ} {F : mF} {m : Nat} {A : Ab} (x w : Int32) (hM : MS T F m) (hA : AbOK A) (hR : RepM I J m A)  : Ct g mX12_inside (d + 2) [.ref m, .int x, .int w] 0 0 T n I J F (QM m T n I J F (some (.int (iI (s_inside A x.toInt w.toInt)))) A) := by
  refine Ct.ofV (k := 7) (by decide) (Nat.le_of_ble_eq_true rfl) ?_
  show V g mX12_inside (d + 2) _ 0 0 0 [some (.ref m), some (.int x), some (.int w), none, none, none, none, none, none, none] [] T n I J F
  have h12 := hA.1.2.2.1
  refine V.aload_n (pc := 0) dX12_inside_0 rfl ?_
  refine V.iconst (v := 0) (pc := 1) dX12_inside_1 (by decide) ?_
  refine V.putI (pc := 2) dX12_inside_2 fX12_88_11 (fun r h => by cases h; exact Or.inl rfl) rfl hM.o ?_
  refine V.thr hR (fun I1 hR1 hf => ?_)
  clear hR
  have hR := hR1
  clear hR1
  refine V.aload_n (pc := 5) dX12_inside_5 rfl ?_
  refine V.iload_n (pc := 6) dX12_inside_6 rfl ?_
  refine V.pV (as := [_]) (pc := 7) dX12_inside_7 lX12_111 bX12_isHand nX12_isHand (ci := 11) rfl eX12_isHand hM.o (c_isHand (d := d + 0) _ hM (by have := hA.1.1; omega) hR.h0) (by omega) rfl (Nat.le_of_ble_eq_true rfl) ?_
  refine V.if_eq 25 (pc := 10) dX12_inside_10 (by decide) (fun h10 => ?_) (fun h10 => ?_)
  · have q := bi_eq.mp h10
    have ey := hdAt_no q
    refine V.iconst (v := (-1)) (pc := 25) dX12_inside_25 (by decide) ?_
    exact V.iret (pc := 26) dX12_inside_26 rfl ⟨by rw [s_inside]; simp only [ey]; rfl, rfl, rfl, rfl, hf, Frm.rf, hR⟩
  · have q := bi_ne.mp h10
    obtain ⟨y, h1y, e1y⟩ := hdAt_yes q
    have h1x := nIx q.1 rfl
    have h1H := hR.hd hA h1y
    have h6 := h1H.1
    obtain ⟨y1, y2, -⟩ := h1H.2.2
    have hsm : ∀ s ∈ sgs (cor A), s.1 = x.toInt.toNat → s.2.2 < y.1 := fun s hs e => (hA.1.2.2.2.2.2.2.2.2.1 s hs).2.2 y (by rw [e]; exact h1y)
    refine V.iload_n (pc := 13) dX12_inside_13 rfl ?_
    refine V.i2l (pc := 14) dX12_inside_14 ?_
    refine V.lconst (v := 0) (pc := 15) dX12_inside_15 (by decide) ?_
    refine V.ldc2 (pc := 16) dX12_inside_16 qX12_122 ?_
    refine V.pS (as := [_, _, _]) (pc := 19) dX12_inside_19 lX12_98 bX12_in sX12_in (c_in (d := d + 1) _ _ _) (by omega) rfl (Nat.le_of_ble_eq_true rfl) ?_
    rw [bi_c (in64 w 0 6 0 6 rfl rfl)]
    refine V.if_ne 27 (pc := 22) dX12_inside_22 (by decide) (fun h22 => ?_) (fun h22 => ?_)
    · have qw := bi_ne.mp h22
      refine V.aload_n (pc := 27) dX12_inside_27 rfl ?_
      refine V.iload_n (pc := 28) dX12_inside_28 rfl ?_
      refine V.iconst (v := 0) (pc := 29) dX12_inside_29 (by decide) ?_
      refine V.pV (as := [_, _]) (pc := 30) dX12_inside_30 lX12_115 bX12_ofHand nX12_ofHand (ci := 11) rfl eX12_ofHand hM.o (c_ofHand (d := d + 1) (h := x.toInt.toNat) (w := 0) _ _ hM h1x rfl (by omega)) (by omega) rfl (Nat.le_of_ble_eq_true rfl) ?_
      rw [show I1 (m + 2) (10 + 12 * x.toInt.toNat + 0) = nI y.1 from h1H.2.1.1]
      refine V.isn (pc := 33) dX12_inside_33 (by decide) (st1_3 rfl) ?_
      refine V.iconst (v := 0) (pc := 34) dX12_inside_34 (by decide) ?_
      refine V.is (pc := 35) dX12_inside_35 (by decide) (st1_4 rfl) ?_
      refine V.iconst (v := 0) (pc := 37) dX12_inside_37 (by decide) ?_
      refine V.is (pc := 38) dX12_inside_38 (by decide) (st1_5 rfl) ?_
      refine V.iconst (v := 0) (pc := 40) dX12_inside_40 (by decide) ?_
      refine V.is (pc := 41) dX12_inside_41 (by decide) (st1_6 rfl) ?_
      refine V.iconst (v := 2) (pc := 43) dX12_inside_43 (by decide) ?_
      refine V.is (pc := 44) dX12_inside_44 (by decide) (st1_7 rfl) ?_
      refine V.iload (pc := 46) dX12_inside_46 rfl ?_
      refine V.iconst (v := 5) (pc := 48) dX12_inside_48 (by decide) ?_
      refine V.icmp_ge 177 (pc := 49) dX12_inside_49 (by decide) (fun h49 => absurd h49 (by decide)) (fun h49 => ?_)
      refine V.iload (pc := 52) dX12_inside_52 rfl ?_
      refine V.aload_n (pc := 54) dX12_inside_54 rfl ?_
      refine V.getR (pc := 55) dX12_inside_55 fX12_13_11 rfl hM.o hM.f3 ?_
      refine V.iconst (v := 1) (pc := 58) dX12_inside_58 (by decide) ?_
      refine V.iald' (k := 1) (pc := 59) dX12_inside_59 hM.t3 rfl (by decide) (by decide) ?_
      rw [hR.h1]
      refine V.icmp_gt 177 (pc := 60) dX12_inside_60 (by decide) (fun h60 => ?_) (fun h60 => ?_)
      · rw [lt32, nI_toInt (by omega)] at h60
        have hS : (stk (cor A)).length < 2 := by have e4 : (2 : Int32).toInt = 2 := rfl; omega
        conv => arg 8; rw [L0, L2]
        have eS : s_inside A x.toInt w.toInt = insV (0, 0, 0, 0) w.toInt.toNat := by rw [s_inside]; simp only [e1y]; rw [if_pos qw, insF]; rw [foldP_none (fun c => vld_small (by omega)), foldP_none (fun c => vld_small2 hS)]
        rw [eS]
        exact e_inside (k := 0) hM hR hf qw ⟨by decide, by decide, by decide, by decide⟩ (by omega) (fun z => absurd rfl z)
      · rw [lt32, nI_toInt (by omega)] at h60
        have hS : 2 ≤ (stk (cor A)).length := by have e4 : (2 : Int32).toInt = 2 := rfl; omega
        refine V.aload_n (pc := 63) dX12_inside_63 rfl ?_
        refine V.iload (pc := 64) dX12_inside_64 rfl ?_
        refine V.invV0 (as := [_]) (pc := 66) dX12_inside_66 lX12_381 bX12_beginRow nX12_beginRow (ci := 11) rfl eX12_beginRow hM.o (c_begin2 (d := d + 0) (S := (stk (cor A)).length) hM hS) (by omega) rfl (Nat.le_of_ble_eq_true rfl) ?_
        rintro _ _ _ I2 _ _ ⟨rfl, rfl, rfl, rfl, rfl, g2, e2, n2⟩
        conv => arg 8; rw [h1x, L0, L2]
        refine l_ins (y := y) (s := (stk (cor A))) (ss := sgs (cor A)) (N := 2) (I := I1) (b0 := (0, 0, 0, 0)) (k0 := 0) hM (Or.inl rfl) (hR.stk hA) (hR.hd hA h1y) (hR.sg hA) hsm ⟨by decide, by decide, by decide, by decide⟩ (by omega) (fun B I3 hB a1 a2 => ?_) 257 0 _ _ (Nat.zero_le _) (by decide) rfl ⟨fun b b1 b2 => g2 b b1, fun z => absurd rfl z, e2, n2⟩
        rw [totC2] at hB
        have hR3 := NrF.rep (I := I1) (I' := I3) ⟨fun a q1 q2 q3 => a1 a q2 q3, fun k hk => by rw [a1 m (by omega) (by omega)], fun _ _ => rfl⟩ hR
        have hok : ISOK 256 B := by rw [hB]; exact insOK2 ⟨y1, y2⟩ hsm
        refine V.iinc (v := 4) (pc := 171) dX12_inside_171 (by decide) rfl (by decide) (st1_7 rfl) ?_
        refine V.goto 46 (pc := 174) dX12_inside_174 (by decide) ?_
        refine V.iload (pc := 46) dX12_inside_46 rfl ?_
        refine V.iconst (v := 5) (pc := 48) dX12_inside_48 (by decide) ?_
        refine V.icmp_ge 177 (pc := 49) dX12_inside_49 (by decide) (fun h49 => absurd h49 (by decide)) (fun h49 => ?_)
        refine V.iload (pc := 52) dX12_inside_52 rfl ?_
        refine V.aload_n (pc := 54) dX12_inside_54 rfl ?_
        refine V.getR (pc := 55) dX12_inside_55 fX12_13_11 rfl hM.o hM.f3 ?_
        refine V.iconst (v := 1) (pc := 58) dX12_inside_58 (by decide) ?_
        refine V.iald' (k := 1) (pc := 59) dX12_inside_59 hM.t3 rfl (by decide) (by decide) ?_
        rw [hR3.h1]
        refine V.icmp_gt 177 (pc := 60) dX12_inside_60 (by decide) (fun h60 => ?_) (fun h60 => ?_)
        · rw [lt32, nI_toInt (by omega)] at h60
          have h4 : (stk (cor A)).length < 4 := by have e4 : (4 : Int32).toInt = 4 := rfl; omega
          have eS : s_inside A x.toInt w.toInt = insV B w.toInt.toNat := by rw [s_inside]; simp only [e1y]; rw [if_pos qw, insF]; rw [foldP_none (fun c => vld_small h4), hB]
          rw [eS]
          exact e_inside (k := 256) hM hR3 (hf.trans (fun b hb => a1 b (by omega) (by omega))) qw hok (by omega) a2
        · rw [lt32, nI_toInt (by omega)] at h60
          have h4 : 4 ≤ (stk (cor A)).length := by have e4 : (4 : Int32).toInt = 4 := rfl; omega
          refine V.aload_n (pc := 63) dX12_inside_63 rfl ?_
          refine V.iload (pc := 64) dX12_inside_64 rfl ?_
          refine V.invV0 (as := [_]) (pc := 66) dX12_inside_66 lX12_381 bX12_beginRow nX12_beginRow (ci := 11) rfl eX12_beginRow hM.o (c_begin4 (d := d + 0) (S := (stk (cor A)).length) hM h4) (by omega) rfl (Nat.le_of_ble_eq_true rfl) ?_
          rintro _ _ _ I4 _ _ ⟨rfl, rfl, rfl, rfl, rfl, g4, e4, n4⟩
          conv => arg 8; rw [L4]
          refine l_ins (y := y) (s := (stk (cor A))) (ss := sgs (cor A)) (N := 4) (I := I3) (b0 := B) (k0 := 256) hM (Or.inr rfl) (hR3.stk hA) (hR3.hd hA h1y) (hR3.sg hA) hsm hok (by omega) (fun B4 I5 hB4 b1 b2 => ?_) 65537 0 _ _ (Nat.zero_le _) (by decide) rfl ⟨fun b c1 c2 => g4 b c1, by unfold IMem; rw [g4 (m + 15) (by omega)]; exact a2, e4, n4⟩
          rw [totC4] at hB4
          refine V.iinc (v := 6) (pc := 171) dX12_inside_171 (by decide) rfl (by decide) (st1_7 rfl) ?_
          refine V.goto 46 (pc := 174) dX12_inside_174 (by decide) ?_
          refine V.iload (pc := 46) dX12_inside_46 rfl ?_
          refine V.iconst (v := 5) (pc := 48) dX12_inside_48 (by decide) ?_
          refine V.icmp_ge 177 (pc := 49) dX12_inside_49 (by decide) (fun h49 => ?_) (fun h49 => absurd (by decide) h49)
          have eS : s_inside A x.toInt w.toInt = insV B4 w.toInt.toNat := by rw [s_inside]; simp only [e1y]; rw [if_pos qw, insF]; rw [hB4, hB]
          rw [eS]
          exact e_inside (k := 65792) hM (NrF.rep (I := I3) ⟨fun a q1 q2 q3 => b1 a q2 q3, fun k hk => by rw [b1 m (by omega) (by omega)], fun _ _ => rfl⟩ hR3) (hf.trans (fun b hb => (b1 b (by omega) (by omega)).trans (a1 b (by omega) (by omega)))) qw (by rw [hB4, hB]; exact insOK4 ⟨y1, y2⟩ hsm) (by omega) b2
    · have qw := bi_eq.mp h22
      refine V.iconst (v := (-1)) (pc := 25) dX12_inside_25 (by decide) ?_
      exact V.iret (pc := 26) dX12_inside_26 rfl ⟨by rw [s_inside]; simp only [e1y]; rw [if_neg qw]; rfl, rfl, rfl, rfl, hf, Frm.rf, hR⟩
