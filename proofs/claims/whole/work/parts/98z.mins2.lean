theorem SgM.congr {I I' : mI} {m : Nat} {ss : List Sg} (h : SgM I m ss) (e : I' (m + 2) = I (m + 2)) : SgM I' m ss := by unfold SgM; rw [e]; exact h
theorem foldP_c {σ : Type} {pr : Nat → Bool} {f : Nat → σ → σ} {P : Nat → σ → Prop} (h : ∀ k c b, pr c = true → P k b → P (k + 1) (f c b)) (hm : ∀ k b, P k b → P (k + 1) b) (k0 : Nat) : ∀ (c : Nat) (s : σ), P k0 s → P (k0 + c) (foldP pr f c s)
  | 0, _, hs => hs
  | c + 1, s, hs => by
    rw [foldP, ← Nat.add_assoc]
    split
    · exact h _ c _ (by assumption) (foldP_c h hm k0 c s hs)
    · exact hm _ _ (foldP_c h hm k0 c s hs)
theorem ISOK.mono {k : Nat} {b : ISt} (h : ISOK k b) : ISOK (k + 1) b := ⟨by have := h.1; omega, h.2⟩
theorem istep_no {ss : List Sg} {h mk N c : Nat} {s : List Nat} {b : ISt} {O : Int} (e : obF h (drvN s N c) (drnN s N c) mk ss = O) (hO : O = -1) : istep ss h mk s N c b = b := by
  rw [istep, insO, e, if_pos hO]
theorem istep_a {ss : List Sg} {h mk N c : Nat} {s : List Nat} {b : ISt} {O : Int} (e : obF h (drvN s N c) (drnN s N c) mk ss = O) (hO : ¬ O = -1) (hc : ¬ (b.2.1 = 0 ∨ (b.2.1 = N / 2 ∧ insK mk O < b.2.2.1))) : istep ss h mk s N c b = (b.1 + (if O = (mk : Int) then mk else 1), b.2) := by
  rw [istep, insO, e, if_neg hO, if_neg hc]
theorem istep_b {ss : List Sg} {h mk N c : Nat} {s : List Nat} {b : ISt} {O : Int} (e : obF h (drvN s N c) (drnN s N c) mk ss = O) (hO : ¬ O = -1) (hc : b.2.1 = 0 ∨ (b.2.1 = N / 2 ∧ insK mk O < b.2.2.1)) : istep ss h mk s N c b = (b.1 + (if O = (mk : Int) then mk else 1), N / 2, insK mk O, c) := by
  rw [istep, insO, e, if_neg hO, if_pos hc]
theorem insO_bd {ss : List Sg} {h mk N c : Nat} {s : List Nat} (hm : 0 < mk) (hsm : ∀ s ∈ ss, s.1 = h → s.2.2 < mk) : -1 ≤ obF h (drvN s N c) (drnN s N c) mk ss ∧ obF h (drvN s N c) (drnN s N c) mk ss ≤ mk := obF_bd hm ss _ hsm (by omega)
theorem insK_lt {mk : Nat} {O : Int} (hm : 0 < mk) (h : -1 ≤ O ∧ O ≤ mk) : insK mk O < mk := by unfold insK; split <;> omega
theorem istep_ok {ss : List Sg} {h mk N c k : Nat} {s : List Nat} {b : ISt} (hN : N = 2 ∨ N = 4) (hm : 0 < mk ∧ mk ≤ 400) (hsm : ∀ s ∈ ss, s.1 = h → s.2.2 < mk) (hb : ISOK k b) : ISOK (k + 1) (istep ss h mk s N c b) := by
  have ob := insO_bd (N := N) (c := c) (s := s) hm.1 hsm
  generalize e : obF h (drvN s N c) (drnN s N c) mk ss = O at ob
  have kl := insK_lt hm.1 ob
  by_cases hO : O = -1
  · rw [istep_no e hO]; exact hb.mono
  · obtain ⟨b1, b2, b3, b4⟩ := hb
    have k1 : 1 ≤ (if O = (mk : Int) then mk else 1) ∧ (if O = (mk : Int) then mk else 1) ≤ 400 := by split <;> omega
    by_cases hc : b.2.1 = 0 ∨ (b.2.1 = N / 2 ∧ insK mk O < b.2.2.1)
    · rw [istep_b e hO hc]
      exact ⟨by show b.1 + _ ≤ _; omega, by show N / 2 ≤ 2; omega, by show insK mk O < 401; omega, by show b.1 + _ = 0 ↔ N / 2 = 0; omega⟩
    · rw [istep_a e hO hc]
      exact ⟨by show b.1 + _ ≤ _; omega, b2, b3, by show b.1 + _ = 0 ↔ b.2.1 = 0; omega⟩
def IMem (m : Nat) (b : ISt) (I : mI) : Prop := b.2.1 ≠ 0 → ∀ i, i < 2 * b.2.1 → I (m + 15) i = nI (dg (2 * b.2.1) b.2.2.2 i)
def InI (S N cur m : Nat) (I : mI) (b : ISt) (I' : mI) : Prop := (∀ a, a ≠ m + 14 → a ≠ m + 15 → I' a = I a) ∧ IMem m b I' ∧ ∃ e, NX S N cur m I' (N - 1) e I'
theorem InI.no {S N cur m c : Nat} {I I' I2 : mI} {b b2 : ISt} (h : InI S N cur m I b I') (hN : N = 2 ∨ N = 4) (hv : vld S N c = true) (g1 : ∀ a, a ≠ m + 14 → I2 a = I' a) (g6 : ∀ i, i < N → I2 (m + 14) i = nI (dg N c i)) (hb : b2.2 = b.2) : InI S N (c + 1) m I b2 I2 := by
  refine ⟨fun a a1 a2 => by rw [g1 a a1]; exact h.1 a a1 a2, ?_, _, NX.next hN hv g6⟩
  unfold IMem
  rw [hb, g1 (m + 15) (by omega)]
  exact h.2.1
theorem InI.yes {S N cur m c k K : Nat} {I I' I2 I3 : mI} {b : ISt} (h : InI S N cur m I b I') (hN : N = 2 ∨ N = 4) (hv : vld S N c = true) (g1 : ∀ a, a ≠ m + 14 → I2 a = I' a) (g6 : ∀ i, i < N → I2 (m + 14) i = nI (dg N c i)) (f1 : ∀ a, a ≠ m + 15 → I3 a = I2 a) (f2 : ∀ i, i < 4 → I3 (m + 15) i = I2 (m + 14) i) : InI S N (c + 1) m I (k, N / 2, K, c) I3 := by
  refine ⟨fun a a1 a2 => by rw [f1 a a2, g1 a a1]; exact h.1 a a1 a2, ?_, _, NX.next hN hv (fun i hi => by rw [f1 _ (by omega)]; exact g6 i hi)⟩
  intro _ i hi
  have e2 : 2 * (N / 2) = N := by omega
  show _ = nI (dg (2 * (N / 2)) c i)
  have hi2 : i < 2 * (N / 2) := hi
  rw [e2]; rw [f2 i (by omega)]; exact g6 i (by omega)
theorem l_ins {g : gG} {d : Nat} {T : mT} {n : Nat} {I : mI} {J : mJ} {F : mF} {Q : mQ} {m h N k0 : Nat} {y : Hd} {s : List Nat} {ss : List Sg} {b0 : ISt} {w : Int32} (hM : MS T F m) (hN : N = 2 ∨ N = 4) (hs : StkM I m s) (hH : HdM I m h y) (hg : SgM I m ss) (hsm : ∀ s ∈ ss, s.1 = h → s.2.2 < y.1) (hb0 : ISOK k0 b0) (hk0 : k0 ≤ 256) (kk : ∀ (B : ISt) (I' : mI), B = (foldP (vld s.length N) (istep ss h y.1 s N) (totC N) b0) → (∀ a, a ≠ m + 14 → a ≠ m + 15 → I' a = I a) → IMem m B I' → V g mX12_inside (d + 2) Q 0 0 171 [some (.ref m), some (.int (nI h)), some (.int w), some (.int (nI y.1)), some (.int (nI B.1)), some (.int (nI B.2.1)), some (.int (nI B.2.2.1)), some (.int (nI N)), none, none] [] T n I' J F) : ∀ (t cur : Nat) (b : ISt) (I' : mI), cur ≤ totC N → totC N - cur < t → b = (foldP (vld s.length N) (istep ss h y.1 s N) cur b0) → InI s.length N cur m I b I' → V g mX12_inside (d + 2) Q 0 0 69 [some (.ref m), some (.int (nI h)), some (.int w), some (.int (nI y.1)), some (.int (nI b.1)), some (.int (nI b.2.1)), some (.int (nI b.2.2.1)), some (.int (nI N)), none, none] [] T n I' J F := by
  intro t
  induction t with
  | zero => intro cur b I' _ h; omega
  | succ t ih =>
    intro cur b I' hct ht hbe hi
    have hi2 := hi
    obtain ⟨h1, h4, e, h5⟩ := hi
    have hs2 := hs.congr (I' := I') (h1 (m + 2) (by omega) (by omega))
    have hT : totC N ≤ 65536 := by rcases hN with rfl | rfl <;> decide
    have h6 := hH.1
    obtain ⟨y1, y2, -⟩ := hH.2.2
    have hok : ISOK (k0 + cur) b := by rw [hbe]; exact foldP_c (P := ISOK) (fun k c b hv hb => istep_ok hN ⟨y1, y2⟩ hsm hb) (fun k b hb => hb.mono) k0 cur b0 hb0
    obtain ⟨o1, o2, o3, o4⟩ := hok
    refine V.aload_n (pc := 69) dX12_inside_69 rfl ?_
    refine V.iload (pc := 70) dX12_inside_70 rfl ?_
    refine V.invV0 (as := [_]) (pc := 72) dX12_inside_72 lX12_384 bX12_nextRow nX12_nextRow (ci := 11) rfl eX12_nextRow hM.o (c_nextRow (d := d + 0) (S := s.length) (N := N) (cur := cur) _ hM rfl hN hs.1.1 hs2.2.1 h5) (by omega) rfl (Nat.le_of_ble_eq_true rfl) ?_
    rintro _ _ _ I2 _ _ ⟨rfl, rfl, rfl, rfl, g1, ⟨c, g2, g3, g4, g5, rfl, g6⟩ | ⟨g2, rfl⟩⟩
    · have hd1 := drvN_bd hs.1 hN g4
      have hd2 := drnN_bd hs.1 hN g4
      have hs3 := hs2.congr (I' := I2) (g1 (m + 2) (by omega))
      have e02 : I2 (m + 2) = I (m + 2) := (g1 _ (by omega)).trans (h1 _ (by omega) (by omega))
      refine V.if_eq 171 (pc := 75) dX12_inside_75 (by decide) (fun h75 => absurd h75 (by decide)) (fun h75 => ?_)
      refine V.aload_n (pc := 78) dX12_inside_78 rfl ?_
      refine V.iload_n (pc := 79) dX12_inside_79 rfl ?_
      refine V.aload_n (pc := 80) dX12_inside_80 rfl ?_
      refine V.iload (pc := 81) dX12_inside_81 rfl ?_
      refine V.pV (as := [_]) (pc := 83) dX12_inside_83 lX12_390 bX12_drivers nX12_drivers (ci := 11) rfl eX12_drivers hM.o (c_drivers (d := d + 1) (c := c) (N := N) (s := s) _ hM hN rfl hs3 g4 g6) (by omega) rfl (Nat.le_of_ble_eq_true rfl) ?_
      refine V.aload_n (pc := 86) dX12_inside_86 rfl ?_
      refine V.iload (pc := 87) dX12_inside_87 rfl ?_
      refine V.pV (as := [_]) (pc := 89) dX12_inside_89 lX12_387 bX12_drivens nX12_drivens (ci := 11) rfl eX12_drivens hM.o (c_drivens (d := d + 1) (c := c) (N := N) (s := s) _ hM hN rfl hs3 g4 g6) (by omega) rfl (Nat.le_of_ble_eq_true rfl) ?_
      refine V.pV (as := [_, _, _]) (pc := 92) dX12_inside_92 lX12_414 bX12_offsetBy nX12_offsetBy (ci := 11) rfl eX12_offsetBy hM.o (c_offsetBy (d := d + 0) (h := h) (y := y) (ss := ss) _ hM rfl (hH.congr e02) (hg.congr e02) (by omega) (by omega) hsm) (by omega) rfl (Nat.le_of_ble_eq_true rfl) ?_
      have ob := insO_bd (N := N) (c := c) (s := s) y1 hsm
      generalize hOe : obF h (drvN s N c) (drnN s N c) y.1 ss = O at ob ⊢
      have kl := insK_lt y1 ob
      refine V.is (pc := 95) dX12_inside_95 (by decide) (st1_8 rfl) ?_
      refine V.iload (pc := 97) dX12_inside_97 rfl ?_
      refine V.iconst (v := (-1)) (pc := 99) dX12_inside_99 (by decide) ?_
      refine V.icmp_eq 168 (pc := 100) dX12_inside_100 (by decide) (fun h100 => ?_) (fun h100 => ?_)
      · have hO : O = -1 := by
          have z2 := congrArg Int32.toInt h100
          rw [iI_toInt (by omega) (by omega)] at z2
          exact z2
        refine V.goto 69 (pc := 168) dX12_inside_168 (by decide) ?_
        refine V.weak wk_8 ?_
        refine V.weak wk_9 ?_
        refine ih (c + 1) b I2 (by omega) (by omega) (by rw [foldP_hit g2 g5 g4, ← hbe]; exact (istep_no hOe hO).symm) (hi2.no hN g4 g1 g6 rfl)
      · have hO : ¬ O = -1 := fun z => h100 (by rw [z]; rfl)
        refine V.iload (pc := 103) dX12_inside_103 rfl ?_
        refine V.iload (pc := 105) dX12_inside_105 rfl ?_
        refine V.iload_n (pc := 107) dX12_inside_107 rfl ?_
        refine V.icmp_ne 115 (pc := 108) dX12_inside_108 (by decide) (fun h108 => ?_) (fun h108 => ?_)
        · have hm1 : ¬ O = (y.1 : Int) := fun z => h108 (by rw [z, iI_nat])
          have eK : iI O = nI (insK y.1 O) := by rw [insK, if_neg hm1, ← iI_nat]; congr 1; omega
          refine V.iconst (v := 1) (pc := 115) dX12_inside_115 (by decide) ?_
          refine V.iadd (pc := 116) dX12_inside_116 ?_
          rw [show nI b.1 + (1 : Int32) = nI (b.1 + (if O = (y.1 : Int) then y.1 else 1)) from by rw [if_neg hm1]; exact nI_1 _]
          refine V.is (pc := 117) dX12_inside_117 (by decide) (st1_4 rfl) ?_
          refine V.iload (pc := 119) dX12_inside_119 rfl ?_
          refine V.iload_n (pc := 121) dX12_inside_121 rfl ?_
          refine V.icmp_ne 129 (pc := 122) dX12_inside_122 (by decide) (fun h122 => ?_) (fun h122 => absurd h122 h108)
          refine V.iload (pc := 129) dX12_inside_129 rfl ?_
          rw [eK]
          refine V.is (pc := 131) dX12_inside_131 (by decide) (st1_9 rfl) ?_
          refine V.iload (pc := 133) dX12_inside_133 rfl ?_
          refine V.if_eq 154 (pc := 135) dX12_inside_135 (by decide) (fun h135 => ?_) (fun h135 => ?_)
          · have z0 : b.2.1 = 0 := by
              rw [L0, nI_eq (by omega) (by omega)] at h135
              exact h135
            refine V.iload (pc := 154) dX12_inside_154 rfl ?_
            refine V.iconst (v := 2) (pc := 156) dX12_inside_156 (by decide) ?_
            refine V.idiv (pc := 157) dX12_inside_157 (by decide) ?_
            rw [L2, nI_div (by omega) (by omega) (by omega)]
            refine V.is (pc := 158) dX12_inside_158 (by decide) (st1_5 rfl) ?_
            refine V.iload (pc := 160) dX12_inside_160 rfl ?_
            refine V.is (pc := 162) dX12_inside_162 (by decide) (st1_6 rfl) ?_
            refine V.aload_n (pc := 164) dX12_inside_164 rfl ?_
            refine V.invV0 (as := []) (pc := 165) dX12_inside_165 lX12_399 bX12_keepRow nX12_keepRow (ci := 11) rfl eX12_keepRow hM.o (c_keepRow (d := d + 1) hM) (by omega) rfl (Nat.le_of_ble_eq_true rfl) ?_
            rintro _ _ _ I4 _ _ ⟨rfl, rfl, rfl, rfl, rfl, f1, f2⟩
            refine V.goto 69 (pc := 168) dX12_inside_168 (by decide) ?_
            refine V.weak wk_8 ?_
            refine V.weak wk_9 ?_
            exact ih (c + 1) (b.1 + (if O = (y.1 : Int) then y.1 else 1), N / 2, insK y.1 O, c) _ (by omega) (by omega) (by rw [foldP_hit g2 g5 g4, ← hbe]; exact (istep_b hOe hO (Or.inl z0)).symm) (hi2.yes hN g4 g1 g6 f1 f2)
          · have z0 : ¬ b.2.1 = 0 := fun z => h135 (by rw [z]; rfl)
            refine V.iload (pc := 138) dX12_inside_138 rfl ?_
            refine V.iload (pc := 140) dX12_inside_140 rfl ?_
            refine V.iconst (v := 2) (pc := 142) dX12_inside_142 (by decide) ?_
            refine V.idiv (pc := 143) dX12_inside_143 (by decide) ?_
            rw [L2, nI_div (by omega) (by omega) (by omega)]
            refine V.icmp_ne 168 (pc := 144) dX12_inside_144 (by decide) (fun h144 => ?_) (fun h144 => ?_)
            · have z1 : ¬ b.2.1 = N / 2 := fun z => h144 (by rw [z])
              refine V.goto 69 (pc := 168) dX12_inside_168 (by decide) ?_
              refine V.weak wk_8 ?_
              refine V.weak wk_9 ?_
              refine ih (c + 1) (b.1 + (if O = (y.1 : Int) then y.1 else 1), b.2) I2 (by omega) (by omega) (by rw [foldP_hit g2 g5 g4, ← hbe]; exact (istep_a hOe hO (fun z => z.elim z0 (fun z => z1 z.1))).symm) (hi2.no hN g4 g1 g6 rfl)
            · have z1 : b.2.1 = N / 2 := (nI_eq (by omega) (by omega)).mp h144
              refine V.iload (pc := 147) dX12_inside_147 rfl ?_
              refine V.iload (pc := 149) dX12_inside_149 rfl ?_
              refine V.icmp_ge 168 (pc := 151) dX12_inside_151 (by decide) (fun h151 => ?_) (fun h151 => ?_)
              · rw [le32, nI_toInt (by omega), nI_toInt (by omega)] at h151
                refine V.goto 69 (pc := 168) dX12_inside_168 (by decide) ?_
                refine V.weak wk_8 ?_
                refine V.weak wk_9 ?_
                refine ih (c + 1) (b.1 + (if O = (y.1 : Int) then y.1 else 1), b.2) I2 (by omega) (by omega) (by rw [foldP_hit g2 g5 g4, ← hbe]; exact (istep_a hOe hO (fun z => z.elim z0 (fun z => by have := z.2; omega))).symm) (hi2.no hN g4 g1 g6 rfl)
              · rw [le32, nI_toInt (by omega), nI_toInt (by omega)] at h151
                refine V.iload (pc := 154) dX12_inside_154 rfl ?_
                refine V.iconst (v := 2) (pc := 156) dX12_inside_156 (by decide) ?_
                refine V.idiv (pc := 157) dX12_inside_157 (by decide) ?_
                rw [L2, nI_div (by omega) (by omega) (by omega)]
                refine V.is (pc := 158) dX12_inside_158 (by decide) (st1_5 rfl) ?_
                refine V.iload (pc := 160) dX12_inside_160 rfl ?_
                refine V.is (pc := 162) dX12_inside_162 (by decide) (st1_6 rfl) ?_
                refine V.aload_n (pc := 164) dX12_inside_164 rfl ?_
                refine V.invV0 (as := []) (pc := 165) dX12_inside_165 lX12_399 bX12_keepRow nX12_keepRow (ci := 11) rfl eX12_keepRow hM.o (c_keepRow (d := d + 1) hM) (by omega) rfl (Nat.le_of_ble_eq_true rfl) ?_
                rintro _ _ _ I4 _ _ ⟨rfl, rfl, rfl, rfl, rfl, f1, f2⟩
                refine V.goto 69 (pc := 168) dX12_inside_168 (by decide) ?_
                refine V.weak wk_8 ?_
                refine V.weak wk_9 ?_
                exact ih (c + 1) (b.1 + (if O = (y.1 : Int) then y.1 else 1), N / 2, insK y.1 O, c) _ (by omega) (by omega) (by rw [foldP_hit g2 g5 g4, ← hbe]; exact (istep_b hOe hO (Or.inr ⟨z1, by omega⟩)).symm) (hi2.yes hN g4 g1 g6 f1 f2)
        · have hm1 : O = (y.1 : Int) := by
            rw [← iI_nat] at h108
            have z2 := congrArg Int32.toInt h108
            rw [iI_toInt (by omega) (by omega), iI_toInt (by omega) (by omega)] at z2
            exact z2
          refine V.iload_n (pc := 111) dX12_inside_111 rfl ?_
          refine V.goto 116 (pc := 112) dX12_inside_112 (by decide) ?_
          refine V.iadd (pc := 116) dX12_inside_116 ?_
          rw [show nI b.1 + nI y.1 = nI (b.1 + (if O = (y.1 : Int) then y.1 else 1)) from by rw [if_pos hm1]; exact nI_add _ _]
          refine V.is (pc := 117) dX12_inside_117 (by decide) (st1_4 rfl) ?_
          refine V.iload (pc := 119) dX12_inside_119 rfl ?_
          refine V.iload_n (pc := 121) dX12_inside_121 rfl ?_
          refine V.icmp_ne 129 (pc := 122) dX12_inside_122 (by decide) (fun h122 => absurd h108 h122) (fun h122 => ?_)
          refine V.iconst (v := 0) (pc := 125) dX12_inside_125 (by decide) ?_
          rw [show (0 : Int32) = nI (insK y.1 O) from by rw [insK, if_pos hm1]; rfl]
          refine V.goto 131 (pc := 126) dX12_inside_126 (by decide) ?_
          refine V.is (pc := 131) dX12_inside_131 (by decide) (st1_9 rfl) ?_
          refine V.iload (pc := 133) dX12_inside_133 rfl ?_
          refine V.if_eq 154 (pc := 135) dX12_inside_135 (by decide) (fun h135 => ?_) (fun h135 => ?_)
          · have z0 : b.2.1 = 0 := by
              rw [L0, nI_eq (by omega) (by omega)] at h135
              exact h135
            refine V.iload (pc := 154) dX12_inside_154 rfl ?_
            refine V.iconst (v := 2) (pc := 156) dX12_inside_156 (by decide) ?_
            refine V.idiv (pc := 157) dX12_inside_157 (by decide) ?_
            rw [L2, nI_div (by omega) (by omega) (by omega)]
            refine V.is (pc := 158) dX12_inside_158 (by decide) (st1_5 rfl) ?_
            refine V.iload (pc := 160) dX12_inside_160 rfl ?_
            refine V.is (pc := 162) dX12_inside_162 (by decide) (st1_6 rfl) ?_
            refine V.aload_n (pc := 164) dX12_inside_164 rfl ?_
            refine V.invV0 (as := []) (pc := 165) dX12_inside_165 lX12_399 bX12_keepRow nX12_keepRow (ci := 11) rfl eX12_keepRow hM.o (c_keepRow (d := d + 1) hM) (by omega) rfl (Nat.le_of_ble_eq_true rfl) ?_
            rintro _ _ _ I4 _ _ ⟨rfl, rfl, rfl, rfl, rfl, f1, f2⟩
            refine V.goto 69 (pc := 168) dX12_inside_168 (by decide) ?_
            refine V.weak wk_8 ?_
            refine V.weak wk_9 ?_
            exact ih (c + 1) (b.1 + (if O = (y.1 : Int) then y.1 else 1), N / 2, insK y.1 O, c) _ (by omega) (by omega) (by rw [foldP_hit g2 g5 g4, ← hbe]; exact (istep_b hOe hO (Or.inl z0)).symm) (hi2.yes hN g4 g1 g6 f1 f2)
          · have z0 : ¬ b.2.1 = 0 := fun z => h135 (by rw [z]; rfl)
            refine V.iload (pc := 138) dX12_inside_138 rfl ?_
            refine V.iload (pc := 140) dX12_inside_140 rfl ?_
            refine V.iconst (v := 2) (pc := 142) dX12_inside_142 (by decide) ?_
            refine V.idiv (pc := 143) dX12_inside_143 (by decide) ?_
            rw [L2, nI_div (by omega) (by omega) (by omega)]
            refine V.icmp_ne 168 (pc := 144) dX12_inside_144 (by decide) (fun h144 => ?_) (fun h144 => ?_)
            · have z1 : ¬ b.2.1 = N / 2 := fun z => h144 (by rw [z])
              refine V.goto 69 (pc := 168) dX12_inside_168 (by decide) ?_
              refine V.weak wk_8 ?_
              refine V.weak wk_9 ?_
              refine ih (c + 1) (b.1 + (if O = (y.1 : Int) then y.1 else 1), b.2) I2 (by omega) (by omega) (by rw [foldP_hit g2 g5 g4, ← hbe]; exact (istep_a hOe hO (fun z => z.elim z0 (fun z => z1 z.1))).symm) (hi2.no hN g4 g1 g6 rfl)
            · have z1 : b.2.1 = N / 2 := (nI_eq (by omega) (by omega)).mp h144
              refine V.iload (pc := 147) dX12_inside_147 rfl ?_
              refine V.iload (pc := 149) dX12_inside_149 rfl ?_
              refine V.icmp_ge 168 (pc := 151) dX12_inside_151 (by decide) (fun h151 => ?_) (fun h151 => ?_)
              · rw [le32, nI_toInt (by omega), nI_toInt (by omega)] at h151
                refine V.goto 69 (pc := 168) dX12_inside_168 (by decide) ?_
                refine V.weak wk_8 ?_
                refine V.weak wk_9 ?_
                refine ih (c + 1) (b.1 + (if O = (y.1 : Int) then y.1 else 1), b.2) I2 (by omega) (by omega) (by rw [foldP_hit g2 g5 g4, ← hbe]; exact (istep_a hOe hO (fun z => z.elim z0 (fun z => by have := z.2; omega))).symm) (hi2.no hN g4 g1 g6 rfl)
              · rw [le32, nI_toInt (by omega), nI_toInt (by omega)] at h151
                refine V.iload (pc := 154) dX12_inside_154 rfl ?_
                refine V.iconst (v := 2) (pc := 156) dX12_inside_156 (by decide) ?_
                refine V.idiv (pc := 157) dX12_inside_157 (by decide) ?_
                rw [L2, nI_div (by omega) (by omega) (by omega)]
                refine V.is (pc := 158) dX12_inside_158 (by decide) (st1_5 rfl) ?_
                refine V.iload (pc := 160) dX12_inside_160 rfl ?_
                refine V.is (pc := 162) dX12_inside_162 (by decide) (st1_6 rfl) ?_
                refine V.aload_n (pc := 164) dX12_inside_164 rfl ?_
                refine V.invV0 (as := []) (pc := 165) dX12_inside_165 lX12_399 bX12_keepRow nX12_keepRow (ci := 11) rfl eX12_keepRow hM.o (c_keepRow (d := d + 1) hM) (by omega) rfl (Nat.le_of_ble_eq_true rfl) ?_
                rintro _ _ _ I4 _ _ ⟨rfl, rfl, rfl, rfl, rfl, f1, f2⟩
                refine V.goto 69 (pc := 168) dX12_inside_168 (by decide) ?_
                refine V.weak wk_8 ?_
                refine V.weak wk_9 ?_
                exact ih (c + 1) (b.1 + (if O = (y.1 : Int) then y.1 else 1), N / 2, insK y.1 O, c) _ (by omega) (by omega) (by rw [foldP_hit g2 g5 g4, ← hbe]; exact (istep_b hOe hO (Or.inr ⟨z1, by omega⟩)).symm) (hi2.yes hN g4 g1 g6 f1 f2)
    · refine V.if_eq 171 (pc := 75) dX12_inside_75 (by decide) (fun h75 => ?_) (fun h75 => absurd rfl h75)
      refine kk _ _ (by rw [foldP_to hct g2]; exact hbe) (fun a a1 a2 => by rw [g1 a a1]; exact h1 a a1 a2) ?_
      unfold IMem
      rw [g1 (m + 15) (by omega)]
      exact h4
