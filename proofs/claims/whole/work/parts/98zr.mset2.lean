theorem l_pq {g : gG} {d : Nat} {T : mT} {n : Nat} {I : mI} {J : mJ} {F : mF} {Q : mQ} {m kf h1 h2 aim W H K : Nat} {a b : Nat → Nat} (hM : MS T F m) (hW : 0 < W ∧ W ≤ 400) (hH : 0 < H ∧ H ≤ 400) (hK : K ≤ 4) (hkf : kf ≤ K) (hh : h1 < 6 ∧ h2 < 6) (hk5 : I (m + 2) 5 = nI K) (hab : ∀ k, k < K → a k ≤ 9 ∧ b k ≤ 9) (hkn : ∀ k, k < K → I (m + 2) (124 + 6 * k + h1) = nI (a k) ∧ I (m + 2) (124 + 6 * k + h2) = nI (b k)) (kk : ∀ (Qs : RLq) (h : Nat) (I' : mI), Qs.length ≤ h → RQ W H K a b kf aim Qs h kf → RMem m (160000 * kf) (W * H) I Qs I' → V g mX12_findPushes (d + 1) Q 0 0 253 [some (.ref m), some (.int (nI kf)), some (.int (nI h1)), some (.int (nI h2)), some (.int (nI aim)), some (.int (nI W)), some (.int (nI H)), some (.int (nI (160000 * kf))), some (.int (nI Qs.length)), some (.int (nI h)), none, none, none, none] [] T n I' J F) : ∀ (t h : Nat) (Qs : RLq) (I' : mI), h ≤ Qs.length → W * H - h < t → RQ W H K a b kf aim Qs h kf → RMem m (160000 * kf) (W * H) I Qs I' → V g mX12_findPushes (d + 1) Q 0 0 79 [some (.ref m), some (.int (nI kf)), some (.int (nI h1)), some (.int (nI h2)), some (.int (nI aim)), some (.int (nI W)), some (.int (nI H)), some (.int (nI (160000 * kf))), some (.int (nI Qs.length)), some (.int (nI h)), none, none, none, none] [] T n I' J F := by
  have hWH : W * H ≤ 400 * 400 := Nat.mul_le_mul hW.2 hH.2
  intro t
  induction t with
  | zero => intro h Qs I' _ hz; omega
  | succ t ih =>
    intro h Qs I' hhl ht B R
    have hlen := B.len
    refine V.iload (pc := 79) dX12_findPushes_79 rfl ?_
    refine V.iload (pc := 81) dX12_findPushes_81 rfl ?_
    refine V.icmp_ge 253 (pc := 83) dX12_findPushes_83 (by decide) (fun h83 => ?_) (fun h83 => ?_)
    · rw [le32, nI_toInt (by omega), nI_toInt (by omega)] at h83
      exact kk Qs h I' (by omega) B R
    · rw [le32, nI_toInt (by omega), nI_toInt (by omega)] at h83
      obtain ⟨⟨p, nn⟩, hq⟩ : ∃ x, Qs[h]? = some x := ⟨_, List.getElem?_eq_getElem (by omega)⟩
      obtain ⟨p1, p2, -⟩ := B.2.2.1 h p nn hq
      refine V.aload_n (pc := 86) dX12_findPushes_86 rfl ?_
      refine V.getR (pc := 87) dX12_findPushes_87 fX12_79_11 rfl hM.o hM.f39 ?_
      refine V.iload (pc := 90) dX12_findPushes_90 rfl ?_
      refine V.iald' (k := h) (pc := 92) dX12_findPushes_92 hM.t39 rfl (by omega) (by decide) ?_
      rw [(R.2.2.1 h p nn hq).1]
      refine V.is (pc := 93) dX12_findPushes_93 (by decide) (st1_10 rfl) ?_
      refine V.iload_n (pc := 95) dX12_findPushes_95 rfl ?_
      refine V.is (pc := 96) dX12_findPushes_96 (by decide) (st1_11 rfl) ?_
      refine l_pk (I := I) (p := p) (nn := nn) (h := h) hM hW hH hK hkf hh hk5 hab hkn (fun Q2 I2 B2 hl2 R2 => ?_) (K - kf) kf Qs I' (by omega) (Nat.le_refl _) B hq R
      refine V.iinc1 (pc := 247) dX12_findPushes_247 (by decide) rfl (st1_9 rfl) ?_
      refine V.goto 79 (pc := 250) dX12_findPushes_250 (by decide) ?_
      refine V.weak wk_10 ?_
      refine V.weak wk_11 ?_
      rw [nI_1]
      exact ih (h + 1) Q2 I2 (by omega) (by have := B2.len; omega) (B2.next hl2 (Nat.le_refl _)) R2
theorem l_pf {g : gG} {d : Nat} {T : mT} {n : Nat} {I : mI} {J : mJ} {F : mF} {Q : mQ} {m kf h1 h2 aim W H : Nat} (hM : MS T F m) (hW : 0 < W ∧ W ≤ 400) (hH : 0 < H ∧ H ≤ 400) (hkf : kf ≤ 4) (kk : ∀ I' : mI, (∀ a, a ≠ m + 17 → I' a = I a) → (∀ i, (i < 160000 * kf ∨ 160000 * kf + W * H ≤ i) → I' (m + 17) i = I (m + 17) i) → (∀ p, p < W * H → I' (m + 17) (160000 * kf + p) = nI 1000000000) → V g mX12_findPushes (d + 1) Q 0 0 54 [some (.ref m), some (.int (nI kf)), some (.int (nI h1)), some (.int (nI h2)), some (.int (nI aim)), some (.int (nI W)), some (.int (nI H)), some (.int (nI (160000 * kf))), some (.int (nI (W * H))), none, none, none, none, none] [] T n I' J F) : ∀ (t j : Nat) (I' : mI), j + t = W * H → ((∀ a, a ≠ m + 17 → I' a = I a) ∧ (∀ i, (i < 160000 * kf ∨ 160000 * kf + W * H ≤ i) → I' (m + 17) i = I (m + 17) i) ∧ ∀ p, p < j → I' (m + 17) (160000 * kf + p) = nI 1000000000) → V g mX12_findPushes (d + 1) Q 0 0 25 [some (.ref m), some (.int (nI kf)), some (.int (nI h1)), some (.int (nI h2)), some (.int (nI aim)), some (.int (nI W)), some (.int (nI H)), some (.int (nI (160000 * kf))), some (.int (nI j)), none, none, none, none, none] [] T n I' J F := by
  intro t
  induction t with
  | zero =>
    intro j I' hj hi
    obtain rfl : j = W * H := by omega
    have hWH : W * H ≤ 400 * 400 := Nat.mul_le_mul hW.2 hH.2
    refine V.iload (pc := 25) dX12_findPushes_25 rfl ?_
    refine V.iload (pc := 27) dX12_findPushes_27 rfl ?_
    refine V.iload (pc := 29) dX12_findPushes_29 rfl ?_
    refine V.imul (pc := 31) dX12_findPushes_31 ?_
    rw [pk_mul]
    refine V.icmp_ge 54 (pc := 32) dX12_findPushes_32 (by decide) (fun h32 => ?_) (fun h32 => absurd (nI_le (Nat.le_refl _) (by omega)) h32)
    exact kk I' hi.1 hi.2.1 hi.2.2
  | succ t ih =>
    intro j I' hj hi
    have hWH : W * H ≤ 400 * 400 := Nat.mul_le_mul hW.2 hH.2
    refine V.iload (pc := 25) dX12_findPushes_25 rfl ?_
    refine V.iload (pc := 27) dX12_findPushes_27 rfl ?_
    refine V.iload (pc := 29) dX12_findPushes_29 rfl ?_
    refine V.imul (pc := 31) dX12_findPushes_31 ?_
    rw [pk_mul]
    refine V.icmp_ge 54 (pc := 32) dX12_findPushes_32 (by decide) (fun h32 => absurd h32 (nI_ge (by omega) (by omega))) (fun h32 => ?_)
    refine V.aload_n (pc := 35) dX12_findPushes_35 rfl ?_
    refine V.getR (pc := 36) dX12_findPushes_36 fX12_75_11 rfl hM.o hM.f38 ?_
    refine V.iload (pc := 39) dX12_findPushes_39 rfl ?_
    refine V.iload (pc := 41) dX12_findPushes_41 rfl ?_
    refine V.iadd (pc := 43) dX12_findPushes_43 ?_
    refine V.ldcw (pc := 44) dX12_findPushes_44 qX12_431 ?_
    refine V.iast' (k := 160000 * kf + j) (pc := 47) dX12_findPushes_47 hM.t38 (by rw [nI_add]) (by omega) (by decide) ?_
    refine V.iinc1 (pc := 48) dX12_findPushes_48 (by decide) rfl (st1_8 rfl) ?_
    refine V.goto 25 (pc := 51) dX12_findPushes_51 (by decide) ?_
    rw [nI_1]
    refine ih (j + 1) _ (by omega) ⟨fun a ha => by rw [up2_off ha]; exact hi.1 a ha, fun i hi2 => by rw [up2_ne (by omega)]; exact hi.2.1 i hi2, fun p hp => ?_⟩
    by_cases q : p = j
    · subst q; rw [up2_same]; rfl
    · rw [up2_ne (by omega)]; exact hi.2.2 p (by omega)
/-- what findPushes leaves: least pushes from each place -/
def PFm (W H K : Nat) (a b : Nat → Nat) (m kf aim : Nat) (I : mI) : Prop := ∀ p, p < W * H → (∃ n, I (m + 17) (160000 * kf + p) = nI n ∧ n ≤ 160000 ∧ DP W H K a b kf aim p n) ∨ (I (m + 17) (160000 * kf + p) = nI 1000000000 ∧ ∀ u, sup kf K u → plc W H a b p u ≠ aim)
theorem RMem.pf {W H K kf aim h kk m : Nat} {a b : Nat → Nat} {I I' : mI} {Q : RLq} (R : RMem m (160000 * kf) (W * H) I Q I') (B : RQ W H K a b kf aim Q h kk) (hW : 0 < W ∧ W ≤ 400) (hH : 0 < H ∧ H ≤ 400) (hK : K ≤ 4) (hab : ∀ k, k < K → a k ≤ 9 ∧ b k ≤ 9) (hh : Q.length ≤ h) : PFm W H K a b m kf aim I' := by
  have hWH : W * H ≤ 400 * 400 := Nat.mul_le_mul hW.2 hH.2
  intro p hp
  rcases R.val B hp with ⟨j, n, e1, e2, e3⟩ | ⟨e1, e2⟩
  · exact Or.inl ⟨n, e2, by omega, B.dp hW.1 hH.1 hK hab hh e1⟩
  · exact Or.inr ⟨e2, B.no hW.1 hH.1 hK hab hh hp e1⟩
theorem RMem.start {m base S aim : Nat} {I I' : mI} (ha : aim < S) (h1 : ∀ a, a ≠ m + 17 → I' a = I a) (h2 : ∀ i, (i < base ∨ base + S ≤ i) → I' (m + 17) i = I (m + 17) i) (h3 : ∀ p, p < S → I' (m + 17) (base + p) = nI 1000000000) : RMem m base S I [(aim, 0)] (up2 (up2 I' (m + 17) (base + aim) (nI 0)) (m + 18) 0 (nI aim)) := by
  refine ⟨fun a a1 a2 => by rw [up2_off a2, up2_off a1]; exact h1 a a1, fun i hi => by rw [up2_off (by omega), up2_ne (by omega)]; exact h2 i hi, fun i p n e => ?_, fun p hp e => ?_⟩
  · have hl := get_lt e
    simp at hl
    subst hl
    simp at e
    rw [← e.1, ← e.2]
    exact ⟨up2_same, by rw [up2_off (by omega), up2_same]⟩
  · have hne : p ≠ aim := fun z => e 0 0 (by rw [z]; rfl)
    rw [up2_off (by omega), up2_ne (by omega)]
    exact h3 p hp
theorem c_findPushes {g : gG} {d : Nat} {T : mT} {n : Nat} {I : mI} {J : mJ} {F : mF} {m kf h1 h2 aim W H K : Nat} {a b : Nat → Nat} (hM : MS T F m) (hW : 0 < W ∧ W ≤ 400) (hH : 0 < H ∧ H ≤ 400) (hK : K ≤ 4) (hkf : kf ≤ K) (hh : h1 < 6 ∧ h2 < 6) (hk5 : I (m + 2) 5 = nI K) (hab : ∀ k, k < K → a k ≤ 9 ∧ b k ≤ 9) (hkn : ∀ k, k < K → I (m + 2) (124 + 6 * k + h1) = nI (a k) ∧ I (m + 2) (124 + 6 * k + h2) = nI (b k)) (ha : aim < W * H) (e1 : I (m + 2) (10 + 12 * h1 + 0) = nI W) (e2 : I (m + 2) (10 + 12 * h2 + 0) = nI H) : Ct g mX12_findPushes (d + 1) [.ref m, .int (nI kf), .int (nI h1), .int (nI h2), .int (nI aim)] 0 0 T n I J F (fun r' T' n' I' J' F' => r' = none ∧ T' = T ∧ n' = n ∧ J' = J ∧ F' = F ∧ (∀ a, a ≠ m + 17 → a ≠ m + 18 → I' a = I a) ∧ (∀ i, (i < 160000 * kf ∨ 160000 * kf + W * H ≤ i) → I' (m + 17) i = I (m + 17) i) ∧ PFm W H K a b m kf aim I') := by
  refine Ct.ofV (k := 9) (by decide) (Nat.le_of_ble_eq_true rfl) ?_
  show V g mX12_findPushes (d + 1) _ 0 0 0 [some (.ref m), some (.int (nI kf)), some (.int (nI h1)), some (.int (nI h2)), some (.int (nI aim)), none, none, none, none, none, none, none, none, none] [] T n I J F
  have hWH : W * H ≤ 400 * 400 := Nat.mul_le_mul hW.2 hH.2
  refine V.aload_n (pc := 0) dX12_findPushes_0 rfl ?_
  refine V.iload_n (pc := 1) dX12_findPushes_1 rfl ?_
  refine V.iconst (v := 0) (pc := 2) dX12_findPushes_2 (by decide) ?_
  refine V.pV (as := [_, _]) (pc := 3) dX12_findPushes_3 lX12_115 bX12_ofHand nX12_ofHand (ci := 11) rfl eX12_ofHand hM.o (c_ofHand (d := d + 0) (h := h1) (w := 0) _ _ hM rfl rfl (by omega)) (by omega) rfl (Nat.le_of_ble_eq_true rfl) ?_
  rw [e1]
  refine V.is (pc := 6) dX12_findPushes_6 (by decide) (st1_5 rfl) ?_
  refine V.aload_n (pc := 8) dX12_findPushes_8 rfl ?_
  refine V.iload_n (pc := 9) dX12_findPushes_9 rfl ?_
  refine V.iconst (v := 0) (pc := 10) dX12_findPushes_10 (by decide) ?_
  refine V.pV (as := [_, _]) (pc := 11) dX12_findPushes_11 lX12_115 bX12_ofHand nX12_ofHand (ci := 11) rfl eX12_ofHand hM.o (c_ofHand (d := d + 0) (h := h2) (w := 0) _ _ hM rfl rfl (by omega)) (by omega) rfl (Nat.le_of_ble_eq_true rfl) ?_
  rw [e2]
  refine V.is (pc := 14) dX12_findPushes_14 (by decide) (st1_6 rfl) ?_
  refine V.ldc (pc := 16) dX12_findPushes_16 qX12_78 ?_
  refine V.iload_n (pc := 18) dX12_findPushes_18 rfl ?_
  refine V.imul (pc := 19) dX12_findPushes_19 ?_
  rw [show (160000 : Int32) = nI 160000 from rfl, pk_mul]
  refine V.is (pc := 20) dX12_findPushes_20 (by decide) (st1_7 rfl) ?_
  refine V.iconst (v := 0) (pc := 22) dX12_findPushes_22 (by decide) ?_
  refine V.is (pc := 23) dX12_findPushes_23 (by decide) (st1_8 rfl) ?_
  conv => arg 8; rw [L0]
  refine l_pf (I := I) hM hW hH (by omega) (fun I2 g1 g2 g3 => ?_) (W * H) 0 I (by omega) ⟨fun _ _ => rfl, fun _ _ => rfl, fun p hp => absurd hp (by omega)⟩
  refine V.aload_n (pc := 54) dX12_findPushes_54 rfl ?_
  refine V.getR (pc := 55) dX12_findPushes_55 fX12_75_11 rfl hM.o hM.f38 ?_
  refine V.iload (pc := 58) dX12_findPushes_58 rfl ?_
  refine V.iload (pc := 60) dX12_findPushes_60 rfl ?_
  refine V.iadd (pc := 62) dX12_findPushes_62 ?_
  refine V.iconst (v := 0) (pc := 63) dX12_findPushes_63 (by decide) ?_
  refine V.iast' (k := 160000 * kf + aim) (pc := 64) dX12_findPushes_64 hM.t38 (by rw [nI_add]) (by omega) (by decide) ?_
  refine V.aload_n (pc := 65) dX12_findPushes_65 rfl ?_
  refine V.getR (pc := 66) dX12_findPushes_66 fX12_79_11 rfl hM.o hM.f39 ?_
  refine V.iconst (v := 0) (pc := 69) dX12_findPushes_69 (by decide) ?_
  refine V.iload (pc := 70) dX12_findPushes_70 rfl ?_
  refine V.iast' (k := 0) (pc := 72) dX12_findPushes_72 hM.t39 rfl (by decide) (by decide) ?_
  refine V.iconst (v := 1) (pc := 73) dX12_findPushes_73 (by decide) ?_
  refine V.is (pc := 74) dX12_findPushes_74 (by decide) (st1_8 rfl) ?_
  refine V.iconst (v := 0) (pc := 76) dX12_findPushes_76 (by decide) ?_
  refine V.is (pc := 77) dX12_findPushes_77 (by decide) (st1_9 rfl) ?_
  conv => arg 8; rw [show (1 : Int32) = nI 1 from rfl, L0]
  refine l_pq (I := I) hM hW hH hK hkf hh hk5 hab hkn (fun Q2 h I3 hl2 B2 R2 => ?_) (W * H + 1) 0 [(aim, 0)] _ (by simp) (by omega) (RQ.start ha) (RMem.start ha g1 g2 g3)
  exact V.vret (pc := 253) dX12_findPushes_253 rfl ⟨rfl, rfl, rfl, rfl, rfl, R2.1, R2.2.1, R2.pf B2 hW hH hK hab hl2⟩
