def setSz (A : Ab) (x m1 z m2 dd w : Int) : Nat := match hdAt (cor A) x, hdAt (cor A) z with
  | some y1, some y2 => if (x ≠ z ∧ (0 ≤ dd ∧ dd ≤ 1000000)) ∧ (0 ≤ w ∧ w ≤ (kns (cor A)).length) ∧ (0 ≤ m1 ∧ m1 < y1.1) ∧ (0 ≤ m2 ∧ m2 < y2.1) then y1.1 * y2.1 else 0
  | _, _ => 0
theorem lkN_0 {k : Nat} : lkN k 0 = k := if_neg (by omega)
theorem RepX.kn {T : mT} {I : mI} {J : mJ} {F : mF} {x : Nat} {A : Ab} (hR : RepX T I J F x A) {h : Nat} (hh : h < 6) {k : Nat} (hk : k < (kns (cor A)).length) : I (x + 1 + 7) (6 * k + h) = nI (knA (kns (cor A)) h k) := by
  unfold knA
  rw [List.getElem?_eq_getElem hk]
  exact hR.2.2.1.2.2.2.2.1.1 k _ (List.getElem?_eq_getElem hk) h hh
theorem l_ak {g : gG} {d : Nat} {T : mT} {n : Nat} {I : mI} {J : mJ} {F : mF} {Q : mQ} {x l k0 W H h1 h2 b1 b2 : Nat} {A : Ab} {v2 v4 v5 v6 : Int32} (hX : XS T F x) (hA : AbOK A) (hR : RepX T I J F x A) (hSt : StS T F (x + 41) l k0) (hl2 : x + 44 < l) (hlx : l ≠ x ∧ l ≠ x + 1 ∧ l ≠ x + 1 + 7) (hW : 0 < W ∧ W ≤ 400) (hH : 0 < H ∧ H ≤ 400) (hh : h1 < 6 ∧ h2 < 6) (e0 : I (x + 41) 0 = nI W) (e1 : I (x + 41) 1 = nI H) (e2 : I (x + 41) 2 = nI 0) (kk : ∀ I' : mI, (∀ c, c ≠ x + 41 → c ≠ x + 42 → c ≠ x + 43 → I' c = I c) → KNm (x + 41) W H (kns (cor A)).length (knA (kns (cor A)) h1) (knA (kns (cor A)) h2) I' → V g mX11_set (d + 4) Q 0 0 159 [some (.ref x), some (.int (nI h1)), some (.int v2), some (.int (nI h2)), some (.int v4), some (.int v5), some (.int v6), some (.ref b1), some (.ref b2), some (.int (nI (kns (cor A)).length))] [] T n I' J F) : ∀ (t j : Nat) (I' : mI), j + t = (kns (cor A)).length → ((∀ c, c ≠ x + 41 → c ≠ x + 42 → c ≠ x + 43 → I' c = I c) ∧ KNm (x + 41) W H j (knA (kns (cor A)) h1) (knA (kns (cor A)) h2) I') → V g mX11_set (d + 4) Q 0 0 114 [some (.ref x), some (.int (nI h1)), some (.int v2), some (.int (nI h2)), some (.int v4), some (.int v5), some (.int v6), some (.ref b1), some (.ref b2), some (.int (nI j))] [] T n I' J F := by
  intro t
  induction t with
  | zero =>
    intro j I' hj hi
    obtain rfl : j = (kns (cor A)).length := by omega
    have hTo := hX.s.o
    have hT12 := hX.o12
    obtain ⟨hK4, hKab⟩ := kn_ab hA.1 (h1 := h1) (h2 := h2)
    refine V.iload (pc := 114) dX11_set_114 rfl ?_
    refine V.aload_n (pc := 116) dX11_set_116 rfl ?_
    refine V.getR (pc := 117) dX11_set_117 fX11_10_10 rfl hX.o hX.f0 ?_
    refine V.getI (pc := 120) dX11_set_120 fX11_258_7 rfl (by assumption) ?_
    rw [hi.1 (x + 1) (by omega) (by omega) (by omega), hR.h14]
    refine V.icmp_ge 159 (pc := 123) dX11_set_123 (by decide) (fun h123 => ?_) (fun h123 => absurd (nI_le (Nat.le_refl _) (by omega)) h123)
    exact kk I' hi.1 hi.2
  | succ t ih =>
    intro j I' hj hi
    have hTo := hX.s.o
    have hT12 := hX.o12
    obtain ⟨hK4, hKab⟩ := kn_ab hA.1 (h1 := h1) (h2 := h2)
    obtain ⟨ka, kb⟩ := hKab j (by omega)
    have e14 : I' (x + 1) 14 = nI (kns (cor A)).length := by rw [hi.1 _ (by omega) (by omega) (by omega)]; exact hR.h14
    have e7 : I' (x + 1 + 7) = I (x + 1 + 7) := hi.1 _ (by omega) (by omega) (by omega)
    refine V.iload (pc := 114) dX11_set_114 rfl ?_
    refine V.aload_n (pc := 116) dX11_set_116 rfl ?_
    refine V.getR (pc := 117) dX11_set_117 fX11_10_10 rfl hX.o hX.f0 ?_
    refine V.getI (pc := 120) dX11_set_120 fX11_258_7 rfl (by assumption) ?_
    rw [hi.1 (x + 1) (by omega) (by omega) (by omega), hR.h14]
    refine V.icmp_ge 159 (pc := 123) dX11_set_123 (by decide) (fun h123 => absurd h123 (nI_ge (by omega) (by omega))) (fun h123 => ?_)
    refine V.aload_n (pc := 126) dX11_set_126 rfl ?_
    refine V.getR (pc := 127) dX11_set_127 fX11_71_10 rfl hX.o hX.f12 ?_
    refine V.aload_n (pc := 130) dX11_set_130 rfl ?_
    refine V.getR (pc := 131) dX11_set_131 fX11_10_10 rfl hX.o hX.f0 ?_
    refine V.iload (pc := 134) dX11_set_134 rfl ?_
    refine V.iload_n (pc := 136) dX11_set_136 rfl ?_
    refine V.pV (as := [_, _]) (pc := 137) dX11_set_137 lX11_261 bX8_pushOf nX8_pushOf (ci := 7) rfl eX8_pushOf (by assumption) (x_pushOf (d := d + 3) (k := j) (h := h1) _ _ hX.s rfl rfl (by omega)) (by omega) rfl (Nat.le_of_ble_eq_true rfl) ?_
    rw [e7, hR.kn (by omega) (show j < (kns (cor A)).length by omega)]
    refine V.aload_n (pc := 140) dX11_set_140 rfl ?_
    refine V.getR (pc := 141) dX11_set_141 fX11_10_10 rfl hX.o hX.f0 ?_
    refine V.iload (pc := 144) dX11_set_144 rfl ?_
    refine V.iload_n (pc := 146) dX11_set_146 rfl ?_
    refine V.pV (as := [_, _]) (pc := 147) dX11_set_147 lX11_261 bX8_pushOf nX8_pushOf (ci := 7) rfl eX8_pushOf (by assumption) (x_pushOf (d := d + 3) (k := j) (h := h2) _ _ hX.s rfl rfl (by omega)) (by omega) rfl (Nat.le_of_ble_eq_true rfl) ?_
    rw [e7, hR.kn (by omega) (show j < (kns (cor A)).length by omega)]
    refine V.invV0 (as := [_, _]) (pc := 150) dX11_set_150 lX11_272 bX6_addKnob nX6_addKnob (ci := 5) rfl eX6_addKnob (by assumption) (x_addKnob (d := d + 2) (W := W) (H := H) (j := j) hSt hW hH hi.2.1 hi.2.2.1 hi.2.2.2.1 (by omega) ⟨ka, kb⟩) (by omega) rfl (Nat.le_of_ble_eq_true rfl) ?_
    rintro _ _ _ _ _ _ ⟨rfl, rfl, rfl, rfl, rfl, rfl⟩
    refine V.iinc1 (pc := 153) dX11_set_153 (by decide) rfl (st1_9 rfl) ?_
    refine V.goto 114 (pc := 156) dX11_set_156 (by decide) ?_
    rw [nI_1]
    refine ih (j + 1) _ (by omega) ⟨fun c c1 c2 c3 => by rw [up2_off c1, up2_off (by omega), up2_off (by omega)]; exact hi.1 c c1 c2 c3, by rw [up2_ne (by omega), up2_off (by omega), up2_off (by omega)]; exact hi.2.1, by rw [up2_ne (by omega), up2_off (by omega), up2_off (by omega)]; exact hi.2.2.1, up2_same, fun k hk => ?_⟩
    by_cases q : k = j
    · subst q; exact ⟨by rw [up2_off (by omega), up2_off (by omega), up2_same], by rw [up2_off (by omega), up2_same]⟩
    · rw [up2_off (by omega), up2_off (by omega), up2_ne (by omega), up2_off (by omega), up2_ne (by omega), up2_off (by omega)]
      exact hi.2.2.2.2 k (by omega)
