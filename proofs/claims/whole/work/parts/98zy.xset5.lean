-- links are made when they are needed
def lkN (k S : Nat) : Nat := if k < S then max S (min 160000 (max 256 (2 * k))) else k
def lkM (k S : Nat) : Nat := if k < S then lkN k S else 0
def phi (k : Nat) : Nat := if 160000 ≤ k then 0 else 480000 - 2 * k
theorem lk_phi {k S : Nat} (h : S ≤ 160000) : lkM k S + phi (lkN k S) ≤ phi k := by
  unfold lkM
  split
  · rename_i z
    unfold lkN
    rw [if_pos z]
    unfold phi
    split <;> split <;> omega
  · rename_i z
    unfold lkN
    rw [if_neg z]
    omega
theorem lk_le {k S : Nat} (h : S ≤ 160000) (hk : k ≤ 160000) : S ≤ lkN k S ∧ lkN k S ≤ 160000 := by
  unfold lkN
  split <;> omega
theorem nI_maxq {x y : Nat} (hx : x < 2 ^ 31) (hy : y < 2 ^ 31) : (if nI x < nI y then nI y else nI x) = nI (max x y) := by
  by_cases z : x < y
  · rw [if_pos (by rw [lt32, nI_toInt hx, nI_toInt hy]; omega), Nat.max_eq_right (by omega)]
  · rw [if_neg (by rw [lt32, nI_toInt hx, nI_toInt hy]; omega), Nat.max_eq_left (by omega)]
theorem nI_min2 {x y : Nat} (hx : x < 2 ^ 31) (hy : y < 2 ^ 31) : (if nI y < nI x then nI y else nI x) = nI (min x y) := by
  by_cases z : y < x
  · rw [if_pos (by rw [lt32, nI_toInt hx, nI_toInt hy]; omega), Nat.min_eq_right (by omega)]
  · rw [if_neg (by rw [lt32, nI_toInt hx, nI_toInt hy]; omega), Nat.min_eq_left (by omega)]
theorem mm4 {w : Nat} (h : 0 < w ∧ w ≤ 400) : (if (1 : Int32) < (if (400 : Int32) < nI w then 400 else nI w) then (if (400 : Int32) < nI w then 400 else nI w) else 1) = nI w := by
  rw [show (400 : Int32) = nI 400 from rfl, show (1 : Int32) = nI 1 from rfl, nI_min2 (by omega) (by omega), nI_maxq (by omega) (by omega)]
  congr 1
  omega
theorem l_bg {g : gG} {d : Nat} {T : mT} {n : Nat} {I : mI} {J : mJ} {F : mF} {Q : mQ} {oo l k S : Nat} {v1 v2 : Int32} (hSt : StS T F oo l k) (hS : S ≤ k) (kk : ∀ I' : mI, (∀ c, c ≠ l → I' c = I c) → (∀ p, p < S → I' l p = 0) → Q none T n I' J F) : ∀ (t j : Nat) (I' : mI), j + t = S → ((∀ c, c ≠ l → I' c = I c) ∧ ∀ p, p < j → I' l p = 0) → V g mX6_begin (d + 1) Q 0 0 89 [some (.ref oo), some (.int v1), some (.int v2), some (.int (nI S)), some (.int (nI j))] [] T n I' J F := by
  intro t
  induction t with
  | zero =>
    intro j I' hj hi
    obtain rfl : j = S := by omega
    have hkb := hSt.kb
    refine V.iload (pc := 89) dX6_begin_89 rfl ?_
    refine V.iload_n (pc := 91) dX6_begin_91 rfl ?_
    refine V.icmp_ge 119 (pc := 92) dX6_begin_92 (by decide) (fun h92 => ?_) (fun h92 => absurd (nI_le (Nat.le_refl _) (by omega)) h92)
    exact V.vret (pc := 119) dX6_begin_119 rfl (kk I' hi.1 hi.2)
  | succ t ih =>
    intro j I' hj hi
    have hkb := hSt.kb
    refine V.iload (pc := 89) dX6_begin_89 rfl ?_
    refine V.iload_n (pc := 91) dX6_begin_91 rfl ?_
    refine V.icmp_ge 119 (pc := 92) dX6_begin_92 (by decide) (fun h92 => absurd h92 (nI_ge (by omega) (by omega))) (fun h92 => ?_)
    refine V.iload (pc := 95) dX6_begin_95 rfl ?_
    refine V.aload_n (pc := 97) dX6_begin_97 rfl ?_
    refine V.getR (pc := 98) dX6_begin_98 fX6_34_5 rfl hSt.o hSt.f7 ?_
    refine V.alen (pc := 101) dX6_begin_101 hSt.t7 ty_i (by rfl) ?_
    refine V.icmp_ge 119 (pc := 102) dX6_begin_102 (by decide) (fun h102 => absurd h102 (nI_ge (by omega) (by omega))) (fun h102 => ?_)
    refine V.aload_n (pc := 105) dX6_begin_105 rfl ?_
    refine V.getR (pc := 106) dX6_begin_106 fX6_34_5 rfl hSt.o hSt.f7 ?_
    refine V.iload (pc := 109) dX6_begin_109 rfl ?_
    refine V.iconst (v := 0) (pc := 111) dX6_begin_111 (by decide) ?_
    refine V.iast' (k := j) (pc := 112) dX6_begin_112 hSt.t7 rfl (by omega) (by omega) ?_
    refine V.iinc1 (pc := 113) dX6_begin_113 (by decide) rfl (st1_4 rfl) ?_
    refine V.goto 89 (pc := 116) dX6_begin_116 (by decide) ?_
    rw [nI_1]
    refine ih (j + 1) _ (by omega) ⟨fun c hc => by rw [up2_off hc]; exact hi.1 c hc, fun p hp => ?_⟩
    by_cases q : p = j
    · subst q; rw [up2_same]
    · rw [up2_ne (by omega)]; exact hi.2 p (by omega)
theorem StS.new {T : mT} {F : mF} {oo l k n N : Nat} (h : StS T F oo l k) (hD : ∀ a sh, T a = some sh → a < n) (hn : oo + 4 < n) (hN : N ≤ 160000) : StS (upT T n (.inr (.int, N))) (up2 (clr F n none) oo 7 (some n)) oo n N := by
  have fe : ∀ {j w : Nat}, j ≠ 7 → F oo j = some w → up2 (clr F n none) oo 7 (some n) oo j = some w := fun hj e => by rw [up2_ne (by omega), clr_off (by omega)]; exact e
  exact ⟨by rw [upT_lt (by omega)]; exact h.o, ⟨fe (by omega) h.f3, by rw [upT_lt (by omega)]; exact h.t3⟩, ⟨fe (by omega) h.f4, by rw [upT_lt (by omega)]; exact h.t4⟩, ⟨fe (by omega) h.f5, by rw [upT_lt (by omega)]; exact h.t5⟩, up2_same, upT_at, by omega, hN⟩
theorem upT_mono {T : mT} {n : Nat} {sh : Nat ⊕ (FieldType × Nat)} (hD : ∀ a sh, T a = some sh → a < n) : ∀ a s, T a = some s → upT T n sh a = some s := fun a s h => by rw [upT_lt (hD a s h)]; exact h
theorem x_sbegin {g : gG} {d : Nat} {T : mT} {n : Nat} {I : mI} {J : mJ} {F : mF} {oo l k0 W H : Nat} (hSt : StS T F oo l k0) (hW : 0 < W ∧ W ≤ 400) (hH : 0 < H ∧ H ≤ 400) (hn : oo + 4 < n) (hln : l < n) : Ct g mX6_begin (d + 1) [.ref oo, .int (nI W), .int (nI H)] 1 (lkM k0 (W * H)) T n I J F (fun r' T' n' I' J' F' => r' = none ∧ (∀ a sh, T a = some sh → T' a = some sh) ∧ (∀ a, T' a = some (.inl 2) → T a = some (.inl 2)) ∧ n ≤ n' ∧ ∃ l', StS T' F' oo l' (lkN k0 (W * H)) ∧ (l' = l ∨ n ≤ l') ∧ (∀ p, p < W * H → I' l' p = 0) ∧ (∀ c, c < n → c ≠ oo → c ≠ l → I' c = I c) ∧ (∀ c, c < n → J' c = J c) ∧ (∀ c, c < n → c ≠ oo → F' c = F c) ∧ (∀ j, j ≠ 7 → F' oo j = F oo j) ∧ I' oo 0 = nI W ∧ I' oo 1 = nI H ∧ I' oo 2 = nI 0) := by
  refine Ct.ofV (k := 2) (by decide) (Nat.le_of_ble_eq_true rfl) ?_
  show V g mX6_begin (d + 1) _ 1 (lkM k0 (W * H)) 0 [some (.ref oo), some (.int (nI W)), some (.int (nI H)), none, none] [] T n I J F
  refine V.dom (fun hD => ?_)
  have hWH : W * H ≤ 400 * 400 := Nat.mul_le_mul hW.2 hH.2
  have hkb := hSt.kb
  have hlo := hSt.lo
  obtain ⟨lk1, lk2⟩ := lk_le (k := k0) (S := W * H) (by omega) hkb
  refine V.aload_n (pc := 0) dX6_begin_0 rfl ?_
  refine V.iconst (v := 1) (pc := 1) dX6_begin_1 (by decide) ?_
  refine V.iload_n (pc := 2) dX6_begin_2 rfl ?_
  refine V.sipush (v := 400) (pc := 3) dX6_begin_3 (by decide) ?_
  refine V.mmin (pc := 6) dX6_begin_6 lX6_40 (by omega) (Nat.le_of_ble_eq_true rfl) ?_
  refine V.mmax (pc := 9) dX6_begin_9 lX6_46 (by omega) (Nat.le_of_ble_eq_true rfl) ?_
  rw [mm4 hW]
  refine V.putI (pc := 12) dX6_begin_12 fX6_9_5 (fun r h => by cases h; exact Or.inl rfl) rfl hSt.o ?_
  refine V.aload_n (pc := 15) dX6_begin_15 rfl ?_
  refine V.iconst (v := 1) (pc := 16) dX6_begin_16 (by decide) ?_
  refine V.iload_n (pc := 17) dX6_begin_17 rfl ?_
  refine V.sipush (v := 400) (pc := 18) dX6_begin_18 (by decide) ?_
  refine V.mmin (pc := 21) dX6_begin_21 lX6_40 (by omega) (Nat.le_of_ble_eq_true rfl) ?_
  refine V.mmax (pc := 24) dX6_begin_24 lX6_46 (by omega) (Nat.le_of_ble_eq_true rfl) ?_
  rw [mm4 hH]
  refine V.putI (pc := 27) dX6_begin_27 fX6_15_5 (fun r h => by cases h; exact Or.inl rfl) rfl hSt.o ?_
  refine V.aload_n (pc := 30) dX6_begin_30 rfl ?_
  refine V.iconst (v := 0) (pc := 31) dX6_begin_31 (by decide) ?_
  refine V.putI (pc := 32) dX6_begin_32 fX6_18_5 (fun r h => by cases h; exact Or.inl rfl) rfl hSt.o ?_
  refine V.aload_n (pc := 35) dX6_begin_35 rfl ?_
  refine V.getI (pc := 36) dX6_begin_36 fX6_9_5 rfl hSt.o ?_
  rw [up2_ne (by omega), up2_ne (by omega), up2_same]
  refine V.aload_n (pc := 39) dX6_begin_39 rfl ?_
  refine V.getI (pc := 40) dX6_begin_40 fX6_15_5 rfl hSt.o ?_
  rw [up2_ne (by omega), up2_same]
  refine V.imul (pc := 43) dX6_begin_43 ?_
  rw [pk_mul]
  refine V.isn (pc := 44) dX6_begin_44 (by decide) (st1_3 rfl) ?_
  refine V.aload_n (pc := 45) dX6_begin_45 rfl ?_
  refine V.getR (pc := 46) dX6_begin_46 fX6_34_5 rfl hSt.o hSt.f7 ?_
  refine V.alen (pc := 49) dX6_begin_49 hSt.t7 ty_i (by rfl) ?_
  refine V.iload_n (pc := 50) dX6_begin_50 rfl ?_
  refine V.icmp_ge 86 (pc := 51) dX6_begin_51 (by decide) (fun h51 => ?_) (fun h51 => ?_)
  · rw [show Int32.ofNat k0 = nI k0 from rfl, le32, nI_toInt (by omega), nI_toInt (by omega)] at h51
    have eN : lkN k0 (W * H) = k0 := if_neg (by omega)
    refine V.iconst (v := 0) (pc := 86) dX6_begin_86 (by decide) ?_
    refine V.is (pc := 87) dX6_begin_87 (by decide) (st1_4 rfl) ?_
    conv => arg 8; rw [L0]
    refine V.room (bc := 0) (bs := 0) (by omega) (by omega) ?_
    refine l_bg hSt (by omega) (fun I2 g1 g2 => ⟨rfl, fun _ _ z => z, fun _ z => z, Nat.le_refl _, l, by rw [eN]; exact hSt, Or.inl rfl, g2, fun c c0 c1 c2 => by rw [g1 c c2, up2_off (by omega), up2_off (by omega), up2_off (by omega)], fun _ _ => rfl, fun _ _ _ => rfl, fun _ _ => rfl, by rw [g1 oo (by omega), up2_ne (by omega), up2_ne (by omega), up2_same], by rw [g1 oo (by omega), up2_ne (by omega), up2_same], by rw [g1 oo (by omega), up2_same]; rfl⟩) (W * H) 0 _ (by omega) ⟨fun _ _ => rfl, fun p hp => absurd hp (by omega)⟩
  · rw [show Int32.ofNat k0 = nI k0 from rfl, le32, nI_toInt (by omega), nI_toInt (by omega)] at h51
    have eN : lkN k0 (W * H) = max (W * H) (min 160000 (max 256 (2 * k0))) := if_pos (by omega)
    have eM : lkM k0 (W * H) = lkN k0 (W * H) := if_pos (by omega)
    refine V.ldc (pc := 54) dX6_begin_54 qX6_49 ?_
    refine V.sipush (v := 256) (pc := 56) dX6_begin_56 (by decide) ?_
    refine V.iconst (v := 2) (pc := 59) dX6_begin_59 (by decide) ?_
    refine V.aload_n (pc := 60) dX6_begin_60 rfl ?_
    refine V.getR (pc := 61) dX6_begin_61 fX6_34_5 rfl hSt.o hSt.f7 ?_
    refine V.alen (pc := 64) dX6_begin_64 hSt.t7 ty_i (by rfl) ?_
    refine V.imul (pc := 65) dX6_begin_65 ?_
    rw [show Int32.ofNat k0 = nI k0 from rfl, L2, pk_mul]
    refine V.mmax (pc := 66) dX6_begin_66 lX6_46 (by omega) (Nat.le_of_ble_eq_true rfl) ?_
    rw [show (256 : Int32) = nI 256 from rfl, nI_maxq (by omega) (by omega)]
    refine V.mmin (pc := 69) dX6_begin_69 lX6_40 (by omega) (Nat.le_of_ble_eq_true rfl) ?_
    rw [show (160000 : Int32) = nI 160000 from rfl, nI_min2 (by omega) (by omega)]
    refine V.is (pc := 72) dX6_begin_72 (by decide) (st1_4 rfl) ?_
    refine V.aload_n (pc := 74) dX6_begin_74 rfl ?_
    refine V.iload_n (pc := 75) dX6_begin_75 rfl ?_
    refine V.iload (pc := 76) dX6_begin_76 rfl ?_
    refine V.mmax (pc := 78) dX6_begin_78 lX6_46 (by omega) (Nat.le_of_ble_eq_true rfl) ?_
    rw [nI_maxq (by omega) (by omega), ← eN]
    refine V.room (bc := 0 + 1) (bs := 0 + lkN k0 (W * H)) (by omega) (by omega) ?_
    refine V.newa (N := lkN k0 (W * H)) (pc := 81) dX6_begin_81 rfl a_int (by decide) rfl rfl (nI_pos (by omega)) (nI_clamp (by omega)) (by show lkN k0 (W * H) * 4 ≤ 536870912; omega) ?_
    refine V.putR (b := (some _)) (pc := 83) dX6_begin_83 fX6_34_5 (fun r h => by cases h; exact Or.inl rfl) rfl (by rw [upT_lt (by omega)]; exact hSt.o) ?_
    refine V.iconst (v := 0) (pc := 86) dX6_begin_86 (by decide) ?_
    refine V.is (pc := 87) dX6_begin_87 (by decide) (st1_4 rfl) ?_
    conv => arg 8; rw [L0]
    refine l_bg (hSt.new hD hn lk2) (by omega) (fun I2 g1 g2 => ⟨rfl, upT_mono hD, fun a z => ?_, by omega, n, hSt.new hD hn lk2, Or.inr (Nat.le_refl _), g2, fun c c0 c1 c2 => by rw [g1 c (by omega), clr_off (by omega), up2_off (by omega), up2_off (by omega), up2_off (by omega)], fun c c0 => clr_off (by omega), fun c c0 c1 => by rw [up2_off c1, clr_off (by omega)], fun j hj => by rw [up2_ne (by omega), clr_off (by omega)], by rw [g1 oo (by omega), clr_off (by omega), up2_ne (by omega), up2_ne (by omega), up2_same], by rw [g1 oo (by omega), clr_off (by omega), up2_ne (by omega), up2_same], by rw [g1 oo (by omega), clr_off (by omega), up2_same]; rfl⟩) (W * H) 0 _ (by omega) ⟨fun _ _ => rfl, fun p hp => absurd hp (by omega)⟩
    by_cases q : a = n
    · subst q; rw [upT_at] at z; cases z
    · rw [upT, if_neg q] at z; exact z
theorem x_addKnob {g : gG} {d : Nat} {T : mT} {n : Nat} {I : mI} {J : mJ} {F : mF} {oo l k0 W H j a b : Nat} (hSt : StS T F oo l k0) (hW : 0 < W ∧ W ≤ 400) (hH : 0 < H ∧ H ≤ 400) (h0 : I oo 0 = nI W) (h1 : I oo 1 = nI H) (h2 : I oo 2 = nI j) (hj : j < 4) (hab : a ≤ 9 ∧ b ≤ 9) : Ct g mX6_addKnob (d + 1) [.ref oo, .int (nI a), .int (nI b)] 0 0 T n I J F (fun r' T' n' I' J' F' => r' = none ∧ T' = T ∧ n' = n ∧ J' = J ∧ F' = F ∧ I' = up2 (up2 (up2 I (oo + 1) j (nI (a % W))) (oo + 2) j (nI (b % H))) oo 2 (nI (j + 1))) := by
  refine Ct.ofV (k := 0) (by decide) (Nat.le_of_ble_eq_true rfl) ?_
  show V g mX6_addKnob (d + 1) _ 0 0 0 [some (.ref oo), some (.int (nI a)), some (.int (nI b))] [] T n I J F
  refine V.aload_n (pc := 0) dX6_addKnob_0 rfl ?_
  refine V.getI (pc := 1) dX6_addKnob_1 fX6_18_5 rfl hSt.o ?_
  rw [h2]
  refine V.if_lt 59 (pc := 4) dX6_addKnob_4 (by decide) (fun h4 => absurd h4 (nI_pos (by omega))) (fun h4 => ?_)
  refine V.aload_n (pc := 7) dX6_addKnob_7 rfl ?_
  refine V.getI (pc := 8) dX6_addKnob_8 fX6_18_5 rfl hSt.o ?_
  rw [h2]
  refine V.iconst (v := 4) (pc := 11) dX6_addKnob_11 (by decide) ?_
  refine V.icmp_ge 59 (pc := 12) dX6_addKnob_12 (by decide) (fun h12 => absurd h12 (by rw [le32, nI_toInt (by omega)]; show ¬ (4 : Int) ≤ _; omega)) (fun h12 => ?_)
  refine V.aload_n (pc := 15) dX6_addKnob_15 rfl ?_
  refine V.getR (pc := 16) dX6_addKnob_16 fX6_21_5 rfl hSt.o hSt.f3 ?_
  refine V.aload_n (pc := 19) dX6_addKnob_19 rfl ?_
  refine V.getI (pc := 20) dX6_addKnob_20 fX6_18_5 rfl hSt.o ?_
  rw [h2]
  refine V.iload_n (pc := 23) dX6_addKnob_23 rfl ?_
  refine V.aload_n (pc := 24) dX6_addKnob_24 rfl ?_
  refine V.getI (pc := 25) dX6_addKnob_25 fX6_9_5 rfl hSt.o ?_
  rw [h0]
  refine V.pS (as := [_, _]) (pc := 28) dX6_addKnob_28 lX6_50 bX11_onRing sX11_onRing (x_onRing (d := d + 0) (m := W) _ _ rfl hW.1 (by omega)) (by omega) rfl (Nat.le_of_ble_eq_true rfl) ?_
  rw [nI_toInt (by omega), show (((a : Int) % (W : Int)).toNat) = a % W from by omega]
  refine V.iast' (k := j) (pc := 31) dX6_addKnob_31 hSt.t3 rfl (by omega) (by decide) ?_
  refine V.aload_n (pc := 32) dX6_addKnob_32 rfl ?_
  refine V.getR (pc := 33) dX6_addKnob_33 fX6_25_5 rfl hSt.o hSt.f4 ?_
  refine V.aload_n (pc := 36) dX6_addKnob_36 rfl ?_
  refine V.getI (pc := 37) dX6_addKnob_37 fX6_18_5 rfl hSt.o ?_
  rw [up2_off (by omega), h2]
  refine V.iload_n (pc := 40) dX6_addKnob_40 rfl ?_
  refine V.aload_n (pc := 41) dX6_addKnob_41 rfl ?_
  refine V.getI (pc := 42) dX6_addKnob_42 fX6_15_5 rfl hSt.o ?_
  rw [up2_off (by omega), h1]
  refine V.pS (as := [_, _]) (pc := 45) dX6_addKnob_45 lX6_50 bX11_onRing sX11_onRing (x_onRing (d := d + 0) (m := H) _ _ rfl hH.1 (by omega)) (by omega) rfl (Nat.le_of_ble_eq_true rfl) ?_
  rw [nI_toInt (by omega), show (((b : Int) % (H : Int)).toNat) = b % H from by omega]
  refine V.iast' (k := j) (pc := 48) dX6_addKnob_48 hSt.t4 rfl (by omega) (by decide) ?_
  refine V.aload_n (pc := 49) dX6_addKnob_49 rfl ?_
  refine V.dup (pc := 50) dX6_addKnob_50 rfl ?_
  refine V.getI (pc := 51) dX6_addKnob_51 fX6_18_5 rfl hSt.o ?_
  rw [up2_off (by omega), up2_off (by omega), h2]
  refine V.iconst (v := 1) (pc := 54) dX6_addKnob_54 (by decide) ?_
  refine V.iadd (pc := 55) dX6_addKnob_55 ?_
  rw [nI_1]
  refine V.putI (pc := 56) dX6_addKnob_56 fX6_18_5 (fun r h => by cases h; exact Or.inl rfl) rfl hSt.o ?_
  exact V.vret (pc := 59) dX6_addKnob_59 rfl ⟨rfl, rfl, rfl, rfl, rfl, rfl⟩
theorem x_pushesOf {g : gG} {d : Nat} {T : mT} {n : Nat} {I : mI} {J : mJ} {F : mF} {oo l k0 K j : Nat} (hSt : StS T F oo l k0) (h2 : I oo 2 = nI K) (hj : j < K) (hK : K ≤ 4) : Ct g mX6_pushesOf (d + 0) [.ref oo, .int (nI j)] 0 0 T n I J F (pureQ T n I J F (some (.int (I (oo + 3) j)))) := by
  refine Ct.ofV (k := 0) (by decide) (Nat.le_of_ble_eq_true rfl) ?_
  show V g mX6_pushesOf (d + 0) _ 0 0 0 [some (.ref oo), some (.int (nI j))] [] T n I J F
  refine V.iload_n (pc := 0) dX6_pushesOf_0 rfl ?_
  refine V.if_lt 26 (pc := 1) dX6_pushesOf_1 (by decide) (fun h1 => absurd h1 (nI_pos (by omega))) (fun h1 => ?_)
  refine V.iload_n (pc := 4) dX6_pushesOf_4 rfl ?_
  refine V.aload_n (pc := 5) dX6_pushesOf_5 rfl ?_
  refine V.getI (pc := 6) dX6_pushesOf_6 fX6_18_5 rfl hSt.o ?_
  rw [h2]
  refine V.icmp_ge 26 (pc := 9) dX6_pushesOf_9 (by decide) (fun h9 => absurd h9 (nI_ge hj (by omega))) (fun h9 => ?_)
  refine V.iload_n (pc := 12) dX6_pushesOf_12 rfl ?_
  refine V.iconst (v := 4) (pc := 13) dX6_pushesOf_13 (by decide) ?_
  refine V.icmp_ge 26 (pc := 14) dX6_pushesOf_14 (by decide) (fun h14 => absurd h14 (by rw [le32, nI_toInt (by omega)]; show ¬ (4 : Int) ≤ _; omega)) (fun h14 => ?_)
  refine V.aload_n (pc := 17) dX6_pushesOf_17 rfl ?_
  refine V.getR (pc := 18) dX6_pushesOf_18 fX6_28_5 rfl hSt.o hSt.f5 ?_
  refine V.iload_n (pc := 21) dX6_pushesOf_21 rfl ?_
  refine V.iald' (k := j) (pc := 22) dX6_pushesOf_22 hSt.t5 rfl (by omega) (by decide) ?_
  refine V.goto 27 (pc := 23) dX6_pushesOf_23 (by decide) ?_
  exact V.iret (pc := 27) dX6_pushesOf_27 rfl ⟨rfl, rfl, rfl, rfl, rfl, rfl⟩
