theorem md3 {x a m : Nat} (h : x < m) : ((x + a) % m + m - a % m) % m = x := by
  have hm : 0 < m := by omega
  have hr := Nat.mod_lt a hm
  rw [← Nat.add_mod_mod]
  generalize a % m = r at *
  by_cases z : x + r < m
  · rw [Nat.mod_eq_of_lt z, show x + r + m - r = x + m by omega, Nat.add_mod_right, Nat.mod_eq_of_lt h]
  · have e : (x + r) % m = x + r - m := by rw [Nat.mod_eq_sub_mod (Nat.le_of_not_lt z), Nat.mod_eq_of_lt (by omega)]
    rw [e, show x + r - m + m - r = x by omega, Nat.mod_eq_of_lt h]
theorem back3 {W H k p : Nat} {a b : Nat → Nat} (hH : 0 < H) (h : p < W * H) : (stp4 W H a b k p / H + W - a k % W) % W * H + (stp4 W H a b k p % H + H - b k % H) % H = p := by
  obtain ⟨h1, h2⟩ := dv_lt h
  unfold stp4
  obtain ⟨e1, e2⟩ := dvH (x := (p / H + a k) % W) (Nat.mod_lt (p % H + b k) hH)
  rw [e1, e2, md3 h1, md3 h2]
  exact dvE p H
theorem sub_add {x y w : Nat} (h : y ≤ x + w) : nI x - nI y + nI w = nI (x + w - y) := by
  rw [← iI_nat, ← iI_nat, ← iI_nat, ← iI_nat, iI_sub, iI_add]
  congr 1
  omega
theorem tot_0 {u : V4} (h : tot u = 0) : u = (0, 0, 0, 0) := v4_ext (by unfold tot at h; show u.1 = 0; omega) (by unfold tot at h; show u.2.1 = 0; omega) (by unfold tot at h; show u.2.2.1 = 0; omega) (by unfold tot at h; show u.2.2.2 = 0; omega)
theorem l_cb {g : gG} {d : Nat} {T : mT} {n : Nat} {I : mI} {J : mJ} {F : mF} {Q : mQ} {oo l k0 W H K h kq : Nat} {a b : Nat → Nat} {t : V4} {Qs : QL} {v1 : Int32} (hSt : StS T F oo l k0) (hW : 0 < W ∧ W ≤ 400) (hH : 0 < H ∧ H ≤ 400) (hK : K ≤ 4) (hS : W * H ≤ k0) (hk : KNm oo W H K a b I) (B : BQ W H K a b Qs h kq) (M : LMq l (W * H) Qs I) (ht : tot t < 160000) (kk : ∀ I' : mI, (∀ c, c ≠ oo → c ≠ oo + 3 → I' c = I c) ∧ (∀ j, j ≠ 6 → I' oo j = I oo j) → (∀ k, k < 4 → I' (oo + 3) k = nI (v4g t k)) → I' oo 6 = nI (tot t) → Q (some (.int 1)) T n I' J F) : ∀ (m j p : Nat) (u : V4) (I' : mI), tot u = m → m ≤ tot t → Qs[j]? = some (p, u) → (∀ c, c ≠ oo → c ≠ oo + 3 → I' c = I c) ∧ (∀ j, j ≠ 6 → I' oo j = I oo j) → (∀ k, k < 4 → ∃ y, I' (oo + 3) k = nI y ∧ y + v4g u k = v4g t k) → I' oo 6 = nI (tot t - m) → V g mX6_countBack (d + 2) Q 0 0 29 [some (.ref oo), some (.int v1), some (.int (nI p)), some (.int (nI (tot t - m))), none, none] [] T n I' J F := by
  have hWH : W * H ≤ 400 * 400 := Nat.mul_le_mul hW.2 hH.2
  have hkb := hSt.kb
  have hlo := hSt.lo
  intro m
  induction m with
  | zero =>
    intro j p u I' hu hm hq hi hy h6
    obtain rfl := tot_0 hu
    obtain rfl : p = 0 := by rw [← (B.2.2.1 j p _ hq).1]; exact plc_0 (Nat.mul_pos hW.1 hH.1)
    rw [Nat.sub_zero] at h6 ⊢
    have hfin := kk I' hi (fun k hk => by obtain ⟨y, y1, y2⟩ := hy k hk; rw [y1, ← y2]; congr 1; rcases q4c hk with rfl | rfl | rfl | rfl <;> rfl) h6
    refine V.iload_n (pc := 29) dX6_countBack_29 rfl ?_
    refine V.ldc (pc := 30) dX6_countBack_30 qX6_49 ?_
    refine V.icmp_ge 141 (pc := 32) dX6_countBack_32 (by decide) (fun h32 => absurd h32 (by rw [le32, nI_toInt (by omega)]; show ¬ (160000 : Int) ≤ _; omega)) (fun h32 => ?_)
    refine V.iload_n (pc := 35) dX6_countBack_35 rfl ?_
    refine V.if_eq 141 (pc := 36) dX6_countBack_36 (by decide) (fun h36 => ?_) (fun h36 => absurd rfl h36)
    refine V.iload_n (pc := 141) dX6_countBack_141 rfl ?_
    refine V.if_ne 149 (pc := 142) dX6_countBack_142 (by decide) (fun h142 => absurd rfl h142) (fun h142 => ?_)
    refine V.iconst (v := 1) (pc := 145) dX6_countBack_145 (by decide) ?_
    refine V.goto 150 (pc := 146) dX6_countBack_146 (by decide) ?_
    exact V.zret (pc := 150) dX6_countBack_150 rfl (by first | exact Or.inl rfl | exact Or.inr rfl | exact bi_or | assumption) hfin
  | succ m ih =>
    intro j p u I' hu hm hq hi hy h6
    have hu0 : u ≠ (0, 0, 0, 0) := fun z => by rw [z] at hu; simp [tot] at hu
    have hj0 : j ≠ 0 := fun z => hu0 (by rw [z, B.1] at hq; injection hq with hq; injection hq with _ e; exact e.symm)
    obtain ⟨i, p2, u2, k, c1, c2, c3, c4', -, c6, c7⟩ := B.2.2.2.1 j p u (by omega) hq
    have hpn : p ≠ 0 := fun z => hj0 (by subst z; exact (B.uni hq B.1).1)
    have hlk : lst u = k := by rw [c6]; exact lst_inc c3 (by omega)
    have hpb : ∀ (i p : Nat) (t : V4), Qs[i]? = some (p, t) → p < W * H := fun i p t e => by rw [← (B.2.2.1 i p t e).1]; exact plc_lt hW.1 hH.1 _ _
    have p1 := hpb j p u hq
    have p12 := hpb i p2 u2 c2
    obtain ⟨x1, y1⟩ := dv_lt p1
    have hnx := nxq_le (i := j) hpb
    have hlp : I' l p = nI (k + 1 + 8 * nxq Qs j) := by rw [hi.1 l (by omega) (by omega), M.1 j p u hq, hlk]
    have hkn : KNm oo W H K a b I' := hk.congr (hi.2 0 (by omega)) (hi.2 1 (by omega)) (hi.2 2 (by omega)) (hi.1 _ (by omega) (by omega)) (hi.1 _ (by omega) (by omega))
    obtain ⟨ka, kb⟩ := hkn.2.2.2 k c4'
    have la := Nat.mod_lt (a k) hW.1
    have lb := Nat.mod_lt (b k) hH.1
    have eR : p - p / H * H = p % H := by have := dvE p H; omega
    have eL : p / H * H ≤ p := Nat.div_mul_le_self p H
    have eB : (p / H + W - a k % W) % W * H + (p % H + H - b k % H) % H = p2 := by rw [c7]; exact back3 hH.1 p12
    have hk4 : k < 4 := by omega
    have et : tot u = tot u2 + 1 := by rw [c6, tot_inc hk4]
    obtain ⟨y, yy1, yy2⟩ := hy k hk4
    refine V.iload_n (pc := 29) dX6_countBack_29 rfl ?_
    refine V.ldc (pc := 30) dX6_countBack_30 qX6_49 ?_
    refine V.icmp_ge 141 (pc := 32) dX6_countBack_32 (by decide) (fun h32 => absurd h32 (by rw [le32, nI_toInt (by omega)]; show ¬ (160000 : Int) ≤ _; omega)) (fun h32 => ?_)
    refine V.iload_n (pc := 35) dX6_countBack_35 rfl ?_
    refine V.if_eq 141 (pc := 36) dX6_countBack_36 (by decide) (fun h36 => absurd h36 (nI_nz (by omega) (by omega))) (fun h36 => ?_)
    refine V.aload_n (pc := 39) dX6_countBack_39 rfl ?_
    refine V.iload_n (pc := 40) dX6_countBack_40 rfl ?_
    refine V.pV (as := [_]) (pc := 41) dX6_countBack_41 lX6_72 bX6_knobTo nX6_knobTo (ci := 5) rfl eX6_knobTo hSt.o (x_knobTo (d := d + 0) (v := k) (nx := nxq Qs j) hSt (by omega) hlp hk4 (by omega)) (by omega) rfl (Nat.le_of_ble_eq_true rfl) ?_
    refine V.is (pc := 44) dX6_countBack_44 (by decide) (st1_4 rfl) ?_
    refine V.iload (pc := 46) dX6_countBack_46 rfl ?_
    refine V.if_lt 57 (pc := 48) dX6_countBack_48 (by decide) (fun h48 => absurd h48 (nI_pos (by omega))) (fun h48 => ?_)
    refine V.iload (pc := 51) dX6_countBack_51 rfl ?_
    refine V.iconst (v := 4) (pc := 53) dX6_countBack_53 (by decide) ?_
    refine V.icmp_lt 59 (pc := 54) dX6_countBack_54 (by decide) (fun h54 => ?_) (fun h54 => absurd (by rw [lt32, nI_toInt (by omega)]; show _ < (4 : Int); omega) h54)
    refine V.aload_n (pc := 59) dX6_countBack_59 rfl ?_
    refine V.getR (pc := 60) dX6_countBack_60 fX6_28_5 rfl hSt.o hSt.f5 ?_
    refine V.iload (pc := 63) dX6_countBack_63 rfl ?_
    refine V.dup2 (pc := 65) dX6_countBack_65 rfl rfl ?_
    refine V.iald' (k := k) (pc := 66) dX6_countBack_66 hSt.t5 rfl (by omega) (by decide) ?_
    rw [yy1]
    refine V.iconst (v := 1) (pc := 67) dX6_countBack_67 (by decide) ?_
    refine V.iadd (pc := 68) dX6_countBack_68 ?_
    rw [nI_1]
    refine V.iast' (k := k) (pc := 69) dX6_countBack_69 hSt.t5 rfl (by omega) (by decide) ?_
    refine V.aload_n (pc := 70) dX6_countBack_70 rfl ?_
    refine V.dup (pc := 71) dX6_countBack_71 rfl ?_
    refine V.getI (pc := 72) dX6_countBack_72 fX6_31_5 rfl hSt.o ?_
    rw [up2_off (by omega), h6]
    refine V.iconst (v := 1) (pc := 75) dX6_countBack_75 (by decide) ?_
    refine V.iadd (pc := 76) dX6_countBack_76 ?_
    rw [nI_1]
    refine V.putI (pc := 77) dX6_countBack_77 fX6_31_5 (fun r h => by cases h; exact Or.inl rfl) rfl hSt.o ?_
    refine V.iload_n (pc := 80) dX6_countBack_80 rfl ?_
    refine V.i2l (pc := 81) dX6_countBack_81 ?_
    rw [nI_l (by omega)]
    refine V.aload_n (pc := 82) dX6_countBack_82 rfl ?_
    refine V.getI (pc := 83) dX6_countBack_83 fX6_15_5 rfl hSt.o ?_
    rw [up2_ne (by omega), up2_off (by omega), hkn.2.1]
    refine V.i2l (pc := 86) dX6_countBack_86 ?_
    rw [nI_l (by omega)]
    refine V.pS (as := [_, _]) (pc := 87) dX6_countBack_87 lX6_75 bX11_cut sX11_cut (x_cut (d := d + 1) (a := p) (b := H) _ _ rfl rfl (by omega) (by omega)) (by omega) rfl (Nat.le_of_ble_eq_true rfl) ?_
    refine V.l2i (pc := 90) dX6_countBack_90 ?_
    rw [lN_i]
    refine V.is (pc := 91) dX6_countBack_91 (by decide) (st1_5 rfl) ?_
    refine V.aload_n (pc := 93) dX6_countBack_93 rfl ?_
    refine V.iload (pc := 94) dX6_countBack_94 rfl ?_
    refine V.aload_n (pc := 96) dX6_countBack_96 rfl ?_
    refine V.getR (pc := 97) dX6_countBack_97 fX6_21_5 rfl hSt.o hSt.f3 ?_
    refine V.iload (pc := 100) dX6_countBack_100 rfl ?_
    refine V.iald' (k := k) (pc := 102) dX6_countBack_102 hSt.t3 rfl (by omega) (by decide) ?_
    rw [up2_off (by omega), up2_off (by omega), ka]
    refine V.isub (pc := 103) dX6_countBack_103 ?_
    refine V.aload_n (pc := 104) dX6_countBack_104 rfl ?_
    refine V.getI (pc := 105) dX6_countBack_105 fX6_9_5 rfl hSt.o ?_
    rw [up2_ne (by omega), up2_off (by omega), hkn.1]
    refine V.iadd (pc := 108) dX6_countBack_108 ?_
    rw [sub_add (Nat.le_trans (Nat.le_of_lt la) (Nat.le_add_left _ _))]
    refine V.iload_n (pc := 109) dX6_countBack_109 rfl ?_
    refine V.iload (pc := 110) dX6_countBack_110 rfl ?_
    refine V.aload_n (pc := 112) dX6_countBack_112 rfl ?_
    refine V.getI (pc := 113) dX6_countBack_113 fX6_15_5 rfl hSt.o ?_
    rw [up2_ne (by omega), up2_off (by omega), hkn.2.1]
    refine V.imul (pc := 116) dX6_countBack_116 ?_
    rw [pk_mul]
    refine V.isub (pc := 117) dX6_countBack_117 ?_
    rw [pk_sub eL, eR]
    refine V.aload_n (pc := 118) dX6_countBack_118 rfl ?_
    refine V.getR (pc := 119) dX6_countBack_119 fX6_25_5 rfl hSt.o hSt.f4 ?_
    refine V.iload (pc := 122) dX6_countBack_122 rfl ?_
    refine V.iald' (k := k) (pc := 124) dX6_countBack_124 hSt.t4 rfl (by omega) (by decide) ?_
    rw [up2_off (by omega), up2_off (by omega), kb]
    refine V.isub (pc := 125) dX6_countBack_125 ?_
    refine V.aload_n (pc := 126) dX6_countBack_126 rfl ?_
    refine V.getI (pc := 127) dX6_countBack_127 fX6_15_5 rfl hSt.o ?_
    rw [up2_ne (by omega), up2_off (by omega), hkn.2.1]
    refine V.iadd (pc := 130) dX6_countBack_130 ?_
    rw [sub_add (Nat.le_trans (Nat.le_of_lt lb) (Nat.le_add_left _ _))]
    refine V.pV (as := [_, _]) (pc := 131) dX6_countBack_131 lX6_79 bX6_placeAt nX6_placeAt (ci := 5) rfl eX6_placeAt hSt.o (x_place (d := d + 1) (W := W) (H := H) hSt (by rw [up2_ne (by omega), up2_off (by omega)]; exact hkn.1) (by rw [up2_ne (by omega), up2_off (by omega)]; exact hkn.2.1) (by omega) (by omega) hW.2 hH.2) (by omega) rfl (Nat.le_of_ble_eq_true rfl) ?_
    rw [eB]
    refine V.isn (pc := 134) dX6_countBack_134 (by decide) (st1_2 rfl) ?_
    refine V.iinc1 (pc := 135) dX6_countBack_135 (by decide) rfl (st1_3 rfl) ?_
    refine V.goto 29 (pc := 138) dX6_countBack_138 (by decide) ?_
    refine V.weak wk_4 ?_
    refine V.weak wk_5 ?_
    rw [nI_1, show tot t - (m + 1) + 1 = tot t - m by omega]
    refine ih i p2 u2 _ (by omega) (by omega) c2 ⟨fun c d1 d2 => by rw [up2_off d1, up2_off d2]; exact hi.1 c d1 d2, fun j2 hj2 => by rw [up2_ne (by omega), up2_off (by omega)]; exact hi.2 j2 hj2⟩ (fun k2 hk2 => ?_) up2_same
    by_cases q : k2 = k
    · subst q
      refine ⟨y + 1, by rw [up2_off (by omega), up2_same], ?_⟩
      rw [c6, g_inc hk4 hk4, if_pos rfl] at yy2
      omega
    · obtain ⟨y3, z1, z2⟩ := hy k2 hk2
      refine ⟨y3, by rw [up2_off (by omega), up2_ne (by omega)]; exact z1, ?_⟩
      rw [c6, g_inc hk4 hk2, if_neg q] at z2
      exact z2
theorem x_countBack {g : gG} {d : Nat} {T : mT} {n : Nat} {I : mI} {J : mJ} {F : mF} {oo l k0 W H K h kq : Nat} {a b : Nat → Nat} {t : V4} {Qs : QL} {j aim : Nat} (hSt : StS T F oo l k0) (hW : 0 < W ∧ W ≤ 400) (hH : 0 < H ∧ H ≤ 400) (hK : K ≤ 4) (hS : W * H ≤ k0) (hk : KNm oo W H K a b I) (B : BQ W H K a b Qs h kq) (M : LMq l (W * H) Qs I) (hq : Qs[j]? = some (aim, t)) : Ct g mX6_countBack (d + 2) [.ref oo, .int (nI aim)] 0 0 T n I J F (fun r' T' n' I' J' F' => r' = some (.int 1) ∧ T' = T ∧ n' = n ∧ J' = J ∧ F' = F ∧ ((∀ c, c ≠ oo → c ≠ oo + 3 → I' c = I c) ∧ (∀ j, j ≠ 6 → I' oo j = I oo j)) ∧ (∀ k, k < 4 → I' (oo + 3) k = nI (v4g t k)) ∧ I' oo 6 = nI (tot t)) := by
  refine Ct.ofV (k := 4) (by decide) (Nat.le_of_ble_eq_true rfl) ?_
  show V g mX6_countBack (d + 2) _ 0 0 0 [some (.ref oo), some (.int (nI aim)), none, none, none, none] [] T n I J F
  have hWH : W * H ≤ 400 * 400 := Nat.mul_le_mul hW.2 hH.2
  have ht : tot t < 160000 := by
    have h1 := (B.2.2.1 j aim t hq).2.2
    have h2 := get_lt hq
    have h3 := B.len hW.1 hH.1
    omega
  have hlo := hSt.lo
  refine V.aload_n (pc := 0) dX6_countBack_0 rfl ?_
  refine V.iconst (v := 0) (pc := 1) dX6_countBack_1 (by decide) ?_
  refine V.putI (pc := 2) dX6_countBack_2 fX6_31_5 (fun r h => by cases h; exact Or.inl rfl) rfl hSt.o ?_
  refine V.iconst (v := 0) (pc := 5) dX6_countBack_5 (by decide) ?_
  refine V.isn (pc := 6) dX6_countBack_6 (by decide) (st1_2 rfl) ?_
  refine V.iload_n (pc := 7) dX6_countBack_7 rfl ?_
  refine V.iconst (v := 4) (pc := 8) dX6_countBack_8 (by decide) ?_
  refine V.icmp_ge 25 (pc := 9) dX6_countBack_9 (by decide) (fun h9 => absurd h9 (by decide)) (fun h9 => ?_)
  refine V.aload_n (pc := 12) dX6_countBack_12 rfl ?_
  refine V.getR (pc := 13) dX6_countBack_13 fX6_28_5 rfl hSt.o hSt.f5 ?_
  refine V.iload_n (pc := 16) dX6_countBack_16 rfl ?_
  refine V.iconst (v := 0) (pc := 17) dX6_countBack_17 (by decide) ?_
  refine V.iast' (k := 0) (pc := 18) dX6_countBack_18 hSt.t5 rfl (by decide) (by decide) ?_
  refine V.iinc (v := 1) (pc := 19) dX6_countBack_19 (by decide) rfl (by decide) (st1_2 rfl) ?_
  refine V.goto 7 (pc := 22) dX6_countBack_22 (by decide) ?_
  refine V.iload_n (pc := 7) dX6_countBack_7 rfl ?_
  refine V.iconst (v := 4) (pc := 8) dX6_countBack_8 (by decide) ?_
  refine V.icmp_ge 25 (pc := 9) dX6_countBack_9 (by decide) (fun h9 => absurd h9 (by decide)) (fun h9 => ?_)
  refine V.aload_n (pc := 12) dX6_countBack_12 rfl ?_
  refine V.getR (pc := 13) dX6_countBack_13 fX6_28_5 rfl hSt.o hSt.f5 ?_
  refine V.iload_n (pc := 16) dX6_countBack_16 rfl ?_
  refine V.iconst (v := 0) (pc := 17) dX6_countBack_17 (by decide) ?_
  refine V.iast' (k := 1) (pc := 18) dX6_countBack_18 hSt.t5 rfl (by decide) (by decide) ?_
  refine V.iinc (v := 2) (pc := 19) dX6_countBack_19 (by decide) rfl (by decide) (st1_2 rfl) ?_
  refine V.goto 7 (pc := 22) dX6_countBack_22 (by decide) ?_
  refine V.iload_n (pc := 7) dX6_countBack_7 rfl ?_
  refine V.iconst (v := 4) (pc := 8) dX6_countBack_8 (by decide) ?_
  refine V.icmp_ge 25 (pc := 9) dX6_countBack_9 (by decide) (fun h9 => absurd h9 (by decide)) (fun h9 => ?_)
  refine V.aload_n (pc := 12) dX6_countBack_12 rfl ?_
  refine V.getR (pc := 13) dX6_countBack_13 fX6_28_5 rfl hSt.o hSt.f5 ?_
  refine V.iload_n (pc := 16) dX6_countBack_16 rfl ?_
  refine V.iconst (v := 0) (pc := 17) dX6_countBack_17 (by decide) ?_
  refine V.iast' (k := 2) (pc := 18) dX6_countBack_18 hSt.t5 rfl (by decide) (by decide) ?_
  refine V.iinc (v := 3) (pc := 19) dX6_countBack_19 (by decide) rfl (by decide) (st1_2 rfl) ?_
  refine V.goto 7 (pc := 22) dX6_countBack_22 (by decide) ?_
  refine V.iload_n (pc := 7) dX6_countBack_7 rfl ?_
  refine V.iconst (v := 4) (pc := 8) dX6_countBack_8 (by decide) ?_
  refine V.icmp_ge 25 (pc := 9) dX6_countBack_9 (by decide) (fun h9 => absurd h9 (by decide)) (fun h9 => ?_)
  refine V.aload_n (pc := 12) dX6_countBack_12 rfl ?_
  refine V.getR (pc := 13) dX6_countBack_13 fX6_28_5 rfl hSt.o hSt.f5 ?_
  refine V.iload_n (pc := 16) dX6_countBack_16 rfl ?_
  refine V.iconst (v := 0) (pc := 17) dX6_countBack_17 (by decide) ?_
  refine V.iast' (k := 3) (pc := 18) dX6_countBack_18 hSt.t5 rfl (by decide) (by decide) ?_
  refine V.iinc (v := 4) (pc := 19) dX6_countBack_19 (by decide) rfl (by decide) (st1_2 rfl) ?_
  refine V.goto 7 (pc := 22) dX6_countBack_22 (by decide) ?_
  refine V.iload_n (pc := 7) dX6_countBack_7 rfl ?_
  refine V.iconst (v := 4) (pc := 8) dX6_countBack_8 (by decide) ?_
  refine V.icmp_ge 25 (pc := 9) dX6_countBack_9 (by decide) (fun h9 => ?_) (fun h9 => absurd (by decide) h9)
  refine V.iload_n (pc := 25) dX6_countBack_25 rfl ?_
  refine V.isn (pc := 26) dX6_countBack_26 (by decide) (st1_2 rfl) ?_
  refine V.iconst (v := 0) (pc := 27) dX6_countBack_27 (by decide) ?_
  refine V.isn (pc := 28) dX6_countBack_28 (by decide) (st1_3 rfl) ?_
  conv => arg 8; rw [L0, show nI 0 = nI (tot t - tot t) by rw [Nat.sub_self]]
  refine l_cb (I := I) (t := t) (Qs := Qs) hSt hW hH hK hS hk B M ht (fun I2 i1 i2 i3 => ⟨rfl, rfl, rfl, rfl, rfl, i1, i2, i3⟩) (tot t) j aim t _ rfl (Nat.le_refl _) hq ⟨fun c d1 d2 => by rw [up2_off d2, up2_off d2, up2_off d2, up2_off d2, up2_off d1], fun j2 hj2 => by rw [up2_off (by omega), up2_off (by omega), up2_off (by omega), up2_off (by omega), up2_ne (by omega)]⟩ (fun k hk => ⟨0, ?_, Nat.zero_add _⟩) (by rw [up2_off (by omega), up2_off (by omega), up2_off (by omega), up2_off (by omega), up2_same, Nat.sub_self]; rfl)
  rcases q4c hk with rfl | rfl | rfl | rfl <;> (simp (disch := omega) only [up2_off, up2_ne, up2_same]; rfl)
