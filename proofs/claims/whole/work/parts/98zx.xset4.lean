theorem LMq.met {W H K h kk l p : Nat} {a b : Nat → Nat} {Q : QL} {I : mI} (M : LMq l (W * H) Q I) (B : BQ W H K a b Q h kk) (hW : 0 < W ∧ W ≤ 400) (hH : 0 < H ∧ H ≤ 400) (hp : p < W * H) : (¬ I l p = 0) ↔ ∃ (j : Nat) (t : V4), Q[j]? = some (p, t) := by
  have hWH : W * H ≤ 400 * 400 := Nat.mul_le_mul hW.2 hH.2
  constructor
  · intro h
    by_cases e : ∃ (j : Nat) (t : V4), Q[j]? = some (p, t)
    · exact e
    · exact absurd (M.2 p hp (fun j t z => e ⟨j, t, z⟩)) h
  · rintro ⟨j, t, e⟩
    have hpb : ∀ (i p : Nat) (t : V4), Q[i]? = some (p, t) → p < W * H := fun i p t e => by rw [← (B.2.2.1 i p t e).1]; exact plc_lt hW.1 hH.1 _ _
    have := nxq_le (i := j) hpb
    have := lst_le t
    rw [M.1 j p t e]
    exact nI_nz (by omega) (by omega)
theorem nxq_at {Q : QL} {i : Nat} {x : Nat × V4} (h : Q[i + 1]? = some x) : nxq Q i = x.1 + 1 := by unfold nxq; rw [h]
theorem l_re {g : gG} {d : Nat} {T : mT} {n : Nat} {I : mI} {J : mJ} {F : mF} {Q : mQ} {oo l k0 W H K aim : Nat} {a b : Nat → Nat} {v1 v2 : Int32} (hSt : StS T F oo l k0) (hW : 0 < W ∧ W ≤ 400) (hH : 0 < H ∧ H ≤ 400) (hK : K ≤ 4) (hS : W * H ≤ k0) (hk : KNm oo W H K a b I) (ha : aim < W * H) (kk : ∀ (h : Nat) (Qs : QL) (I' : mI) (at_ : Int32), BQ W H K a b Qs h K → GIv oo l (W * H) I Qs I' → ((∃ (j : Nat) (t : V4), Qs[j]? = some (aim, t)) ∨ Qs.length ≤ h) → V g mX6_reaches (d + 3) Q 0 0 96 [some (.ref oo), some (.int v1), some (.int v2), some (.int (nI aim)), some (.int (nI (W * H))), some (.int at_), some (.int (nI h))] [] T n I' J F) : ∀ (t h : Nat) (Qs : QL) (I' : mI) (at_ : Int32), W * H - h < t → BQ W H K a b Qs h K → GIv oo l (W * H) I Qs I' → (h < Qs.length → ∃ (p : Nat) (t0 : V4), Qs[h]? = some (p, t0) ∧ at_ = nI p) → (Qs.length ≤ h → at_ = -1) → h ≤ Qs.length → V g mX6_reaches (d + 3) Q 0 0 51 [some (.ref oo), some (.int v1), some (.int v2), some (.int (nI aim)), some (.int (nI (W * H))), some (.int at_), some (.int (nI h))] [] T n I' J F := by
  have hWH : W * H ≤ 400 * 400 := Nat.mul_le_mul hW.2 hH.2
  have hkb := hSt.kb
  have hlo := hSt.lo
  intro t
  induction t with
  | zero => intro h Qs I' at_ hz; omega
  | succ t ih =>
    intro h Qs I' at_ hz B G h1 h2 hle
    have hlen := B.len hW.1 hH.1
    have hpb : ∀ (i p : Nat) (t : V4), Qs[i]? = some (p, t) → p < W * H := fun i p t e => by rw [← (B.2.2.1 i p t e).1]; exact plc_lt hW.1 hH.1 _ _
    refine V.iload (pc := 51) dX6_reaches_51 rfl ?_
    refine V.iload (pc := 53) dX6_reaches_53 rfl ?_
    refine V.icmp_ge 96 (pc := 55) dX6_reaches_55 (by decide) (fun h55 => ?_) (fun h55 => ?_)
    · rw [le32, nI_toInt (by omega), nI_toInt (by omega)] at h55
      exact kk h Qs I' at_ B G (Or.inr (by omega))
    · rw [le32, nI_toInt (by omega), nI_toInt (by omega)] at h55
      refine V.iload (pc := 58) dX6_reaches_58 rfl ?_
      refine V.iconst (v := (-1)) (pc := 60) dX6_reaches_60 (by decide) ?_
      refine V.icmp_eq 96 (pc := 61) dX6_reaches_61 (by decide) (fun h61 => ?_) (fun h61 => ?_)
      · have hex : Qs.length ≤ h := Nat.le_of_not_lt (fun z => by
          obtain ⟨p, t0, e1, e2⟩ := h1 z
          have := hpb h p t0 e1
          rw [e2] at h61
          have z2 := congrArg Int32.toInt h61
          rw [nI_toInt (by omega)] at z2
          have e3 : (-1 : Int32).toInt = -1 := rfl
          omega)
        exact kk h Qs I' _ B G (Or.inr hex)
      · have hlt : h < Qs.length := Nat.lt_of_not_le (fun z => h61 (h2 z))
        obtain ⟨p, t0, e1, e2⟩ := h1 hlt
        subst e2
        have p1 := hpb h p t0 e1
        refine V.aload_n (pc := 64) dX6_reaches_64 rfl ?_
        refine V.iload_n (pc := 65) dX6_reaches_65 rfl ?_
        refine V.pV (as := [_]) (pc := 66) dX6_reaches_66 lX6_57 bX6_isMet nX6_isMet (ci := 5) rfl eX6_isMet hSt.o (x_isMet (d := d + 1) hSt (by omega)) (by omega) rfl (Nat.le_of_ble_eq_true rfl) ?_
        refine V.if_ne 96 (pc := 69) dX6_reaches_69 (by decide) (fun h69 => ?_) (fun h69 => ?_)
        · have hmt := (G.2.2.1.met B hW hH ha).mp (bi_ne.mp h69)
          exact kk h Qs I' _ B G (Or.inl hmt)
        · 
          refine V.aload_n (pc := 72) dX6_reaches_72 rfl ?_
          refine V.iload (pc := 73) dX6_reaches_73 rfl ?_
          refine V.invV0 (as := [_]) (pc := 75) dX6_reaches_75 lX6_61 bX6_goOnFrom nX6_goOnFrom (ci := 5) rfl eX6_goOnFrom hSt.o (x_goOn (d := d + 0) (I0 := I) (Qs := Qs) (h := h) (t0 := t0) hSt hW hH hK hS hk B e1 G) (by omega) rfl (Nat.le_of_ble_eq_true rfl) ?_
          rintro _ _ _ I2 _ _ ⟨rfl, rfl, rfl, rfl, rfl, Q2, B2, hq2, G2⟩
          have hpb2 : ∀ (i p : Nat) (t : V4), Q2[i]? = some (p, t) → p < W * H := fun i p t e => by rw [← (B2.2.2.1 i p t e).1]; exact plc_lt hW.1 hH.1 _ _
          have hnx := nxq_le (i := h) hpb2
          have hl3 := lst_le t0
          refine V.aload_n (pc := 78) dX6_reaches_78 rfl ?_
          refine V.iload (pc := 79) dX6_reaches_79 rfl ?_
          refine V.pV (as := [_]) (pc := 81) dX6_reaches_81 lX6_65 bX6_linkAt nX6_linkAt (ci := 5) rfl eX6_linkAt hSt.o (x_linkAt (d := d + 2) (p := p) hSt (by omega)) (by omega) rfl (Nat.le_of_ble_eq_true rfl) ?_
          rw [G2.2.2.1.1 h p t0 hq2]
          refine V.iconst (v := 3) (pc := 84) dX6_reaches_84 (by decide) ?_
          refine V.ishr (pc := 85) dX6_reaches_85 ?_
          rw [nI_shr3 (by omega), show (lst t0 + 1 + 8 * nxq Q2 h) / 8 = nxq Q2 h by omega]
          refine V.iconst (v := 1) (pc := 86) dX6_reaches_86 (by decide) ?_
          refine V.isub (pc := 87) dX6_reaches_87 ?_
          refine V.is (pc := 88) dX6_reaches_88 (by decide) (st1_5 rfl) ?_
          refine V.iinc1 (pc := 90) dX6_reaches_90 (by decide) rfl (st1_6 rfl) ?_
          refine V.goto 51 (pc := 93) dX6_reaches_93 (by decide) ?_
          rw [nI_1]
          have hl2 := get_lt hq2
          refine ih (h + 1) Q2 I2 _ (by omega) B2 G2 (fun z => ?_) (fun z => by rw [nxq_0 z]; rfl) (by omega)
          obtain ⟨x, hx⟩ : ∃ x, Q2[h + 1]? = some x := ⟨_, List.getElem?_eq_getElem z⟩
          refine ⟨x.1, x.2, hx, ?_⟩
          rw [nxq_at hx, show (1 : Int32) = nI 1 from rfl, pk_sub (by omega), Nat.add_sub_cancel]
theorem x_reaches {g : gG} {d : Nat} {T : mT} {n : Nat} {I : mI} {J : mJ} {F : mF} {oo l k0 W H K : Nat} {a b : Nat → Nat} (v1 v2 : Int32) (hSt : StS T F oo l k0) (hW : 0 < W ∧ W ≤ 400) (hH : 0 < H ∧ H ≤ 400) (hK : K ≤ 4) (hS : W * H ≤ k0) (hk : KNm oo W H K a b I) (h0 : ∀ p, p < W * H → I l p = 0) : Ct g mX6_reaches (d + 3) [.ref oo, .int v1, .int v2] 0 0 T n I J F (fun r' T' n' I' J' F' => T' = T ∧ n' = n ∧ J' = J ∧ F' = F ∧ ((∀ c, c ≠ oo → c ≠ oo + 3 → c ≠ l → I' c = I c) ∧ (∀ j, j ≠ 6 → j ≠ 8 → I' oo j = I oo j)) ∧ ((r' = some (.int 1) ∧ ∃ t, IsL W H K a b 0 ((v1.toInt % (W : Int)).toNat * H + (v2.toInt % (H : Int)).toNat) t ∧ (∀ k, k < 4 → I' (oo + 3) k = nI (v4g t k)) ∧ I' oo 6 = nI (tot t)) ∨ (r' = some (.int 0) ∧ ∀ u, sup 0 K u → plc W H a b 0 u ≠ ((v1.toInt % (W : Int)).toNat * H + (v2.toInt % (H : Int)).toNat)))) := by
  refine Ct.ofV (k := 4) (by decide) (Nat.le_of_ble_eq_true rfl) ?_
  show V g mX6_reaches (d + 3) _ 0 0 0 [some (.ref oo), some (.int v1), some (.int v2), none, none, none, none] [] T n I J F
  have hWH : W * H ≤ 400 * 400 := Nat.mul_le_mul hW.2 hH.2
  have hkb := hSt.kb
  have hlo := hSt.lo
  have hpos := Nat.mul_pos hW.1 hH.1
  have m1 := Int.emod_nonneg v1.toInt (show (W : Int) ≠ 0 by omega)
  have m2 := Int.emod_lt_of_pos v1.toInt (show 0 < (W : Int) by omega)
  have m3 := Int.emod_nonneg v2.toInt (show (H : Int) ≠ 0 by omega)
  have m4 := Int.emod_lt_of_pos v2.toInt (show 0 < (H : Int) by omega)
  have ha : ((v1.toInt % (W : Int)).toNat * H + (v2.toInt % (H : Int)).toNat) < W * H := pl_lt (by omega) (by omega)
  refine V.iload_n (pc := 0) dX6_reaches_0 rfl ?_
  refine V.aload_n (pc := 1) dX6_reaches_1 rfl ?_
  refine V.getI (pc := 2) dX6_reaches_2 fX6_9_5 rfl hSt.o ?_
  rw [hk.1]
  refine V.pS (as := [_, _]) (pc := 5) dX6_reaches_5 lX6_50 bX11_onRing sX11_onRing (x_onRing (d := d + 2) (m := W) _ _ rfl hW.1 (by omega)) (by omega) rfl (Nat.le_of_ble_eq_true rfl) ?_
  refine V.aload_n (pc := 8) dX6_reaches_8 rfl ?_
  refine V.getI (pc := 9) dX6_reaches_9 fX6_15_5 rfl hSt.o ?_
  rw [hk.2.1]
  refine V.imul (pc := 12) dX6_reaches_12 ?_
  rw [pk_mul]
  refine V.iload_n (pc := 13) dX6_reaches_13 rfl ?_
  refine V.aload_n (pc := 14) dX6_reaches_14 rfl ?_
  refine V.getI (pc := 15) dX6_reaches_15 fX6_15_5 rfl hSt.o ?_
  rw [hk.2.1]
  refine V.pS (as := [_, _]) (pc := 18) dX6_reaches_18 lX6_50 bX11_onRing sX11_onRing (x_onRing (d := d + 2) (m := H) _ _ rfl hH.1 (by omega)) (by omega) rfl (Nat.le_of_ble_eq_true rfl) ?_
  refine V.iadd (pc := 21) dX6_reaches_21 ?_
  rw [nI_add]
  refine V.isn (pc := 22) dX6_reaches_22 (by decide) (st1_3 rfl) ?_
  refine V.aload_n (pc := 23) dX6_reaches_23 rfl ?_
  refine V.getI (pc := 24) dX6_reaches_24 fX6_9_5 rfl hSt.o ?_
  rw [hk.1]
  refine V.aload_n (pc := 27) dX6_reaches_27 rfl ?_
  refine V.getI (pc := 28) dX6_reaches_28 fX6_15_5 rfl hSt.o ?_
  rw [hk.2.1]
  refine V.imul (pc := 31) dX6_reaches_31 ?_
  rw [pk_mul]
  refine V.is (pc := 32) dX6_reaches_32 (by decide) (st1_4 rfl) ?_
  refine V.aload_n (pc := 34) dX6_reaches_34 rfl ?_
  refine V.iconst (v := 0) (pc := 35) dX6_reaches_35 (by decide) ?_
  refine V.putI (pc := 36) dX6_reaches_36 fX6_37_5 (fun r h => by cases h; exact Or.inl rfl) rfl hSt.o ?_
  refine V.aload_n (pc := 39) dX6_reaches_39 rfl ?_
  refine V.iconst (v := 0) (pc := 40) dX6_reaches_40 (by decide) ?_
  refine V.iconst (v := 1) (pc := 41) dX6_reaches_41 (by decide) ?_
  conv => arg 9; rw [L0]
  refine V.invV0 (as := [_, _]) (pc := 42) dX6_reaches_42 lX6_53 bX6_addToLink nX6_addToLink (ci := 5) rfl eX6_addToLink hSt.o (x_addTo (d := d + 2) (p := 0) _ hSt (by omega)) (by omega) rfl (Nat.le_of_ble_eq_true rfl) ?_
  rintro _ _ _ _ _ _ ⟨rfl, rfl, rfl, rfl, rfl, rfl⟩
  refine V.iconst (v := 0) (pc := 45) dX6_reaches_45 (by decide) ?_
  refine V.is (pc := 46) dX6_reaches_46 (by decide) (st1_5 rfl) ?_
  refine V.iconst (v := 0) (pc := 48) dX6_reaches_48 (by decide) ?_
  refine V.is (pc := 49) dX6_reaches_49 (by decide) (st1_6 rfl) ?_
  conv => arg 8; rw [L0]
  refine l_re (I := up2 I oo 8 0) (a := a) (b := b) hSt hW hH hK hS (hk.congr (up2_ne (by omega)) (up2_ne (by omega)) (up2_ne (by omega)) (up2_off (by omega)) (up2_off (by omega))) ha (fun h2 Q2 I2 at2 B2 G2 hex => ?_) (W * H + 1) 0 [(0, (0, 0, 0, 0))] _ _ (by omega) (BQ.start hW.1 hH.1) ⟨fun c d1 d2 => by rw [up2_off d2], fun j hj => by rw [up2_off (by omega)], ⟨fun i p t e => ?_, fun p hp e => ?_⟩, 0, (0, 0, 0, 0), rfl, by rw [up2_off (by omega), up2_same]; rfl⟩ (fun _ => ⟨0, (0, 0, 0, 0), rfl, rfl⟩) (fun z => by simp at z) (by simp)
  rotate_left
  · have hl := get_lt e
    simp at hl
    subst hl
    simp at e
    rw [← e.1, ← e.2, up2_same, up2_off (by omega), h0 0 hpos]
    rfl
  · have hne : p ≠ 0 := fun z => e 0 (0, 0, 0, 0) (by rw [z]; rfl)
    rw [up2_ne (by omega), up2_off (by omega)]
    exact h0 p hp
  refine V.aload_n (pc := 96) dX6_reaches_96 rfl ?_
  refine V.iload_n (pc := 97) dX6_reaches_97 rfl ?_
  refine V.pV (as := [_]) (pc := 98) dX6_reaches_98 lX6_57 bX6_isMet nX6_isMet (ci := 5) rfl eX6_isMet hSt.o (x_isMet (d := d + 1) hSt (by omega)) (by omega) rfl (Nat.le_of_ble_eq_true rfl) ?_
  refine V.if_eq 116 (pc := 101) dX6_reaches_101 (by decide) (fun h101 => ?_) (fun h101 => ?_)
  · have hnm : ¬ ∃ (j : Nat) (t : V4), Q2[j]? = some (((v1.toInt % (W : Int)).toNat * H + (v2.toInt % (H : Int)).toNat), t) := fun z => bi_eq.mp h101 ((G2.2.2.1.met B2 hW hH ha).mpr z)
    refine V.iconst (v := 0) (pc := 116) dX6_reaches_116 (by decide) ?_
    exact V.zret (pc := 117) dX6_reaches_117 rfl (by first | exact Or.inl rfl | exact Or.inr rfl | exact bi_or | assumption) ⟨rfl, rfl, rfl, rfl, ⟨fun c d1 d2 d3 => by rw [G2.1 c d1 d3, up2_off d1], fun j hj hj2 => by rw [G2.2.1 j hj2, up2_ne (by omega)]⟩, Or.inr ⟨rfl, B2.none hW.1 hH.1 hK (hex.resolve_left hnm) (fun j t z => hnm ⟨j, t, z⟩)⟩⟩
  · obtain ⟨j, t, hq⟩ := (G2.2.2.1.met B2 hW hH ha).mp (bi_ne.mp h101)
    refine V.aload_n (pc := 104) dX6_reaches_104 rfl ?_
    refine V.iload_n (pc := 105) dX6_reaches_105 rfl ?_
    refine V.invV0 (as := [_]) (pc := 106) dX6_reaches_106 lX6_69 bX6_countBack nX6_countBack (ci := 5) rfl eX6_countBack hSt.o (x_countBack (d := d + 0) (Qs := Q2) (t := t) (j := j) (h := h2) (kq := K) hSt hW hH hK hS (G2.kn hSt (hk.congr (up2_ne (by omega)) (up2_ne (by omega)) (up2_ne (by omega)) (up2_off (by omega)) (up2_off (by omega)))) B2 G2.2.2.1 hq) (by omega) rfl (Nat.le_of_ble_eq_true rfl) ?_
    rintro _ _ _ I3 _ _ ⟨rfl, rfl, rfl, rfl, rfl, ⟨c1, c2⟩, c3, c4⟩
    refine V.if_eq 116 (pc := 109) dX6_reaches_109 (by decide) (fun h109 => absurd h109 (by decide)) (fun h109 => ?_)
    refine V.iconst (v := 1) (pc := 112) dX6_reaches_112 (by decide) ?_
    refine V.goto 117 (pc := 113) dX6_reaches_113 (by decide) ?_
    exact V.zret (pc := 117) dX6_reaches_117 rfl (by first | exact Or.inl rfl | exact Or.inr rfl | exact bi_or | assumption) ⟨rfl, rfl, rfl, rfl, ⟨fun c d1 d2 d3 => by rw [c1 c d1 d2, G2.1 c d1 d3, up2_off d1], fun j hj hj2 => by rw [c2 j hj, G2.2.1 j hj2, up2_ne (by omega)]⟩, Or.inl ⟨rfl, t, B2.opt hW.1 hH.1 hK hq, c3, c4⟩⟩
