theorem nxq_old {Q : QL} {x : Nat × V4} {i : Nat} (h : i + 1 < Q.length) : nxq (Q ++ [x]) i = nxq Q i := by unfold nxq; rw [List.getElem?_append_left h]
theorem nxq_last {Q : QL} {x : Nat × V4} {i : Nat} (h : i + 1 = Q.length) : nxq (Q ++ [x]) i = x.1 + 1 := by
  unfold nxq
  rw [List.getElem?_append_right (by omega), h, Nat.sub_self]
  rfl
theorem nxq_0 {Q : QL} {i : Nat} (h : Q.length ≤ i + 1) : nxq Q i = 0 := by
  unfold nxq
  rw [List.getElem?_eq_none_iff.mpr h]
theorem nxq_le {Q : QL} {i S : Nat} (h : ∀ (i p : Nat) (t : V4), Q[i]? = some (p, t) → p < S) : nxq Q i ≤ S := by
  unfold nxq
  cases e : Q[i + 1]? with
  | none => exact Nat.zero_le _
  | some x => exact h _ x.1 x.2 e
theorem LMq.new {W H K h kk l q k pl : Nat} {a b : Nat → Nat} {Q : QL} {t tl : V4} {I : mI} (M : LMq l (W * H) Q I) (B : BQ W H K a b Q h kk) (hl : Q[Q.length - 1]? = some (pl, tl)) (hq : ∀ (j : Nat) (u : V4), Q[j]? ≠ some (q, u)) (ht : lst t = k) : LMq l (W * H) (Q ++ [(q, t)]) (up2 (up2 I l q (nI (k + 1))) l pl (up2 I l q (nI (k + 1)) l pl + nI ((q + 1) * 2 ^ 3))) := by
  have hlen := get_lt hl
  have hne : pl ≠ q := fun z => hq _ tl (by rw [← z]; exact hl)
  refine ⟨fun i p u e => ?_, fun p hp e => ?_⟩
  · rcases get_snoc e with e | ⟨e, e1⟩
    · have hi := get_lt e
      have hpq : p ≠ q := fun z => hq i u (by rw [← z]; exact e)
      by_cases z : i + 1 = Q.length
      · obtain rfl : i = Q.length - 1 := by omega
        rw [hl] at e
        injection e with e
        injection e with e2 e3
        subst e2 e3
        rw [up2_same, up2_ne (by omega), M.1 _ _ _ hl, nxq_last z, nxq_0 (by omega), nI_add]
        congr 1
        show lst tl + 1 + 8 * 0 + (q + 1) * 2 ^ 3 = lst tl + 1 + 8 * (q + 1)
        omega
      · have hpp : p ≠ pl := fun y => by
          have := (B.uni e (show Q[Q.length - 1]? = some (p, tl) by rw [y]; exact hl)).1
          omega
        rw [up2_ne (by omega), up2_ne (by omega), nxq_old (by omega)]
        exact M.1 i p u e
    · injection e1 with e1 e2
      rw [e, e1, e2, up2_ne (by omega), up2_same, ht, nxq_0 (by rw [List.length_append]; simp)]
  · have hpq : p ≠ q := fun z => e Q.length t (by rw [List.getElem?_append_right (Nat.le_refl _), Nat.sub_self, z]; rfl)
    have hpp : p ≠ pl := fun z => e _ tl (by rw [z]; exact get_old hl)
    rw [up2_ne (by omega), up2_ne (by omega)]
    exact M.2 p hp (fun j u z => e j u (get_old z))
/-- the setting while places are met: what it holds, against I -/
def GIv (oo l S : Nat) (I : mI) (Q : QL) (I' : mI) : Prop := (∀ c, c ≠ oo → c ≠ l → I' c = I c) ∧ (∀ j, j ≠ 8 → I' oo j = I oo j) ∧ LMq l S Q I' ∧ ∃ (pl : Nat) (tl : V4), Q[Q.length - 1]? = some (pl, tl) ∧ I' oo 8 = nI pl
theorem mx0 {v : Nat} (h : v < 2 ^ 31) : (if (0 : Int32) < nI v then nI v else 0) = nI v := by
  by_cases z : v = 0
  · subst z; rfl
  · rw [if_pos]
    rw [lt32, nI_toInt h]
    show (0 : Int) < _
    omega
theorem mn4 {k : Nat} (h : k ≤ 4) : (if (4 : Int32) < nI k then 4 else nI k) = nI k := if_neg (by rw [lt32, nI_toInt (by omega)]; show ¬ (4 : Int) < _; omega)
theorem km1 (k : Nat) : nI k - 1 = iI ((k : Int) - 1) := by rw [show (1 : Int32) = iI 1 from rfl, ← iI_nat, iI_sub]
theorem GIv.kn {oo l S W H K k0 : Nat} {a b : Nat → Nat} {I I' : mI} {Q : QL} {T : mT} {F : mF} (G : GIv oo l S I Q I') (hSt : StS T F oo l k0) (hk : KNm oo W H K a b I) : KNm oo W H K a b I' := hk.congr (G.2.1 0 (by omega)) (G.2.1 1 (by omega)) (G.2.1 2 (by omega)) (G.1 _ (by omega) (by have := hSt.lo; omega)) (G.1 _ (by omega) (by have := hSt.lo; omega))
theorem l_go {g : gG} {d : Nat} {T : mT} {n : Nat} {I : mI} {J : mJ} {F : mF} {Q : mQ} {oo l k0 W H K h p : Nat} {a b : Nat → Nat} {t0 : V4} (hSt : StS T F oo l k0) (hW : 0 < W ∧ W ≤ 400) (hH : 0 < H ∧ H ≤ 400) (hK : K ≤ 4) (hS : W * H ≤ k0) (hk : KNm oo W H K a b I) (kk : ∀ (Qs : QL) (I' : mI) (v : Int32), BQ W H K a b Qs (h + 1) K → Qs[h]? = some (p, t0) → GIv oo l (W * H) I Qs I' → V g mX6_goOnFrom (d + 1) Q 0 0 137 [some (.ref oo), some (.int (nI p)), some (.int (nI (lst t0))), some (.int (nI (p / H))), some (.int (nI (p % H))), some (.int (v)), none] [] T n I' J F) : ∀ (t : Nat) (Qs : QL) (I' : mI), lst t0 + t ≤ K → BQ W H K a b Qs h (lst t0 + t) → Qs[h]? = some (p, t0) → GIv oo l (W * H) I Qs I' → V g mX6_goOnFrom (d + 1) Q 0 0 44 [some (.ref oo), some (.int (nI p)), some (.int (nI (lst t0))), some (.int (nI (p / H))), some (.int (nI (p % H))), some (.int (iI (((lst t0 + t : Nat) : Int) - 1))), none] [] T n I' J F := by
  have hWH : W * H ≤ 400 * 400 := Nat.mul_le_mul hW.2 hH.2
  have hkb := hSt.kb
  have hlo := hSt.lo
  have hl3 := lst_le t0
  intro t
  induction t with
  | zero =>
    intro Qs I' hle B hq G
    refine V.iload (pc := 44) dX6_goOnFrom_44 rfl ?_
    refine V.iload_n (pc := 46) dX6_goOnFrom_46 rfl ?_
    refine V.icmp_lt 137 (pc := 47) dX6_goOnFrom_47 (by decide) (fun h47 => ?_) (fun h47 => absurd (by rw [lt32, iI_toInt (by omega) (by omega), nI_toInt (by omega)]; omega) h47)
    exact kk Qs I' _ (B.next hq (Nat.le_refl _)) hq G
  | succ t ih =>
    intro Qs I' hle B hq G
    have hkn := G.kn hSt hk
    obtain ⟨pp, -, -⟩ := B.2.2.1 h p t0 hq
    have p1 : p < W * H := by rw [← pp]; exact plc_lt hW.1 hH.1 _ _
    obtain ⟨x1, y1⟩ := dv_lt p1
    obtain ⟨ka, kb⟩ := hkn.2.2.2 (lst t0 + t) (by omega)
    have la := Nat.mod_lt (a (lst t0 + t)) hW.1
    have lb := Nat.mod_lt (b (lst t0 + t)) hH.1
    have ql := stp_lt (a := a) (b := b) hW.1 hH.1 (lst t0 + t) p
    have eQ : (p / H + a (lst t0 + t) % W) % W * H + (p % H + b (lst t0 + t) % H) % H = stp4 W H a b (lst t0 + t) p := by unfold stp4; rw [Nat.add_mod_mod, Nat.add_mod_mod]
    obtain ⟨pl, tl, g1, g2⟩ := G.2.2.2
    obtain ⟨pp2, -, -⟩ := B.2.2.1 _ pl tl g1
    have pl1 : pl < W * H := by rw [← pp2]; exact plc_lt hW.1 hH.1 _ _
    have hpb : ∀ (i p : Nat) (t : V4), Qs[i]? = some (p, t) → p < W * H := fun i p t e => by rw [← (B.2.2.1 i p t e).1]; exact plc_lt hW.1 hH.1 _ _
    have hv : (∃ (j : Nat) (u : V4), Qs[j]? = some (stp4 W H a b (lst t0 + t) p, u) ∧ ∃ z, I' l (stp4 W H a b (lst t0 + t) p) = nI (z + 1) ∧ z < 2000000) ∨ ((∀ (j : Nat) (u : V4), Qs[j]? ≠ some (stp4 W H a b (lst t0 + t) p, u)) ∧ I' l (stp4 W H a b (lst t0 + t) p) = 0) := by
      by_cases e : ∃ (j : Nat) (u : V4), Qs[j]? = some (stp4 W H a b (lst t0 + t) p, u)
      · obtain ⟨j, u, e⟩ := e
        have := lst_le u
        have := nxq_le (i := j) hpb
        exact Or.inl ⟨j, u, e, lst u + 8 * nxq Qs j, by rw [G.2.2.1.1 j _ u e]; congr 1; omega, by omega⟩
      · exact Or.inr ⟨fun j u z => e ⟨j, u, z⟩, G.2.2.1.2 _ ql (fun j u z => e ⟨j, u, z⟩)⟩
    conv => arg 8; rw [show iI (((lst t0 + (t + 1) : Nat) : Int) - 1) = nI (lst t0 + t) from by rw [← iI_nat]; congr 1; omega]
    refine V.iload (pc := 44) dX6_goOnFrom_44 rfl ?_
    refine V.iload_n (pc := 46) dX6_goOnFrom_46 rfl ?_
    refine V.icmp_lt 137 (pc := 47) dX6_goOnFrom_47 (by decide) (fun h47 => absurd h47 (by rw [lt32, nI_toInt (by omega), nI_toInt (by omega)]; omega)) (fun h47 => ?_)
    refine V.aload_n (pc := 50) dX6_goOnFrom_50 rfl ?_
    refine V.iload_n (pc := 51) dX6_goOnFrom_51 rfl ?_
    refine V.aload_n (pc := 52) dX6_goOnFrom_52 rfl ?_
    refine V.getR (pc := 53) dX6_goOnFrom_53 fX6_21_5 rfl hSt.o hSt.f3 ?_
    refine V.iload (pc := 56) dX6_goOnFrom_56 rfl ?_
    refine V.iald' (k := lst t0 + t) (pc := 58) dX6_goOnFrom_58 hSt.t3 rfl (by omega) (by decide) ?_
    rw [ka]
    refine V.iadd (pc := 59) dX6_goOnFrom_59 ?_
    rw [nI_add]
    refine V.iload (pc := 60) dX6_goOnFrom_60 rfl ?_
    refine V.aload_n (pc := 62) dX6_goOnFrom_62 rfl ?_
    refine V.getR (pc := 63) dX6_goOnFrom_63 fX6_25_5 rfl hSt.o hSt.f4 ?_
    refine V.iload (pc := 66) dX6_goOnFrom_66 rfl ?_
    refine V.iald' (k := lst t0 + t) (pc := 68) dX6_goOnFrom_68 hSt.t4 rfl (by omega) (by decide) ?_
    rw [kb]
    refine V.iadd (pc := 69) dX6_goOnFrom_69 ?_
    rw [nI_add]
    refine V.pV (as := [_, _]) (pc := 70) dX6_goOnFrom_70 lX6_79 bX6_placeAt nX6_placeAt (ci := 5) rfl eX6_placeAt hSt.o (x_place (d := d + 0) (W := W) (H := H) hSt hkn.1 hkn.2.1 (by omega) (by omega) hW.2 hH.2) (by omega) rfl (Nat.le_of_ble_eq_true rfl) ?_
    rw [eQ]
    refine V.is (pc := 73) dX6_goOnFrom_73 (by decide) (st1_6 rfl) ?_
    refine V.iload (pc := 75) dX6_goOnFrom_75 rfl ?_
    refine V.if_lt 131 (pc := 77) dX6_goOnFrom_77 (by decide) (fun h77 => absurd h77 (nI_pos (by omega))) (fun h77 => ?_)
    refine V.iload (pc := 80) dX6_goOnFrom_80 rfl ?_
    refine V.aload_n (pc := 82) dX6_goOnFrom_82 rfl ?_
    refine V.getR (pc := 83) dX6_goOnFrom_83 fX6_34_5 rfl hSt.o hSt.f7 ?_
    refine V.alen (pc := 86) dX6_goOnFrom_86 hSt.t7 ty_i (by rfl) ?_
    refine V.icmp_ge 131 (pc := 87) dX6_goOnFrom_87 (by decide) (fun h87 => absurd h87 (nI_ge (by omega) (by omega))) (fun h87 => ?_)
    refine V.aload_n (pc := 90) dX6_goOnFrom_90 rfl ?_
    refine V.getR (pc := 91) dX6_goOnFrom_91 fX6_34_5 rfl hSt.o hSt.f7 ?_
    refine V.iload (pc := 94) dX6_goOnFrom_94 rfl ?_
    rcases hv with ⟨j2, u2, v1, z2, v2, v3⟩ | ⟨v1, v2⟩
    · refine V.iald' (k := (stp4 W H a b (lst t0 + t) p)) (pc := 96) dX6_goOnFrom_96 hSt.t7 rfl (by omega) (by omega) ?_
      rw [v2]
      refine V.if_ne 131 (pc := 97) dX6_goOnFrom_97 (by decide) (fun h97 => ?_) (fun h97 => absurd h97 (nI_nz (by omega) (by omega)))
      refine V.iinc (v := _ + (-1)) (pc := 131) dX6_goOnFrom_131 (by decide) rfl rfl (st1_5 rfl) ?_
      refine V.goto 44 (pc := 134) dX6_goOnFrom_134 (by decide) ?_
      refine V.weak wk_6 ?_
      rw [show nI (lst t0 + t) + -1 = iI (((lst t0 + t : Nat) : Int) - 1) from by rw [show (-1 : Int32) = iI (-1) from rfl, ← iI_nat, iI_add]; rfl]
      exact ih Qs I' (by omega) (B.met (k := lst t0 + t) hK hq rfl (by omega) (by omega) v1) hq G
    · refine V.iald' (k := (stp4 W H a b (lst t0 + t) p)) (pc := 96) dX6_goOnFrom_96 hSt.t7 rfl (by omega) (by omega) ?_
      rw [v2]
      refine V.if_ne 131 (pc := 97) dX6_goOnFrom_97 (by decide) (fun h97 => absurd rfl h97) (fun h97 => ?_)
      refine V.aload_n (pc := 100) dX6_goOnFrom_100 rfl ?_
      refine V.getR (pc := 101) dX6_goOnFrom_101 fX6_34_5 rfl hSt.o hSt.f7 ?_
      refine V.iload (pc := 104) dX6_goOnFrom_104 rfl ?_
      refine V.iload (pc := 106) dX6_goOnFrom_106 rfl ?_
      refine V.iconst (v := 1) (pc := 108) dX6_goOnFrom_108 (by decide) ?_
      refine V.iadd (pc := 109) dX6_goOnFrom_109 ?_
      rw [nI_1]
      refine V.iast' (k := (stp4 W H a b (lst t0 + t) p)) (pc := 110) dX6_goOnFrom_110 hSt.t7 rfl (by omega) (by omega) ?_
      refine V.aload_n (pc := 111) dX6_goOnFrom_111 rfl ?_
      refine V.aload_n (pc := 112) dX6_goOnFrom_112 rfl ?_
      refine V.getI (pc := 113) dX6_goOnFrom_113 fX6_37_5 rfl hSt.o ?_
      rw [up2_off (by omega), g2]
      refine V.iload (pc := 116) dX6_goOnFrom_116 rfl ?_
      refine V.iconst (v := 1) (pc := 118) dX6_goOnFrom_118 (by decide) ?_
      refine V.iadd (pc := 119) dX6_goOnFrom_119 ?_
      rw [nI_1]
      refine V.iconst (v := 3) (pc := 120) dX6_goOnFrom_120 (by decide) ?_
      refine V.ishl (pc := 121) dX6_goOnFrom_121 ?_
      rw [shl3 (by omega)]
      refine V.invV0 (as := [_, _]) (pc := 122) dX6_goOnFrom_122 lX6_53 bX6_addToLink nX6_addToLink (ci := 5) rfl eX6_addToLink hSt.o (x_addTo (d := d + 0) (p := pl) _ hSt (by omega)) (by omega) rfl (Nat.le_of_ble_eq_true rfl) ?_
      rintro _ _ _ _ _ _ ⟨rfl, rfl, rfl, rfl, rfl, rfl⟩
      refine V.aload_n (pc := 125) dX6_goOnFrom_125 rfl ?_
      refine V.iload (pc := 126) dX6_goOnFrom_126 rfl ?_
      refine V.putI (pc := 128) dX6_goOnFrom_128 fX6_37_5 (fun r h => by cases h; exact Or.inl rfl) rfl hSt.o ?_
      refine V.iinc (v := _ + (-1)) (pc := 131) dX6_goOnFrom_131 (by decide) rfl rfl (st1_5 rfl) ?_
      refine V.goto 44 (pc := 134) dX6_goOnFrom_134 (by decide) ?_
      refine V.weak wk_6 ?_
      rw [show nI (lst t0 + t) + -1 = iI (((lst t0 + t : Nat) : Int) - 1) from by rw [show (-1 : Int32) = iI (-1) from rfl, ← iI_nat, iI_add]; rfl]
      have hB2 := B.new (k := lst t0 + t) hW.1 hH.1 hK hq rfl (by omega) (by omega) (fun j p' t' e z => v1 j t' (by rw [← z]; exact e))
      refine ih _ _ (by omega) hB2 (get_old hq) ⟨fun c c1 c2 => by rw [up2_off c1, up2_off c2, up2_off c2]; exact G.1 c c1 c2, fun j hj => by rw [up2_ne (by omega), up2_off (by omega), up2_off (by omega)]; exact G.2.1 j hj, LMq.congr (LMq.new G.2.2.1 B g1 v1 (lst_inc (by omega) (by omega))) (up2_off (by omega)), _, _, by rw [List.length_append, List.length_singleton, Nat.add_sub_cancel, List.getElem?_append_right (Nat.le_refl _), Nat.sub_self]; rfl, up2_same⟩
theorem x_goOn {g : gG} {d : Nat} {T : mT} {n : Nat} {I : mI} {J : mJ} {F : mF} {oo l k0 W H K h p : Nat} {a b : Nat → Nat} {t0 : V4} {Qs : QL} {I0 : mI} (hSt : StS T F oo l k0) (hW : 0 < W ∧ W ≤ 400) (hH : 0 < H ∧ H ≤ 400) (hK : K ≤ 4) (hS : W * H ≤ k0) (hk : KNm oo W H K a b I0) (B : BQ W H K a b Qs h K) (hq : Qs[h]? = some (p, t0)) (G : GIv oo l (W * H) I0 Qs I) : Ct g mX6_goOnFrom (d + 2) [.ref oo, .int (nI p)] 0 0 T n I J F (fun r' T' n' I' J' F' => r' = none ∧ T' = T ∧ n' = n ∧ J' = J ∧ F' = F ∧ ∃ Q' : QL, BQ W H K a b Q' (h + 1) K ∧ Q'[h]? = some (p, t0) ∧ GIv oo l (W * H) I0 Q' I') := by
  refine Ct.ofV (k := 5) (by decide) (Nat.le_of_ble_eq_true rfl) ?_
  show V g mX6_goOnFrom (d + 2) _ 0 0 0 [some (.ref oo), some (.int (nI p)), none, none, none, none, none] [] T n I J F
  have hWH : W * H ≤ 400 * 400 := Nat.mul_le_mul hW.2 hH.2
  have hkb := hSt.kb
  have hkn := G.kn hSt hk
  have hl3 := lst_le t0
  obtain ⟨pp, ps, -⟩ := B.2.2.1 h p t0 hq
  have p1 : p < W * H := by rw [← pp]; exact plc_lt hW.1 hH.1 _ _
  obtain ⟨x1, y1⟩ := dv_lt p1
  have hpb : ∀ (i p : Nat) (t : V4), Qs[i]? = some (p, t) → p < W * H := fun i p t e => by rw [← (B.2.2.1 i p t e).1]; exact plc_lt hW.1 hH.1 _ _
  have hnx := nxq_le (i := h) hpb
  have hlK : lst t0 ≤ K := by
    by_cases z : t0 = (0, 0, 0, 0)
    · subst z; exact Nat.zero_le _
    · have := (lst_sup ps z).1; omega
  have eR : p - p / H * H = p % H := by have := dvE p H; omega
  have eL : p / H * H ≤ p := Nat.div_mul_le_self p H
  refine V.iconst (v := 0) (pc := 0) dX6_goOnFrom_0 (by decide) ?_
  refine V.aload_n (pc := 1) dX6_goOnFrom_1 rfl ?_
  refine V.iload_n (pc := 2) dX6_goOnFrom_2 rfl ?_
  refine V.pV (as := [_]) (pc := 3) dX6_goOnFrom_3 lX6_72 bX6_knobTo nX6_knobTo (ci := 5) rfl eX6_knobTo hSt.o (x_knobTo (d := d + 0) (v := lst t0) (nx := nxq Qs h) hSt (by omega) (G.2.2.1.1 h p t0 hq) (by omega) (by omega)) (by omega) rfl (Nat.le_of_ble_eq_true rfl) ?_
  refine V.mmax (pc := 6) dX6_goOnFrom_6 lX6_46 (by omega) (Nat.le_of_ble_eq_true rfl) ?_
  rw [mx0 (by omega)]
  refine V.isn (pc := 9) dX6_goOnFrom_9 (by decide) (st1_2 rfl) ?_
  refine V.iload_n (pc := 10) dX6_goOnFrom_10 rfl ?_
  refine V.i2l (pc := 11) dX6_goOnFrom_11 ?_
  rw [nI_l (by omega)]
  refine V.aload_n (pc := 12) dX6_goOnFrom_12 rfl ?_
  refine V.getI (pc := 13) dX6_goOnFrom_13 fX6_15_5 rfl hSt.o ?_
  rw [hkn.2.1]
  refine V.i2l (pc := 16) dX6_goOnFrom_16 ?_
  rw [nI_l (by omega)]
  refine V.pS (as := [_, _]) (pc := 17) dX6_goOnFrom_17 lX6_75 bX11_cut sX11_cut (x_cut (d := d + 1) (a := p) (b := H) _ _ rfl rfl (by omega) (by omega)) (by omega) rfl (Nat.le_of_ble_eq_true rfl) ?_
  refine V.l2i (pc := 20) dX6_goOnFrom_20 ?_
  rw [lN_i]
  refine V.isn (pc := 21) dX6_goOnFrom_21 (by decide) (st1_3 rfl) ?_
  refine V.iload_n (pc := 22) dX6_goOnFrom_22 rfl ?_
  refine V.iload_n (pc := 23) dX6_goOnFrom_23 rfl ?_
  refine V.aload_n (pc := 24) dX6_goOnFrom_24 rfl ?_
  refine V.getI (pc := 25) dX6_goOnFrom_25 fX6_15_5 rfl hSt.o ?_
  rw [hkn.2.1]
  refine V.imul (pc := 28) dX6_goOnFrom_28 ?_
  rw [pk_mul]
  refine V.isub (pc := 29) dX6_goOnFrom_29 ?_
  rw [pk_sub eL, eR]
  refine V.is (pc := 30) dX6_goOnFrom_30 (by decide) (st1_4 rfl) ?_
  refine V.aload_n (pc := 32) dX6_goOnFrom_32 rfl ?_
  refine V.getI (pc := 33) dX6_goOnFrom_33 fX6_18_5 rfl hSt.o ?_
  rw [hkn.2.2.1]
  refine V.iconst (v := 4) (pc := 36) dX6_goOnFrom_36 (by decide) ?_
  refine V.mmin (pc := 37) dX6_goOnFrom_37 lX6_40 (by omega) (Nat.le_of_ble_eq_true rfl) ?_
  rw [mn4 hK]
  refine V.iconst (v := 1) (pc := 40) dX6_goOnFrom_40 (by decide) ?_
  refine V.isub (pc := 41) dX6_goOnFrom_41 ?_
  rw [km1]
  refine V.is (pc := 42) dX6_goOnFrom_42 (by decide) (st1_5 rfl) ?_
  obtain ⟨t9, hK9⟩ : ∃ t, K = lst t0 + t := ⟨K - lst t0, by omega⟩
  conv => arg 8; rw [show ((K : Nat) : Int) = ((lst t0 + t9 : Nat) : Int) from by rw [hK9]]
  refine l_go (t0 := t0) (I := I0) hSt hW hH hK hS hk (fun Q2 I2 v B2 hq2 G2 => ?_) t9 Qs I (by omega) (by rw [← hK9]; exact B) hq G
  exact V.vret (pc := 137) dX6_goOnFrom_137 rfl ⟨rfl, rfl, rfl, rfl, rfl, Q2, B2, hq2, G2⟩
