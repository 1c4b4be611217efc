-- what a hand should show
def envN (h : Nat) (y : Hd) (dd : Nat) : Nat → Int := fun i => if i = 1 then (dd : Int) else if i = 2 then (h : Int) else if i = 3 then (y.1 : Int) else if i = 4 then ((goN dd y.2.2.1 * upN y.2.2.2 / loN y.2.2.2 % 1000000 : Nat) : Int) else (y.2.1 : Int)
def shV (c : Core) (h : Nat) (y : Hd) (dd : Nat) : Int := if frc c = -1 then -2000000000 else (((lws c).getD (frc c).toNat (fun _ => none)) (envN h y dd)).getD (-2000000000)
def ShF (m : Nat) (I : mI) (J : mJ) (I' : mI) (J' : mJ) : Prop := (∀ c, c ≠ m → I' c = I c) ∧ (∀ t, t ≠ 26 → t ≠ 29 → I' m t = I m t) ∧ (∀ c, c ≠ m → c ≠ m + 12 → c ≠ m + 13 → J' c = J c) ∧ ∀ t, t ≠ 30 → t ≠ 31 → J' m t = J m t
theorem ShF.rf {m : Nat} {I : mI} {J : mJ} : ShF m I J I J := ⟨fun _ _ => rfl, fun _ _ _ => rfl, fun _ _ _ _ => rfl, fun _ _ _ => rfl⟩
theorem ShF.tr {m : Nat} {I I' I2 : mI} {J J' J2 : mJ} (h : ShF m I J I' J') (h2 : ShF m I' J' I2 J2) : ShF m I J I2 J2 := ⟨fun c hc => (h2.1 c hc).trans (h.1 c hc), fun t t1 t2 => (h2.2.1 t t1 t2).trans (h.2.1 t t1 t2), fun c c1 c2 c3 => (h2.2.2.1 c c1 c2 c3).trans (h.2.2.1 c c1 c2 c3), fun t t1 t2 => (h2.2.2.2 t t1 t2).trans (h.2.2.2 t t1 t2)⟩
theorem ShF.rep {m : Nat} {I I' : mI} {J J' : mJ} {A : Ab} (f : ShF m I J I' J') (h : RepM I J m A) : RepM I' J' m A := by
  obtain ⟨⟨a1, a2, a3, a4, a5⟩, h2, h3, h4, h5, h6, h7⟩ := h
  refine ⟨⟨?_, ?_, ?_, ?_, ?_⟩, ?_, ?_, fun k hk => ?_, fun i t hi => ?_, fun h x hx => ?_, ?_⟩
  · rw [f.2.1 1 (by omega) (by omega)]; exact a1
  · rw [f.2.1 6 (by omega) (by omega)]; exact a2
  · rw [f.2.1 8 (by omega) (by omega)]; exact a3
  · rw [f.2.1 13 (by omega) (by omega)]; exact a4
  · rw [f.2.1 42 (by omega) (by omega)]; exact a5
  · rw [f.1 _ (by omega)]; exact h2
  · rw [f.1 _ (by omega)]; exact h3
  · rw [f.1 _ (by omega), f.1 (m + 3) (by omega)]; exact h4 k hk
  · rw [f.1 _ (by omega)]; exact h5 i t hi
  · rw [f.1 _ (by omega), f.1 (m + 19) (by omega)]; exact h6 h x hx
  · rw [f.2.2.1 _ (by omega) (by omega) (by omega)]; exact h7
theorem ShF.frm {m : Nat} {I I' : mI} {J J' : mJ} (f : ShF m I J I' J') : Frm m I I' ∧ Frm m J J' := ⟨fun b hb => f.1 b (by omega), fun b hb => f.2.2.1 b (by omega) (by omega) (by omega)⟩
theorem l2i_I (z : Int) : (lI z).toInt32 = iI z := by
  unfold lI iI
  exact Int64.toInt32_ofInt
abbrev C4 : Type := Nat × Nat × Nat × ClA
def c4 (q : C4) : ClA := q.2.2.2
theorem l_sh {g : gG} {d : Nat} {T : mT} {n : Nat} {I : mI} {J : mJ} {F : mF} {Q : mQ} {m L : Nat} {f e : Nat → Int} {cl : List C4} {vh vd : Int32} (hM : MS T F m) (hE : EvM m L f e I J) (h1 : f 1 = (cl.length : Int)) (h12 : cl.length ≤ 12) (hC : ∀ (i : Nat) (q : C4), cl[i]? = some q → ClM f i q.1 q.2.1 q.2.2.1 (c4 q)) (kk : ∀ (I' : mI) (J' : mJ), EvF m I J I' J' → V g mX12_shouldOf (d + 4) Q 0 0 153 [some (.ref m), some (.int vh), some (.int vd), some (.int (iI ((lawSem (cl.map c4) e).getD (-2000000000)))), some (.int (nI cl.length)), none] [] T n I' J' F) : ∀ (t j : Nat) (I' : mI) (J' : mJ), j + t = cl.length → (EvF m I J I' J') → V g mX12_shouldOf (d + 4) Q 0 0 102 [some (.ref m), some (.int vh), some (.int vd), some (.int (iI ((lawSem ((cl.take j).map c4) e).getD (-2000000000)))), some (.int (nI j)), none] [] T n I' J' F := by
  intro t
  induction t with
  | zero =>
    intro j I' J' hj hi
    obtain rfl : j = cl.length := by omega
    have hE2 := hE.keep hi
    have hLL := hE.1
    have e26 : I' m 26 = nI L := hE2.2.1
    have r1 : I' (m + 2) (L + 1) = nI cl.length := hE2.rd (by omega) h1
    refine V.iload (pc := 102) dX12_shouldOf_102 rfl ?_
    refine V.aload_n (pc := 104) dX12_shouldOf_104 rfl ?_
    refine V.getR (pc := 105) dX12_shouldOf_105 fX12_13_11 rfl hM.o hM.f3 ?_
    refine V.aload_n (pc := 108) dX12_shouldOf_108 rfl ?_
    refine V.getI (pc := 109) dX12_shouldOf_109 fX12_286_11 rfl hM.o ?_
    rw [e26]
    refine V.iconst (v := 1) (pc := 112) dX12_shouldOf_112 (by decide) ?_
    refine V.iadd (pc := 113) dX12_shouldOf_113 ?_
    refine V.iald' (k := L + 1) (pc := 114) dX12_shouldOf_114 hM.t3 (by rw [nI_1]) (by omega) (by decide) ?_
    rw [r1]
    refine V.icmp_ge 153 (pc := 115) dX12_shouldOf_115 (by decide) (fun h115 => ?_) (fun h115 => absurd (nI_le (Nat.le_refl _) (by omega)) h115)
    have z0 := kk I' J' hi
    rw [List.take_length]
    exact z0
  | succ t ih =>
    intro j I' J' hj hi
    have hE2 := hE.keep hi
    have hLL := hE.1
    have e26 : I' m 26 = nI L := hE2.2.1
    have r1 : I' (m + 2) (L + 1) = nI cl.length := hE2.rd (by omega) h1
    obtain ⟨q, hq⟩ : ∃ q, cl[j]? = some q := ⟨_, List.getElem?_eq_getElem (by omega)⟩
    have et : (cl.take (j + 1)).map c4 = (cl.take j).map c4 ++ [c4 q] := by rw [List.take_succ, hq]; simp
    refine V.iload (pc := 102) dX12_shouldOf_102 rfl ?_
    refine V.aload_n (pc := 104) dX12_shouldOf_104 rfl ?_
    refine V.getR (pc := 105) dX12_shouldOf_105 fX12_13_11 rfl hM.o hM.f3 ?_
    refine V.aload_n (pc := 108) dX12_shouldOf_108 rfl ?_
    refine V.getI (pc := 109) dX12_shouldOf_109 fX12_286_11 rfl hM.o ?_
    rw [e26]
    refine V.iconst (v := 1) (pc := 112) dX12_shouldOf_112 (by decide) ?_
    refine V.iadd (pc := 113) dX12_shouldOf_113 ?_
    refine V.iald' (k := L + 1) (pc := 114) dX12_shouldOf_114 hM.t3 (by rw [nI_1]) (by omega) (by decide) ?_
    rw [r1]
    refine V.icmp_ge 153 (pc := 115) dX12_shouldOf_115 (by decide) (fun h115 => absurd h115 (nI_ge (by omega) (by omega))) (fun h115 => ?_)
    refine V.aload_n (pc := 118) dX12_shouldOf_118 rfl ?_
    refine V.getI (pc := 119) dX12_shouldOf_119 fX12_286_11 rfl hM.o ?_
    rw [e26]
    refine V.iconst (v := 2) (pc := 122) dX12_shouldOf_122 (by decide) ?_
    refine V.iadd (pc := 123) dX12_shouldOf_123 ?_
    refine V.bipush (v := 8) (pc := 124) dX12_shouldOf_124 (by decide) ?_
    refine V.iload (pc := 126) dX12_shouldOf_126 rfl ?_
    refine V.imul (pc := 128) dX12_shouldOf_128 ?_
    refine V.iadd (pc := 129) dX12_shouldOf_129 ?_
    refine V.is (pc := 130) dX12_shouldOf_130 (by decide) (st1_5 rfl) ?_
    refine V.aload_n (pc := 132) dX12_shouldOf_132 rfl ?_
    refine V.iload (pc := 133) dX12_shouldOf_133 rfl ?_
    refine V.invV0 (as := [_]) (pc := 135) dX12_shouldOf_135 lX12_315 bX12_isSo nX12_isSo (ci := 11) rfl eX12_isSo hM.o (c_isSo (d := d + 0) (p := L + 2 + 8 * j) (L := L) (i := j) (e := e) (q := c4 q) _ hM (by rw [show (2 : Int32) = nI 2 from rfl, show (8 : Int32) = nI 8 from rfl, nI_add, pk_mul, nI_add]) (by omega) (by omega) hE2 (hC j q hq)) (by omega) rfl (Nat.le_of_ble_eq_true rfl) ?_
    rintro r2 _ _ I2 J2 _ ⟨rfl, rfl, rfl, f2, n2, y2⟩
    rcases hs : clSem (c4 q) e with _ | z
    · obtain rfl := n2 hs
      refine V.if_eq 147 (pc := 138) dX12_shouldOf_138 (by decide) (fun h138 => ?_) (fun h138 => absurd rfl h138)
      refine V.iinc1 (pc := 147) dX12_shouldOf_147 (by decide) rfl (st1_4 rfl) ?_
      refine V.goto 102 (pc := 150) dX12_shouldOf_150 (by decide) ?_
      refine V.weak wk_5 ?_
      rw [nI_1]
      have z0 := ih (j + 1) _ _ (by omega) (hi.tr f2)
      rw [et, lawSem_snoc, hs] at z0
      exact z0
    · obtain ⟨rfl, e31⟩ := y2 z hs
      refine V.if_eq 147 (pc := 138) dX12_shouldOf_138 (by decide) (fun h138 => absurd h138 (by decide)) (fun h138 => ?_)
      refine V.aload_n (pc := 141) dX12_shouldOf_141 rfl ?_
      refine V.getJ (pc := 142) dX12_shouldOf_142 fX12_303_11 rfl hM.o ?_
      rw [e31]
      refine V.l2i (pc := 145) dX12_shouldOf_145 ?_
      rw [l2i_I]
      refine V.isn (pc := 146) dX12_shouldOf_146 (by decide) (st1_3 rfl) ?_
      refine V.iinc1 (pc := 147) dX12_shouldOf_147 (by decide) rfl (st1_4 rfl) ?_
      refine V.goto 102 (pc := 150) dX12_shouldOf_150 (by decide) ?_
      refine V.weak wk_5 ?_
      rw [nI_1]
      have z0 := ih (j + 1) _ _ (by omega) (hi.tr f2)
      rw [et, lawSem_snoc, hs] at z0
      exact z0
set_option maxHeartbeats 2000000 in
theorem c_shouldOf {g : gG} {d : Nat} {T : mT} {n : Nat} {I : mI} {J : mJ} {F : mF} {m h dd : Nat} {y : Hd} {A : Ab} (x z : Int32) (hM : MS T F m) (hA : AbOK A) (hR : RepM I J m A) (hy : (hds (cor A))[h]? = some y) (hx : x = nI h) (hz : z = nI dd) (hd : dd ≤ 1000000) : Ct g mX12_shouldOf (d + 5) [.ref m, .int x, .int z] 0 0 T n I J F (fun r' T' n' I' J' F' => r' = some (.int (iI (shV (cor A) h y dd))) ∧ T' = T ∧ n' = n ∧ F' = F ∧ ShF m I J I' J') := by
  refine Ct.ofV (k := 3) (by decide) (Nat.le_of_ble_eq_true rfl) ?_
  show V g mX12_shouldOf (d + 5) _ 0 0 0 [some (.ref m), some (.int x), some (.int z), none, none, none] [] T n I J F
  subst hx hz
  by_cases qf : frc (cor A) = -1
  · refine V.aload_n (pc := 0) dX12_shouldOf_0 rfl ?_
    refine V.getR (pc := 1) dX12_shouldOf_1 fX12_13_11 rfl hM.o hM.f3 ?_
    refine V.iconst (v := 3) (pc := 4) dX12_shouldOf_4 (by decide) ?_
    refine V.iald' (k := 3) (pc := 5) dX12_shouldOf_5 hM.t3 rfl (by decide) (by decide) ?_
    rw [hR.h3]
    refine V.iconst (v := (-1)) (pc := 6) dX12_shouldOf_6 (by decide) ?_
    refine V.icmp_ne 14 (pc := 7) dX12_shouldOf_7 (by decide) (fun h7 => absurd (by rw [qf]; rfl) h7) (fun h7 => ?_)
    refine V.ldcw (pc := 10) dX12_shouldOf_10 qX12_306 ?_
    exact V.iret (pc := 13) dX12_shouldOf_13 rfl ⟨by rw [shV, if_pos qf]; rfl, rfl, rfl, rfl, ShF.rf⟩
  · have hk5 := hA.1.2.2.2.2.1
    have hk6 := hA.1.2.2.2.2.2.1
    have hk7 := hA.1.2.2.2.2.2.2.1
    obtain ⟨fi, hfi⟩ : ∃ fi : Nat, frc (cor A) = (fi : Int) := ⟨(frc (cor A)).toNat, by omega⟩
    have n7 : ¬ iI (frc (cor A)) = -1 := fun z => by
      have z2 := congrArg Int32.toInt z
      rw [iI_toInt (by omega) (by omega)] at z2
      exact qf (z2.trans (by decide))
    obtain ⟨w, hw⟩ : ∃ w, (lws (cor A))[fi]? = some w := ⟨_, List.getElem?_eq_getElem (by omega)⟩
    obtain ⟨f, hf, cl, l1, l12, lw, hC⟩ := hR.2.2.1.2.2.2.2.2 fi w hw
    have hH := hR.hd hA hy
    have h6 := hH.1
    obtain ⟨y1, y2, y3, y4, y5, y6⟩ := hH.2.2
    have hb := rate_bd hH.2.2 y.2.2.2.length
    rw [List.take_length] at hb
    have hgo := goN_le dd y.2.2.1
    have b1 : goN dd y.2.2.1 * upN y.2.2.2 ≤ 1000000 * 207360000 := Nat.mul_le_mul (Nat.le_trans hgo hd) hb.1.2
    have b2 : goN dd y.2.2.1 * upN y.2.2.2 / loN y.2.2.2 ≤ goN dd y.2.2.1 * upN y.2.2.2 := Nat.div_le_self _ _
    have hH2 : HdM (up2 I m 26 (nI (150 + 900 * fi))) m h y := hH.congr (up2_off (by omega))
    have M6 : (1000000 : Int64) = lN 1000000 := rfl
    refine V.aload_n (pc := 0) dX12_shouldOf_0 rfl ?_
    refine V.getR (pc := 1) dX12_shouldOf_1 fX12_13_11 rfl hM.o hM.f3 ?_
    refine V.iconst (v := 3) (pc := 4) dX12_shouldOf_4 (by decide) ?_
    refine V.iald' (k := 3) (pc := 5) dX12_shouldOf_5 hM.t3 rfl (by decide) (by decide) ?_
    rw [hR.h3]
    refine V.iconst (v := (-1)) (pc := 6) dX12_shouldOf_6 (by decide) ?_
    refine V.icmp_ne 14 (pc := 7) dX12_shouldOf_7 (by decide) (fun h7 => ?_) (fun h7 => absurd h7 n7)
    refine V.aload_n (pc := 14) dX12_shouldOf_14 rfl ?_
    refine V.sipush (v := 150) (pc := 15) dX12_shouldOf_15 (by decide) ?_
    refine V.sipush (v := 900) (pc := 18) dX12_shouldOf_18 (by decide) ?_
    refine V.aload_n (pc := 21) dX12_shouldOf_21 rfl ?_
    refine V.getR (pc := 22) dX12_shouldOf_22 fX12_13_11 rfl hM.o hM.f3 ?_
    refine V.iconst (v := 3) (pc := 25) dX12_shouldOf_25 (by decide) ?_
    refine V.iald' (k := 3) (pc := 26) dX12_shouldOf_26 hM.t3 rfl (by decide) (by decide) ?_
    rw [hR.h3, hfi, iI_nat]
    refine V.imul (pc := 27) dX12_shouldOf_27 ?_
    refine V.iadd (pc := 28) dX12_shouldOf_28 ?_
    rw [show (150 : Int32) = nI 150 from rfl, show (900 : Int32) = nI 900 from rfl, pk_mul, nI_add]
    refine V.putI (pc := 29) dX12_shouldOf_29 fX12_286_11 (fun r h => by cases h; exact Or.inl rfl) rfl hM.o ?_
    refine V.aload_n (pc := 32) dX12_shouldOf_32 rfl ?_
    refine V.getR (pc := 33) dX12_shouldOf_33 fX12_59_11 rfl hM.o hM.f27 ?_
    refine V.iconst (v := 1) (pc := 36) dX12_shouldOf_36 (by decide) ?_
    refine V.iload_n (pc := 37) dX12_shouldOf_37 rfl ?_
    refine V.i2l (pc := 38) dX12_shouldOf_38 ?_
    rw [nI_l (by omega)]
    refine V.last' (k := 1) (pc := 39) dX12_shouldOf_39 hM.t27 rfl (by decide) (by decide) ?_
    refine V.aload_n (pc := 40) dX12_shouldOf_40 rfl ?_
    refine V.getR (pc := 41) dX12_shouldOf_41 fX12_59_11 rfl hM.o hM.f27 ?_
    refine V.iconst (v := 2) (pc := 44) dX12_shouldOf_44 (by decide) ?_
    refine V.iload_n (pc := 45) dX12_shouldOf_45 rfl ?_
    refine V.i2l (pc := 46) dX12_shouldOf_46 ?_
    rw [nI_l (by omega)]
    refine V.last' (k := 2) (pc := 47) dX12_shouldOf_47 hM.t27 rfl (by decide) (by decide) ?_
    refine V.aload_n (pc := 48) dX12_shouldOf_48 rfl ?_
    refine V.getR (pc := 49) dX12_shouldOf_49 fX12_59_11 rfl hM.o hM.f27 ?_
    refine V.iconst (v := 3) (pc := 52) dX12_shouldOf_52 (by decide) ?_
    refine V.aload_n (pc := 53) dX12_shouldOf_53 rfl ?_
    refine V.iload_n (pc := 54) dX12_shouldOf_54 rfl ?_
    refine V.iconst (v := 0) (pc := 55) dX12_shouldOf_55 (by decide) ?_
    refine V.pV (as := [_, _]) (pc := 56) dX12_shouldOf_56 lX12_115 bX12_ofHand nX12_ofHand (ci := 11) rfl eX12_ofHand hM.o (c_ofHand (d := d + 4) (h := h) (w := 0) _ _ hM rfl rfl (by omega)) (by omega) rfl (Nat.le_of_ble_eq_true rfl) ?_
    rw [up2_off (by omega), show I (m + 2) (10 + 12 * h + 0) = nI y.1 from hH.2.1.1]
    refine V.i2l (pc := 59) dX12_shouldOf_59 ?_
    rw [nI_l (by omega)]
    refine V.last' (k := 3) (pc := 60) dX12_shouldOf_60 hM.t27 rfl (by decide) (by decide) ?_
    refine V.aload_n (pc := 61) dX12_shouldOf_61 rfl ?_
    refine V.getR (pc := 62) dX12_shouldOf_62 fX12_59_11 rfl hM.o hM.f27 ?_
    refine V.iconst (v := 4) (pc := 65) dX12_shouldOf_65 (by decide) ?_
    refine V.aload_n (pc := 66) dX12_shouldOf_66 rfl ?_
    refine V.iload_n (pc := 67) dX12_shouldOf_67 rfl ?_
    refine V.aload_n (pc := 68) dX12_shouldOf_68 rfl ?_
    refine V.iload_n (pc := 69) dX12_shouldOf_69 rfl ?_
    refine V.iload_n (pc := 70) dX12_shouldOf_70 rfl ?_
    refine V.pV (as := [_, _]) (pc := 71) dX12_shouldOf_71 lX12_307 bX12_gone2 nX12_gone2 (ci := 11) rfl eX12_gone2 hM.o (c_gone2 (d := d + 3) (h := h) (dd := dd) (y := y) _ _ hM rfl hH2 rfl hd) (by omega) rfl (Nat.le_of_ble_eq_true rfl) ?_
    refine V.pV (as := [_, _]) (pc := 74) dX12_shouldOf_74 lX12_311 bX12_turnsOf nX12_turnsOf (ci := 11) rfl eX12_turnsOf hM.o (c_turnsOf (d := d + 1) (h := h) (go := goN dd y.2.2.1) (y := y) _ _ hM rfl hH2 rfl (Nat.le_trans hgo hd)) (by omega) rfl (Nat.le_of_ble_eq_true rfl) ?_
    refine V.ldc2 (pc := 77) dX12_shouldOf_77 qX12_105 ?_
    refine V.lrem (pc := 80) dX12_shouldOf_80 (by decide) ?_
    rw [M6, lN_rem (by omega) (by decide)]
    refine V.last' (k := 4) (pc := 81) dX12_shouldOf_81 hM.t27 rfl (by decide) (by decide) ?_
    refine V.aload_n (pc := 82) dX12_shouldOf_82 rfl ?_
    refine V.getR (pc := 83) dX12_shouldOf_83 fX12_59_11 rfl hM.o hM.f27 ?_
    refine V.iconst (v := 5) (pc := 86) dX12_shouldOf_86 (by decide) ?_
    refine V.aload_n (pc := 87) dX12_shouldOf_87 rfl ?_
    refine V.iload_n (pc := 88) dX12_shouldOf_88 rfl ?_
    refine V.iconst (v := 1) (pc := 89) dX12_shouldOf_89 (by decide) ?_
    refine V.pV (as := [_, _]) (pc := 90) dX12_shouldOf_90 lX12_115 bX12_ofHand nX12_ofHand (ci := 11) rfl eX12_ofHand hM.o (c_ofHand (d := d + 4) (h := h) (w := 1) _ _ hM rfl rfl (by omega)) (by omega) rfl (Nat.le_of_ble_eq_true rfl) ?_
    rw [up2_off (by omega), show I (m + 2) (10 + 12 * h + 1) = nI y.2.1 from hH.2.1.2.1]
    refine V.i2l (pc := 93) dX12_shouldOf_93 ?_
    rw [nI_l (by omega)]
    refine V.last' (k := 5) (pc := 94) dX12_shouldOf_94 hM.t27 rfl (by decide) (by decide) ?_
    refine V.ldcw (pc := 95) dX12_shouldOf_95 qX12_306 ?_
    refine V.isn (pc := 98) dX12_shouldOf_98 (by decide) (st1_3 rfl) ?_
    refine V.iconst (v := 0) (pc := 99) dX12_shouldOf_99 (by decide) ?_
    refine V.is (pc := 100) dX12_shouldOf_100 (by decide) (st1_4 rfl) ?_
    rw [L0, show (-2000000000 : Int32) = iI ((lawSem ((cl.take 0).map c4) (envN h y dd)).getD (-2000000000)) from rfl]
    refine l_sh (I := up2 I m 26 (nI (150 + 900 * fi))) (J := up2 (up2 (up2 (up2 (up2 J (m + 12) 1 (lN dd)) (m + 12) 2 (lN h)) (m + 12) 3 (lN y.1)) (m + 12) 4 (lN ((goN dd y.2.2.1 * upN y.2.2.2 / loN y.2.2.2) % 1000000))) (m + 12) 5 (lN y.2.1)) (L := 150 + 900 * fi) (e := envN h y dd) hM ⟨by omega, up2_same, fun j hj => by rw [up2_off (by omega)]; exact hf j hj, fun i h1 h2 => ?_⟩ l1 l12 (fun i q hq => hC i q hq) (fun I2 J2 hi => ?_) cl.length 0 _ _ (by omega) EvF.rf
    · have hc : i = 1 ∨ i = 2 ∨ i = 3 ∨ i = 4 ∨ i = 5 := by omega
      rcases hc with rfl | rfl | rfl | rfl | rfl
      · rw [up2_ne (by omega), up2_ne (by omega), up2_ne (by omega), up2_ne (by omega), up2_same, ← lI_nat]; exact ⟨rfl, by show _ ≤ (dd : Int); omega, by show (dd : Int) ≤ _; omega⟩
      · rw [up2_ne (by omega), up2_ne (by omega), up2_ne (by omega), up2_same, ← lI_nat]; exact ⟨rfl, by show _ ≤ (h : Int); omega, by show (h : Int) ≤ _; omega⟩
      · rw [up2_ne (by omega), up2_ne (by omega), up2_same, ← lI_nat]; exact ⟨rfl, by show _ ≤ (y.1 : Int); omega, by show (y.1 : Int) ≤ _; omega⟩
      · rw [up2_ne (by omega), up2_same, ← lI_nat]; exact ⟨rfl, by show _ ≤ ((((goN dd y.2.2.1 * upN y.2.2.2 / loN y.2.2.2) % 1000000) : Nat) : Int); omega, by show ((((goN dd y.2.2.1 * upN y.2.2.2 / loN y.2.2.2) % 1000000) : Nat) : Int) ≤ _; omega⟩
      · rw [up2_same, ← lI_nat]; exact ⟨rfl, by show _ ≤ (y.2.1 : Int); omega, by show (y.2.1 : Int) ≤ _; omega⟩
    refine V.iload_n (pc := 153) dX12_shouldOf_153 rfl ?_
    exact V.iret (pc := 154) dX12_shouldOf_154 rfl ⟨by rw [shV, if_neg qf, hfi, Int.toNat_natCast, getD_some hw, lw]; rfl, rfl, rfl, rfl, fun c hc => (hi.1 c hc).trans (up2_off hc), fun t t1 t2 => (hi.2.1 t t2).trans (up2_ne (by omega)), fun c c1 c2 c3 => (hi.2.2.1 c c1 c3).trans (by rw [up2_off c2, up2_off c2, up2_off c2, up2_off c2, up2_off c2]), fun t t1 t2 => (hi.2.2.2 t t1 t2).trans (by rw [up2_off (by omega), up2_off (by omega), up2_off (by omega), up2_off (by omega), up2_off (by omega)])⟩
