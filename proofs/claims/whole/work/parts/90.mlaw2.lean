theorem nI_surj (x : Int32) : ∃ k, x = nI k := ⟨x.toBitVec.toNat, Int32.toBitVec_inj.mp (by simp [nI])⟩
theorem PlM.any {I : mI} {m : Nat} : ∀ L : Nat, ∃ P : Pl, P.length = L ∧ PlM I m P
  | 0 => ⟨[], rfl, trivial⟩
  | L + 1 => by
    obtain ⟨P, h1, h2⟩ := PlM.any (I := I) (m := m) L
    obtain ⟨a, ha⟩ := nI_surj (I (m + 9) L)
    obtain ⟨b, hb⟩ := nI_surj (I (m + 10) L)
    exact ⟨(a, b) :: P, by rw [List.length_cons, h1], ⟨by rw [h1]; exact ha, by rw [h1]; exact hb⟩, h2⟩
theorem RdM.stale {tt : Nat → Nat} {N m : Nat} {I : mI} {J : mJ} (h : TkM tt N 0 I J m) (h14 : I m 14 = 0) (h13 : I m 13 = -1) (h17 : I m 17 = 0) (h20 : I m 20 = 0) : ∃ (P : Pl) (o : Nat), RdM tt N (0, false, (0, fun _ => (0, 0)), 0, P, o) I J m := by
  obtain ⟨L, hL⟩ := nI_surj (I m 23)
  obtain ⟨o, ho⟩ := nI_surj (I m 24)
  obtain ⟨P, h1, h2⟩ := PlM.any (I := I) (m := m) L
  exact ⟨P, o, h, h14, h13, ⟨h17, fun k hk => absurd hk (Nat.not_lt_zero k)⟩, h20, by rw [hL, ← h1], h2, ho⟩
theorem QM.no2 {T : mT} {n m : Nat} {I I1 : mI} {J J1 : mJ} {F : mF} {A : Ab} {v : Int32} {S : Int × Ab} (hR : RepM I1 J1 m A) (hf : Frm m I I1) (hj : Frm m J J1) (hv : v = -1 ∨ v = -2 ∨ v = -5 ∨ v = -6) (hS : S = (v.toInt, tellA A v.toInt)) : QM m T n I J F (some (.int (iI S.1))) S.2 (some (.int v)) T n (tellI I1 m v) J1 F := by
  subst hS
  exact ⟨by rw [← iI_of], rfl, rfl, rfl, hf.tell, hj, hR.refuse v hv⟩
theorem lawOK {A : Ab} (hA : AbOK A) {z : Int} : AbOK (fltA A z) := ⟨hA.1, hA.2.1, Nat.zero_le _, fun t ht => (by have h0 : t ∈ ([] : List Nat) := ht; simp at h0), hA.2.2.2.2⟩
set_option maxHeartbeats 4000000 in
theorem p_law {g : gG} {d : Nat} {T : mT} {n : Nat} {I : mI} {J : mJ} {F : mF} {m : Nat} {A : Ab} (hM : MS T F m) (hA : AbOK A) (hR : RepM I J m A) : Ct g mX12_law (d + 8) [.ref m] 0 0 T n I J F (QM m T n I J F (some (.int (iI (s_law A).1))) (s_law A).2) := by
  refine Ct.ofV (k := 2) (by decide) (Nat.le_of_ble_eq_true rfl) ?_
  show V g mX12_law (d + 8) _ 0 0 0 [some (.ref m), none, none] [] T n I J F
  by_cases qL : (lws (cor A)).length = 6
  · refine V.aload_n (pc := 0) dX12_law_0 rfl ?_
    refine V.iconst (v := 0) (pc := 1) dX12_law_1 (by decide) ?_
    refine V.putI (pc := 2) dX12_law_2 fX12_88_11 (fun r h => by cases h; exact Or.inl rfl) rfl hM.o ?_
    refine V.thr hR (fun I1 hR1 hf => ?_)
    clear hR
    have hR := hR1
    clear hR1
    refine V.aload_n (pc := 5) dX12_law_5 rfl ?_
    refine V.getR (pc := 6) dX12_law_6 fX12_13_11 rfl hM.o hM.f3 ?_
    refine V.iconst (v := 2) (pc := 9) dX12_law_9 (by decide) ?_
    refine V.iald' (k := 2) (pc := 10) dX12_law_10 hM.t3 rfl (by decide) (by decide) ?_
    rw [hR.h2, qL]
    refine V.bipush (v := 6) (pc := 11) dX12_law_11 (by decide) ?_
    refine V.icmp_ne 28 (pc := 13) dX12_law_13 (by decide) (fun h13 => absurd rfl h13) (fun h13 => ?_)
    refine V.aload_n (pc := 16) dX12_law_16 rfl ?_
    refine V.iconst (v := 0) (pc := 17) dX12_law_17 (by decide) ?_
    refine V.putI (pc := 18) dX12_law_18 fX12_138_11 (fun r h => by cases h; exact Or.inl rfl) rfl hM.o ?_
    refine V.aload_n (pc := 21) dX12_law_21 rfl ?_
    refine V.bipush (v := (-5)) (pc := 22) dX12_law_22 (by decide) ?_
    refine V.invV0 (as := [_]) (pc := 24) dX12_law_24 lX12_102 bX12_tell nX12_tell (ci := 11) rfl eX12_tell hM.o (c_tell (d := d + 7) _ hM (by first | decide | (rw [nI_toInt (by omega)]; omega))) (by omega) rfl (Nat.le_of_ble_eq_true rfl) ?_
    rintro _ _ _ _ _ _ ⟨rfl, rfl, rfl, rfl, rfl, rfl⟩
    exact V.iret (pc := 27) dX12_law_27 rfl (QM.no (A := tapA A []) (hR.sc (fun b hb => up2_off hb) (tapA A []) ⟨rfl, rfl, rfl, rfl⟩ (fun i t hi => by have h0 : ([] : List Nat)[i]? = some t := hi; simp at h0) (by
      simp only [up2_at]
      obtain ⟨b1, b2, b3, b4, b5⟩ := hR.1
      exact ⟨b1, b2, rfl, b4, b5⟩)) (hf.up ⟨by omega, by omega⟩) (by decide) (by rw [s_law, if_pos qL]; rfl))
  · refine V.aload_n (pc := 0) dX12_law_0 rfl ?_
    refine V.iconst (v := 0) (pc := 1) dX12_law_1 (by decide) ?_
    refine V.putI (pc := 2) dX12_law_2 fX12_88_11 (fun r h => by cases h; exact Or.inl rfl) rfl hM.o ?_
    refine V.thr hR (fun I1 hR1 hf => ?_)
    clear hR
    have hR := hR1
    clear hR1
    refine V.aload_n (pc := 5) dX12_law_5 rfl ?_
    refine V.getR (pc := 6) dX12_law_6 fX12_13_11 rfl hM.o hM.f3 ?_
    refine V.iconst (v := 2) (pc := 9) dX12_law_9 (by decide) ?_
    refine V.iald' (k := 2) (pc := 10) dX12_law_10 hM.t3 rfl (by decide) (by decide) ?_
    rw [hR.h2]
    refine V.bipush (v := 6) (pc := 11) dX12_law_11 (by decide) ?_
    refine V.icmp_ne 28 (pc := 13) dX12_law_13 (by decide) (fun h13 => ?_) (fun h13 => absurd ((nI_eq (a := (lws (cor A)).length) (b := 6) (by have := hA.1.2.2.2.2.1; omega) (by decide)).mp h13) qL)
    have hT : TpM (tpA A) (tap A).length I1 m := TpM.of hR hA
    have hW : WdM J m := hR.2.2.2.2.2.2
    have kB : ∀ (I' : mI) (J' : mJ) (j : Nat) (C' : Cd) (q' : Nat) (P' : Pl) (o' : Nat), PrG m I1 J I' J' → RdM (tpA A) (tap A).length (j, true, C', q', P', o') I' J' m → lawT A = (j, none) → V g mX12_law (d + 8) (QM m T n I J F (some (.int (iI (s_law A).1))) (s_law A).2) 0 0 78 [some (.ref m), none, none] [] T n I' J' F := by
      intro I' J' j C' q' P' o' hf' hr' hres
      have eS : s_law A = okNo (fltA A (frT (tpA A) (tap A).length j)) (-6) := by rw [s_law, if_neg qL, hres]
      refine V.aload_n (pc := 78) dX12_law_78 rfl ?_
      refine V.getI (pc := 79) dX12_law_79 fX12_151_11 rfl hM.o ?_
      rw [show I' m 14 = 1 from hr'.2.1]
      refine V.if_ne 97 (pc := 82) dX12_law_82 (by decide) (fun h82 => ?_) (fun h82 => absurd h82 (by decide))
      refine V.aload_n (pc := 97) dX12_law_97 rfl ?_
      refine V.iconst (v := 0) (pc := 98) dX12_law_98 (by decide) ?_
      refine V.putI (pc := 99) dX12_law_99 fX12_138_11 (fun r h => by cases h; exact Or.inl rfl) rfl hM.o ?_
      refine V.aload_n (pc := 102) dX12_law_102 rfl ?_
      refine V.getI (pc := 103) dX12_law_103 fX12_151_11 rfl hM.o ?_
      rw [up2_ne (by omega), show I' m 14 = 1 from hr'.2.1]
      refine V.if_eq 116 (pc := 106) dX12_law_106 (by decide) (fun h106 => absurd h106 (by decide)) (fun h106 => ?_)
      refine V.aload_n (pc := 109) dX12_law_109 rfl ?_
      refine V.bipush (v := (-6)) (pc := 110) dX12_law_110 (by decide) ?_
      refine V.invV0 (as := [_]) (pc := 112) dX12_law_112 lX12_102 bX12_tell nX12_tell (ci := 11) rfl eX12_tell hM.o (c_tell (d := d + 7) _ hM (by first | decide | (rw [nI_toInt (by omega)]; omega))) (by omega) rfl (Nat.le_of_ble_eq_true rfl) ?_
      rintro _ _ _ _ _ _ ⟨rfl, rfl, rfl, rfl, rfl, rfl⟩
      exact V.iret (pc := 115) dX12_law_115 rfl (QM.no2 (A := fltA A (frT (tpA A) (tap A).length j)) (hR.read hf' hr'.2.2.1) ((hf.trans hf'.frm.1).up ⟨by omega, by omega⟩) hf'.frm.2 (by decide) eS)
    have kG : ∀ (I' : mI) (J' : mJ) (j q : Nat) (C : Cd) (l : List C3) (cl : List ClA), PrG m I1 J I' J' → RdM (tpA A) (tap A).length (j, false, C, q, [], 0) I' J' m → RdOK (tkN (tpA A) (tap A).length) (j, false, C, q, [], 0) → NcM I' m l → LwOK C l cl → cl.length ≤ 12 → lawT A = (if kdT (tpA A) (tap A).length j = -1 then (j, some cl) else (j, none)) → V g mX12_law (d + 8) (QM m T n I J F (some (.int (iI (s_law A).1))) (s_law A).2) 0 0 78 [some (.ref m), none, none] [] T n I' J' F := by
      intro I' J' j q C l cl hf' hr' hok' hl' hlw h12' hres
      by_cases q1 : kdT (tpA A) (tap A).length j = -1
      · rw [if_pos q1] at hres
        have eS : s_law A = okYes (fltA A (-1)) (lws (cor A)).length (lwsC (cor A) (lws (cor A) ++ [lawSem cl])) := by rw [s_law, if_neg qL, hres]
        refine V.aload_n (pc := 78) dX12_law_78 rfl ?_
        refine V.getI (pc := 79) dX12_law_79 fX12_151_11 rfl hM.o ?_
        rw [show I' m 14 = 0 from hr'.2.1]
        refine V.if_ne 97 (pc := 82) dX12_law_82 (by decide) (fun h82 => absurd rfl h82) (fun h82 => ?_)
        refine V.aload_n (pc := 85) dX12_law_85 rfl ?_
        refine V.getI (pc := 86) dX12_law_86 fX12_171_11 rfl hM.o ?_
        rw [show I' m 11 = nI (srtT (tpA A) (tap A).length j) from hr'.1.2.2.1, srt0_iff.mpr q1]
        refine V.if_eq 97 (pc := 89) dX12_law_89 (by decide) (fun h89 => ?_) (fun h89 => absurd rfl h89)
        refine V.aload_n (pc := 97) dX12_law_97 rfl ?_
        refine V.iconst (v := 0) (pc := 98) dX12_law_98 (by decide) ?_
        refine V.putI (pc := 99) dX12_law_99 fX12_138_11 (fun r h => by cases h; exact Or.inl rfl) rfl hM.o ?_
        refine V.aload_n (pc := 102) dX12_law_102 rfl ?_
        refine V.getI (pc := 103) dX12_law_103 fX12_151_11 rfl hM.o ?_
        rw [up2_ne (by omega), show I' m 14 = 0 from hr'.2.1]
        refine V.if_eq 116 (pc := 106) dX12_law_106 (by decide) (fun h106 => ?_) (fun h106 => absurd rfl h106)
        refine V.sipush (v := 150) (pc := 116) dX12_law_116 (by decide) ?_
        refine V.sipush (v := 900) (pc := 119) dX12_law_119 (by decide) ?_
        refine V.aload_n (pc := 122) dX12_law_122 rfl ?_
        refine V.getR (pc := 123) dX12_law_123 fX12_13_11 rfl hM.o hM.f3 ?_
        refine V.iconst (v := 2) (pc := 126) dX12_law_126 (by decide) ?_
        refine V.iald' (k := 2) (pc := 127) dX12_law_127 hM.t3 rfl (by decide) (by decide) ?_
        rw [up2_off (by omega), show I' (m + 2) 2 = nI (lws (cor A)).length by rw [hf'.1 (m + 2) (by omega) (by omega)]; exact hR.h2]
        refine V.imul (pc := 128) dX12_law_128 ?_
        rw [L900, pk_mul]
        refine V.iadd (pc := 129) dX12_law_129 ?_
        rw [L150, nI_add]
        refine V.isn (pc := 130) dX12_law_130 (by decide) (st1_1 rfl) ?_
        refine V.aload_n (pc := 131) dX12_law_131 rfl ?_
        refine V.getR (pc := 132) dX12_law_132 fX12_13_11 rfl hM.o hM.f3 ?_
        refine V.iload_n (pc := 135) dX12_law_135 rfl ?_
        refine V.iconst (v := 1) (pc := 136) dX12_law_136 (by decide) ?_
        refine V.iadd (pc := 137) dX12_law_137 ?_
        rw [nI_1]
        refine V.aload_n (pc := 138) dX12_law_138 rfl ?_
        refine V.getI (pc := 139) dX12_law_139 fX12_269_11 rfl hM.o ?_
        rw [up2_ne (by omega), hl'.1]
        refine V.iast' (k := (150 + 900 * (lws (cor A)).length) + 1) (pc := 142) dX12_law_142 hM.t3 rfl (by have := hA.1.2.2.2.2.1; omega) (by decide) ?_
        refine V.iconst (v := 0) (pc := 143) dX12_law_143 (by decide) ?_
        refine V.isn (pc := 144) dX12_law_144 (by decide) (st1_2 rfl) ?_
        have h6 : (lws (cor A)).length < 6 := by have := hA.1.2.2.2.2.1; omega
        have hlen : l.length = cl.length := hlw.1
        refine l_cp1 (at_ := (150 + 900 * (lws (cor A)).length)) (nc := l.length) hM (by rw [up2_off (by omega), up2_ne (by omega)]; exact hl'.1) (by omega) (by omega) (fun I7 g1 g2 g3 => ?_) (8 * l.length) 0 _ (by omega) ⟨fun _ _ => rfl, fun k hk => absurd hk (Nat.not_lt_zero k), fun _ _ => rfl⟩
        refine V.iconst (v := 0) (pc := 178) dX12_law_178 (by decide) ?_
        refine V.isn (pc := 179) dX12_law_179 (by decide) (st1_2 rfl) ?_
        have hC4 : C.1 ≤ 400 := by have h7 := hok'.1; have h8 := (EndT.of (t := tpA A) hT.1).1; have h9 : C.1 ≤ j := hok'.k.2.1; have h10 : j ≤ tkN (tpA A) (tap A).length := h7; omega
        have e7 : ∀ b, b ≠ m → b ≠ m + 2 → I7 b = I' b := fun b h1 h2 => by rw [g1 b h2, up2_off h2, up2_off h1]
        have e7m : ∀ k, k ≠ 8 → I7 m k = I' m k := fun k hk => by rw [g1 m (by omega), up2_off (by omega), up2_ne (by omega)]
        refine l_cp2 (at_ := (150 + 900 * (lws (cor A)).length)) (nc := C.1) hM (by rw [e7m 17 (by decide)]; exact hr'.2.2.2.1.1) hC4 (by omega) (fun I8 y1 y2 y3 => ?_) C.1 0 _ (by omega) ⟨fun _ _ => rfl, fun k hk => absurd hk (Nat.not_lt_zero k), fun _ _ => rfl⟩
        have x2 : I8 (m + 2) 2 = nI (lws (cor A)).length := by rw [y3 2 (by omega), g3 2 (by omega), up2_ne (by omega), up2_off (by omega), hf'.1 (m + 2) (by omega) (by omega)]; exact hR.h2
        refine V.aload_n (pc := 234) dX12_law_234 rfl ?_
        refine V.getR (pc := 235) dX12_law_235 fX12_13_11 rfl hM.o hM.f3 ?_
        refine V.iconst (v := 2) (pc := 238) dX12_law_238 (by decide) ?_
        refine V.dup2 (pc := 239) dX12_law_239 rfl rfl ?_
        refine V.iald' (k := 2) (pc := 240) dX12_law_240 hM.t3 rfl (by decide) (by decide) ?_
        rw [x2]
        refine V.iconst (v := 1) (pc := 241) dX12_law_241 (by decide) ?_
        refine V.iadd (pc := 242) dX12_law_242 ?_
        rw [nI_1]
        refine V.iast' (k := 2) (pc := 243) dX12_law_243 hM.t3 rfl (by decide) (by decide) ?_
        have hRd := hR.read hf' (z := -1) hr'.2.2.1
        have hrow : RowRep (up2 I8 (m + 2) 2 (nI ((lws (cor A)).length + 1)) (m + 2)) (lwsC (cor A) (lws (cor A) ++ [lawSem cl])) := by
          have hb7 : ∀ k, (k < (150 + 900 * (lws (cor A)).length) + 1 ∨ (150 + 900 * (lws (cor A)).length) + 900 ≤ k) → I8 (m + 2) k = I' (m + 2) k := fun k hk => by rw [y3 k (by omega), g3 k (by omega), up2_ne (by omega), up2_off (by omega)]
          have hI2 : I' (m + 2) = I1 (m + 2) := hf'.1 (m + 2) (by omega) (by omega)
          refine RowRep.lawN (r := I1 (m + 2)) hA.1 hR.2.2.1 h6 up2_same ⟨fun k => (up2 I8 (m + 2) 2 (nI ((lws (cor A)).length + 1)) (m + 2) ((150 + 900 * (lws (cor A)).length) + k)).toInt, fun k hk => rfl, ?_⟩ (fun k h1 h2 => by rw [up2_ne (by omega), hb7 k (by omega), hI2])
          have hw : ∀ k, 1 ≤ k → up2 I8 (m + 2) 2 (nI ((lws (cor A)).length + 1)) (m + 2) ((150 + 900 * (lws (cor A)).length) + k) = I8 (m + 2) ((150 + 900 * (lws (cor A)).length) + k) := fun k hk => up2_ne (by omega)
          have hv : ∀ k, k < C.1 → (C.2 k).1 < 32 ∧ (C.2 k).2 ≤ 10000 := hok'.k.2.2.1
          have hb : ∀ (k : Nat) (q : C3), l[k]? = some q → k < l.length ∧ q.1 ≤ 400 ∧ q.2.1 ≤ 400 ∧ q.2.2 ≤ 400 := fun k q hq => by
            have hk := (List.getElem?_eq_some_iff.mp hq).1
            obtain ⟨⟨b1, b2, -⟩, b3⟩ := hlw.2 k q _ hq (List.getElem?_eq_getElem (by omega))
            omega
          refine LwM.of hlw h12' hC4 hv ?_ (fun k q hq => ?_) (fun k hk => ?_)
          · show (up2 I8 (m + 2) 2 (nI ((lws (cor A)).length + 1)) (m + 2) ((150 + 900 * (lws (cor A)).length) + 1)).toInt = _
            rw [hw 1 (by omega), y3 _ (by omega), g3 _ (by omega), up2_same, nI_toInt (by omega)]
          · obtain ⟨b0, b1, b2, b3⟩ := hb k q hq
            obtain ⟨c1, c2, c3, c4⟩ := hl'.2 k q hq
            have hz : ∀ t, t < 8 → up2 I8 (m + 2) 2 (nI ((lws (cor A)).length + 1)) (m + 2) ((150 + 900 * (lws (cor A)).length) + (2 + 8 * k + t)) = I' (m + 6) (8 * k + t) := fun t ht => by
              rw [hw _ (by omega), y3 _ (by omega), show (150 + 900 * (lws (cor A)).length) + (2 + 8 * k + t) = (150 + 900 * (lws (cor A)).length) + 2 + (8 * k + t) by omega, g2 _ (by omega), up2_off (by omega), up2_off (by omega)]
            show (up2 I8 (m + 2) 2 (nI ((lws (cor A)).length + 1)) (m + 2) ((150 + 900 * (lws (cor A)).length) + (2 + 8 * k + 3))).toInt = _ ∧ (up2 I8 (m + 2) 2 (nI ((lws (cor A)).length + 1)) (m + 2) ((150 + 900 * (lws (cor A)).length) + (2 + 8 * k + 4))).toInt = _ ∧ (up2 I8 (m + 2) 2 (nI ((lws (cor A)).length + 1)) (m + 2) ((150 + 900 * (lws (cor A)).length) + (2 + 8 * k + 5))).toInt = _ ∧ (up2 I8 (m + 2) 2 (nI ((lws (cor A)).length + 1)) (m + 2) ((150 + 900 * (lws (cor A)).length) + (2 + 8 * k + 6))).toInt = _
            rw [hz 3 (by decide), hz 4 (by decide), hz 5 (by decide), hz 6 (by decide), c1, c2, c3, c4, nI_toInt (by omega), nI_toInt (by omega), nI_toInt (by omega)]
            exact ⟨rfl, rfl, rfl, rfl⟩
          · obtain ⟨v1, v2⟩ := hv k hk
            show (up2 I8 (m + 2) 2 (nI ((lws (cor A)).length + 1)) (m + 2) ((150 + 900 * (lws (cor A)).length) + (98 + 2 * k))).toInt = _ ∧ (up2 I8 (m + 2) 2 (nI ((lws (cor A)).length + 1)) (m + 2) ((150 + 900 * (lws (cor A)).length) + (98 + 2 * k + 1))).toInt = _
            have d12 : I' (m + 7) k = nI (C.2 k).1 ∧ I' (m + 8) k = nI (C.2 k).2 := hr'.2.2.2.1.2 k hk
            obtain ⟨d1, d2⟩ := d12
            rw [hw _ (by omega), hw _ (by omega), show (150 + 900 * (lws (cor A)).length) + (98 + 2 * k) = (150 + 900 * (lws (cor A)).length) + 98 + 2 * k by omega, show (150 + 900 * (lws (cor A)).length) + (98 + 2 * k + 1) = (150 + 900 * (lws (cor A)).length) + 98 + 2 * k + 1 by omega, (y2 k hk).1, (y2 k hk).2, e7 _ (by omega) (by omega), e7 _ (by omega) (by omega), d1, d2, nI_toInt (by omega), nI_toInt (by omega)]
            exact ⟨rfl, rfl⟩
        have hkeep : ∀ b, b ≠ m + 2 → up2 I8 (m + 2) 2 (nI ((lws (cor A)).length + 1)) b = up2 I' m 8 0 b := fun b hb => by rw [up2_off hb, y1 b hb, g1 b hb, up2_off hb]
        have hfin : RepM (up2 I8 (m + 2) 2 (nI ((lws (cor A)).length + 1))) J' m (corA (fltA A (-1)) (lwsC (cor A) (lws (cor A) ++ [lawSem cl]))) := RepM.setRow hRd hkeep hrow
        have hfr : Frm m I (up2 I8 (m + 2) 2 (nI ((lws (cor A)).length + 1))) := fun b hb => by rw [hkeep b (by omega), up2_off (by omega), hf'.1 b (by omega) (by omega)]; exact hf b hb
        refine V.aload_n (pc := 244) dX12_law_244 rfl ?_
        refine V.aload_n (pc := 245) dX12_law_245 rfl ?_
        refine V.getR (pc := 246) dX12_law_246 fX12_13_11 rfl hM.o hM.f3 ?_
        refine V.iconst (v := 2) (pc := 249) dX12_law_249 (by decide) ?_
        refine V.iald' (k := 2) (pc := 250) dX12_law_250 hM.t3 rfl (by decide) (by decide) ?_
        rw [up2_same]
        refine V.iconst (v := 1) (pc := 251) dX12_law_251 (by decide) ?_
        refine V.isub (pc := 252) dX12_law_252 ?_
        rw [nI_pred]
        refine V.invV0 (as := [_]) (pc := 253) dX12_law_253 lX12_102 bX12_tell nX12_tell (ci := 11) rfl eX12_tell hM.o (c_tell (d := d + 7) _ hM (by rw [nI_toInt (by omega)]; omega)) (by omega) rfl (Nat.le_of_ble_eq_true rfl) ?_
        rintro _ _ _ _ _ _ ⟨rfl, rfl, rfl, rfl, rfl, rfl⟩
        exact V.iret (pc := 256) dX12_law_256 rfl ⟨by rw [eS]; show _ = some (Value.int (iI ((lws (cor A)).length : Int))); rw [iI_nat], rfl, rfl, rfl, hfr.tell, hf'.frm.2, by rw [eS]; exact hfin.okay _ (nI_pos' (by omega))⟩
      · rw [if_neg q1] at hres
        have eS : s_law A = okNo (fltA A (frT (tpA A) (tap A).length j)) (-6) := by rw [s_law, if_neg qL, hres]
        refine V.aload_n (pc := 78) dX12_law_78 rfl ?_
        refine V.getI (pc := 79) dX12_law_79 fX12_151_11 rfl hM.o ?_
        rw [show I' m 14 = 0 from hr'.2.1]
        refine V.if_ne 97 (pc := 82) dX12_law_82 (by decide) (fun h82 => absurd rfl h82) (fun h82 => ?_)
        refine V.aload_n (pc := 85) dX12_law_85 rfl ?_
        refine V.getI (pc := 86) dX12_law_86 fX12_171_11 rfl hM.o ?_
        rw [show I' m 11 = nI (srtT (tpA A) (tap A).length j) from hr'.1.2.2.1]
        refine V.if_eq 97 (pc := 89) dX12_law_89 (by decide) (fun h89 => absurd ((nI_eq (a := srtT (tpA A) (tap A).length j) (b := 0) (by have := srtT_le (t := tpA A) (n := (tap A).length) (i := j); omega) (by decide)).mp h89) (fun z => q1 (srt0_iff.mp z))) (fun h89 => ?_)
        refine V.aload_n (pc := 92) dX12_law_92 rfl ?_
        refine V.iconst (v := 0) (pc := 93) dX12_law_93 (by decide) ?_
        refine V.invV0 (as := [_]) (pc := 94) dX12_law_94 lX12_184 bX12_must nX12_must (ci := 11) rfl eX12_must hM.o (c_mustN (d := d + 5) (N := (tap A).length) (tt := tpA A) (r := (j, false, C, q, [], 0)) hM (hf'.tp hT) hr' rfl) (by omega) rfl (Nat.le_of_ble_eq_true rfl) ?_
        rintro _ _ _ I6 J6 _ ⟨rfl, rfl, rfl, rfl, f6, hr6⟩
        refine V.aload_n (pc := 97) dX12_law_97 rfl ?_
        refine V.iconst (v := 0) (pc := 98) dX12_law_98 (by decide) ?_
        refine V.putI (pc := 99) dX12_law_99 fX12_138_11 (fun r h => by cases h; exact Or.inl rfl) rfl hM.o ?_
        refine V.aload_n (pc := 102) dX12_law_102 rfl ?_
        refine V.getI (pc := 103) dX12_law_103 fX12_151_11 rfl hM.o ?_
        rw [up2_ne (by omega), show I6 m 14 = 1 from hr6.2.1]
        refine V.if_eq 116 (pc := 106) dX12_law_106 (by decide) (fun h106 => absurd h106 (by decide)) (fun h106 => ?_)
        refine V.aload_n (pc := 109) dX12_law_109 rfl ?_
        refine V.bipush (v := (-6)) (pc := 110) dX12_law_110 (by decide) ?_
        refine V.invV0 (as := [_]) (pc := 112) dX12_law_112 lX12_102 bX12_tell nX12_tell (ci := 11) rfl eX12_tell hM.o (c_tell (d := d + 7) _ hM (by first | decide | (rw [nI_toInt (by omega)]; omega))) (by omega) rfl (Nat.le_of_ble_eq_true rfl) ?_
        rintro _ _ _ _ _ _ ⟨rfl, rfl, rfl, rfl, rfl, rfl⟩
        exact V.iret (pc := 115) dX12_law_115 rfl (QM.no2 (A := fltA A (frT (tpA A) (tap A).length j)) (hR.read (hf'.tr f6.g) hr6.2.2.1) ((hf.trans (hf'.tr f6.g).frm.1).up ⟨by omega, by omega⟩) (hf'.tr f6.g).frm.2 (by decide) eS)
    refine V.aload_n (pc := 28) dX12_law_28 rfl ?_
    refine V.invV0 (as := []) (pc := 29) dX12_law_29 lX12_277 bX12_begin nX12_begin (ci := 11) rfl eX12_begin hM.o (c_begin_ (d := d + 5) (N := (tap A).length) (tt := tpA A) hM hT) (by omega) rfl (Nat.le_of_ble_eq_true rfl) ?_
    rintro _ _ _ I2 J2 _ ⟨rfl, rfl, rfl, rfl, f2, k2⟩
    refine V.aload_n (pc := 32) dX12_law_32 rfl ?_
    refine V.iconst (v := 0) (pc := 33) dX12_law_33 (by decide) ?_
    refine V.putI (pc := 34) dX12_law_34 fX12_269_11 (fun r h => by cases h; exact Or.inl rfl) rfl hM.o ?_
    refine V.aload_n (pc := 37) dX12_law_37 rfl ?_
    refine V.iconst (v := 0) (pc := 38) dX12_law_38 (by decide) ?_
    refine V.putI (pc := 39) dX12_law_39 fX12_188_11 (fun r h => by cases h; exact Or.inl rfl) rfl hM.o ?_
    refine V.aload_n (pc := 42) dX12_law_42 rfl ?_
    refine V.iconst (v := 0) (pc := 43) dX12_law_43 (by decide) ?_
    refine V.putI (pc := 44) dX12_law_44 fX12_219_11 (fun r h => by cases h; exact Or.inl rfl) rfl hM.o ?_
    obtain ⟨P0, o0, hr3⟩ := RdM.stale (tt := tpA A) (N := (tap A).length) (I := up2 (up2 (up2 I2 m 15 0) m 17 0) m 20 0) (J := J2) (m := m) ⟨by simp (disch := omega) only [up2_off, up2_ne, up2_same]; exact k2.1, by simp (disch := omega) only [up2_off, up2_ne, up2_same]; exact k2.2.1, by simp (disch := omega) only [up2_off, up2_ne, up2_same]; exact k2.2.2.1, k2.2.2.2⟩ (by simp (disch := omega) only [up2_off, up2_ne, up2_same]; rw [f2.2.1 14 (by decide) (by decide) (by decide)]; simp (disch := omega) only [up2_off, up2_ne, up2_same]) (by simp (disch := omega) only [up2_off, up2_ne, up2_same]; rw [f2.2.1 13 (by decide) (by decide) (by decide)]; simp (disch := omega) only [up2_off, up2_ne, up2_same]) (by simp (disch := omega) only [up2_off, up2_ne, up2_same]) up2_same
    have hl3 : NcM (up2 (up2 (up2 I2 m 15 0) m 17 0) m 20 0) m [] := ⟨by simp (disch := omega) only [up2_off, up2_ne, up2_same]; rfl, fun k q hq => by simp at hq⟩
    have hf3 : PrG m I1 J (up2 (up2 (up2 I2 m 15 0) m 17 0) m 20 0) J2 := (((((((PrG.rf.up (by omega)).up (by omega)).up (by omega)).tr f2.pr.g).up (by omega)).up (by omega)).up (by omega))
    have hok3 : RdK (tkN (tpA A) (tap A).length) (0, false, (0, fun _ => (0, 0)), 0, P0, o0) := ⟨Nat.zero_le _, Nat.le_refl _, fun k hk => absurd hk (Nat.not_lt_zero k), Nat.zero_le _⟩
    refine V.aload_n (pc := 47) dX12_law_47 rfl ?_
    refine V.invV0 (as := []) (pc := 48) dX12_law_48 lX12_280 bX12_readClause nX12_readClause (ci := 11) rfl eX12_readClause hM.o (c_clause (d := d + 0) (N := (tap A).length) (tt := tpA A) (l := []) (r := (0, false, (0, fun _ => (0, 0)), 0, P0, o0)) hM (hf3.tp hT) hr3 (hf3.wd hW) hok3 rfl hl3 (by decide)) (by omega) rfl (Nat.le_of_ble_eq_true rfl) ?_
    rintro _ _ _ I5 J5 _ ⟨rfl, rfl, rfl, rfl, f5, hy, hn⟩
    have hres2 : lawT A = dClauses (kdT (tpA A) (tap A).length) (nmT (tpA A) (tap A).length) (11 + 1) 0 0 [] := rfl
    rw [dClauses] at hres2
    have f5' := hf3.tr f5
    cases hp : dClause (kdT (tpA A) (tap A).length) (nmT (tpA A) (tap A).length) 0 0 with
    | mk j2 r2 =>
      obtain ⟨q2, w2⟩ := r2
      rw [hp] at hres2
      cases w2 with
      | none =>
        obtain ⟨C5, q5, P5, o5, hr5⟩ := hn j2 q2 hp
        refine V.aload_n (pc := 51) dX12_law_51 rfl ?_
        refine V.getI (pc := 52) dX12_law_52 fX12_151_11 rfl hM.o ?_
        rw [show I5 m 14 = 1 from hr5.2.1]
        refine V.if_ne 78 (pc := 55) dX12_law_55 (by decide) (fun _ => ?_) (fun z => absurd z (by decide))
        exact kB I5 J5 _ _ _ _ _ f5' hr5 hres2
      | some c2 =>
        obtain ⟨-, C5, b5, hr5, hok5, he5, hc5, hl5⟩ := hy j2 q2 c2 hp
        exact l_law hM hT hW kB kG 11 I5 J5 j2 q2 C5 _ [c2] f5' hr5 hok5 hl5 (LwOK.add (cl := []) (l := []) ⟨rfl, fun k q x h1 h2 => by simp at h1⟩ he5 hc5) rfl hres2
