-- a clause of the reference
def ClM (f : Nat → Int) (i qa qb qc : Nat) (q : ClA) : Prop := (f (2 + 8 * i + 3) = (qa : Int) ∧ f (2 + 8 * i + 4) = (qb : Int) ∧ f (2 + 8 * i + 5) = (qb : Int) ∧ f (2 + 8 * i + 6) = (qc : Int)) ∧ qa ≤ qb ∧ qb ≤ qc ∧ qc ≤ 400 ∧ RealR (fun k => (f (98 + 2 * k), f (98 + 2 * k + 1))) qa qb q.1 ∧ (match q.2 with
  | none => qc = qb
  | some t => qb < qc ∧ RealRT (fun k => (f (98 + 2 * k), f (98 + 2 * k + 1))) qb qc t)
def EvM (m L : Nat) (f e : Nat → Int) (I : mI) (J : mJ) : Prop := L + 900 ≤ 5550 ∧ I m 26 = nI L ∧ (∀ j, j < 900 → (I (m + 2) (L + j)).toInt = f j) ∧ ∀ i, 1 ≤ i → i ≤ 5 → J (m + 12) i = lI (e i) ∧ -2147483648 ≤ e i ∧ e i ≤ 2147483648
def EvF (m : Nat) (I : mI) (J : mJ) (I' : mI) (J' : mJ) : Prop := (∀ c, c ≠ m → I' c = I c) ∧ (∀ t, t ≠ 29 → I' m t = I m t) ∧ (∀ c, c ≠ m → c ≠ m + 13 → J' c = J c) ∧ ∀ t, t ≠ 30 → t ≠ 31 → J' m t = J m t
section EVF
variable {m L : Nat} {f e : Nat → Int} {I I' I2 : mI} {J J' J2 : mJ}
theorem EvF.rf : EvF m I J I J := ⟨fun _ _ => rfl, fun _ _ => rfl, fun _ _ _ => rfl, fun _ _ _ => rfl⟩
theorem EvF.tr (h : EvF m I J I' J') (h2 : EvF m I' J' I2 J2) : EvF m I J I2 J2 := ⟨fun c hc => (h2.1 c hc).trans (h.1 c hc), fun t ht => (h2.2.1 t ht).trans (h.2.1 t ht), fun c c1 c2 => (h2.2.2.1 c c1 c2).trans (h.2.2.1 c c1 c2), fun t t1 t2 => (h2.2.2.2 t t1 t2).trans (h.2.2.2 t t1 t2)⟩
theorem EvF.sum {z : Int64} (h : EvF m I J I' J') : EvF m I J I' (up2 J' m 31 z) := ⟨h.1, h.2.1, fun c c1 c2 => by rw [up2_off c1]; exact h.2.2.1 c c1 c2, fun t t1 t2 => by rw [up2_ne (by omega)]; exact h.2.2.2 t t1 t2⟩
theorem EvM.keep (h : EvM m L f e I J) (k : EvF m I J I' J') : EvM m L f e I' J' := ⟨h.1, (k.2.1 26 (by decide)).trans h.2.1, fun j hj => by rw [k.1 _ (by omega)]; exact h.2.2.1 j hj, fun i h1 h2 => by rw [k.2.2.1 _ (by omega) (by omega)]; exact h.2.2.2 i h1 h2⟩
theorem EvM.rd {j v : Nat} (h : EvM m L f e I J) (hj : j < 900) (hv : f j = (v : Int)) : I (m + 2) (L + j) = nI v := by
  have h2 := h.2.2.1 j hj
  rw [hv] at h2
  rw [nIx (x := I (m + 2) (L + j)) (by omega) rfl, h2, Int.toNat_natCast]
end EVF
theorem clSem_n1 {q : ClA} {e : Nat → Int} (h : q.1 e = none) : clSem q e = none := by unfold clSem; rw [h]; rfl
theorem clSem_s {q : ClA} {e : Nat → Int} {z : Int} (h : q.1 e = some z) (h2 : q.2 = none ∨ ∃ t, q.2 = some t ∧ t e = some true) : clSem q e = some z := by
  unfold clSem
  rw [h]
  rcases h2 with h2 | ⟨t, h2, h3⟩
  · rw [h2]; rfl
  · rw [h2]; show (if t e = some true then some z else none) = _; rw [if_pos h3]
theorem clSem_n2 {q : ClA} {e : Nat → Int} {t : TV} (h : q.2 = some t) (h2 : ¬ t e = some true) : clSem q e = none := by
  unfold clSem
  cases q.1 e with
  | none => rfl
  | some z => rw [h]; show (if t e = some true then some z else none) = _; rw [if_neg h2]
theorem c_rka {g : gG} {d : Nat} {T : mT} {n : Nat} {I : mI} {J : mJ} {F : mF} {m a b L : Nat} {f e : Nat → Int} {v : SV} (x y : Int32) (hM : MS T F m) (hx : x = nI a) (hy : y = nI b) (hb : b ≤ 400) (hE : EvM m L f e I J) (hR : RealR (fun k => (f (98 + 2 * k), f (98 + 2 * k + 1))) a b v) : Ct g mX12_reckonAll (d + 2) [.ref m, .int x, .int y] 0 0 T n I J F (fun r' T' n' I' J' F' => r' = none ∧ T' = T ∧ n' = n ∧ F' = F ∧ EvF m I J I' J' ∧ (∀ z, v e = some z → I' m 29 = 0 ∧ J' m 30 = lI z) ∧ (v e = none → I' m 29 = 1)) :=
  (c_reckonAll x y hM hx hy hb hE.1 hE.2.1 hE.2.2.1 hE.2.2.2 hR).imp (by
    rintro _ _ _ I2 J2 _ ⟨rfl, rfl, rfl, rfl, h1, h2, h3, h4, h5, h6⟩
    exact ⟨rfl, rfl, rfl, rfl, ⟨h1, h2, h3, fun t t1 _ => h4 t t1⟩, h5, h6⟩)
set_option maxHeartbeats 1000000 in
theorem c_isSo {g : gG} {d : Nat} {T : mT} {n : Nat} {I : mI} {J : mJ} {F : mF} {m L i p qa qb qc : Nat} {f e : Nat → Int} {q : ClA} (x : Int32) (hM : MS T F m) (hx : x = nI p) (hp : p = L + (2 + 8 * i)) (hi : i < 12) (hE : EvM m L f e I J) (hC : ClM f i qa qb qc q) : Ct g mX12_isSo (d + 3) [.ref m, .int x] 0 0 T n I J F (fun r' T' n' I' J' F' => T' = T ∧ n' = n ∧ F' = F ∧ EvF m I J I' J' ∧ (clSem q e = none → r' = some (.int 0)) ∧ ∀ z, clSem q e = some z → r' = some (.int 1) ∧ J' m 31 = lI z) := by
  refine Ct.ofV (k := 0) (by decide) (Nat.le_of_ble_eq_true rfl) ?_
  show V g mX12_isSo (d + 3) _ 0 0 0 [some (.ref m), some (.int x)] [] T n I J F
  subst hx
  have hLL := hE.1
  obtain ⟨⟨c3, c4, c5, c6⟩, k1, k2, k3, hR1, hR2⟩ := hC
  have r3 : I (m + 2) (p + 3) = nI qa := by rw [hp, Nat.add_assoc]; exact hE.rd (by omega) c3
  have r4 : I (m + 2) (p + 4) = nI qb := by rw [hp, Nat.add_assoc]; exact hE.rd (by omega) c4
  have r5 : I (m + 2) (p + 5) = nI qb := by rw [hp, Nat.add_assoc]; exact hE.rd (by omega) c5
  have r6 : I (m + 2) (p + 6) = nI qc := by rw [hp, Nat.add_assoc]; exact hE.rd (by omega) c6
  by_cases qn : q.2 = none
  · have hqc : qc = qb := by rw [qn] at hR2; exact hR2
    refine V.aload_n (pc := 0) dX12_isSo_0 rfl ?_
    refine V.getR (pc := 1) dX12_isSo_1 fX12_13_11 rfl hM.o hM.f3 ?_
    refine V.iload_n (pc := 4) dX12_isSo_4 rfl ?_
    refine V.iconst (v := 5) (pc := 5) dX12_isSo_5 (by decide) ?_
    refine V.iadd (pc := 6) dX12_isSo_6 ?_
    refine V.iald' (k := p + 5) (pc := 7) dX12_isSo_7 hM.t3 (by rw [show (5 : Int32) = nI 5 from rfl, nI_add]) (by omega) (by decide) ?_
    rw [r5]
    refine V.aload_n (pc := 8) dX12_isSo_8 rfl ?_
    refine V.getR (pc := 9) dX12_isSo_9 fX12_13_11 rfl hM.o hM.f3 ?_
    refine V.iload_n (pc := 12) dX12_isSo_12 rfl ?_
    refine V.bipush (v := 6) (pc := 13) dX12_isSo_13 (by decide) ?_
    refine V.iadd (pc := 15) dX12_isSo_15 ?_
    refine V.iald' (k := p + 6) (pc := 16) dX12_isSo_16 hM.t3 (by rw [show (6 : Int32) = nI 6 from rfl, nI_add]) (by omega) (by decide) ?_
    rw [r6]
    refine V.icmp_ge 59 (pc := 17) dX12_isSo_17 (by decide) (fun h17 => ?_) (fun h17 => absurd (nI_le (by omega) (by omega)) h17)
    refine V.aload_n (pc := 59) dX12_isSo_59 rfl ?_
    refine V.aload_n (pc := 60) dX12_isSo_60 rfl ?_
    refine V.getR (pc := 61) dX12_isSo_61 fX12_13_11 rfl hM.o hM.f3 ?_
    refine V.iload_n (pc := 64) dX12_isSo_64 rfl ?_
    refine V.iconst (v := 3) (pc := 65) dX12_isSo_65 (by decide) ?_
    refine V.iadd (pc := 66) dX12_isSo_66 ?_
    refine V.iald' (k := p + 3) (pc := 67) dX12_isSo_67 hM.t3 (by rw [show (3 : Int32) = nI 3 from rfl, nI_add]) (by omega) (by decide) ?_
    rw [r3]
    refine V.aload_n (pc := 68) dX12_isSo_68 rfl ?_
    refine V.getR (pc := 69) dX12_isSo_69 fX12_13_11 rfl hM.o hM.f3 ?_
    refine V.iload_n (pc := 72) dX12_isSo_72 rfl ?_
    refine V.iconst (v := 4) (pc := 73) dX12_isSo_73 (by decide) ?_
    refine V.iadd (pc := 74) dX12_isSo_74 ?_
    refine V.iald' (k := p + 4) (pc := 75) dX12_isSo_75 hM.t3 (by rw [show (4 : Int32) = nI 4 from rfl, nI_add]) (by omega) (by decide) ?_
    rw [r4]
    refine V.invV0 (as := [_, _]) (pc := 76) dX12_isSo_76 lX12_300 bX12_reckonAll nX12_reckonAll (ci := 11) rfl eX12_reckonAll hM.o (c_rka (d := d + 0) (a := qa) (b := qb) _ _ hM rfl rfl (by omega) hE hR1) (by omega) rfl (Nat.le_of_ble_eq_true rfl) ?_
    rintro _ _ _ I1 J1 _ ⟨rfl, rfl, rfl, rfl, f1, y1, n1⟩
    rcases hs : q.1 e with _ | z
    · have e29 := n1 hs
      refine V.aload_n (pc := 79) dX12_isSo_79 rfl ?_
      refine V.aload_n (pc := 80) dX12_isSo_80 rfl ?_
      refine V.getJ (pc := 81) dX12_isSo_81 fX12_297_11 rfl hM.o ?_
      refine V.putJ (pc := 84) dX12_isSo_84 fX12_303_11 (fun r h => by cases h; exact Or.inl rfl) rfl hM.o ?_
      refine V.aload_n (pc := 87) dX12_isSo_87 rfl ?_
      refine V.getI (pc := 88) dX12_isSo_88 fX12_283_11 rfl hM.o ?_
      rw [e29]
      refine V.if_ne 98 (pc := 91) dX12_isSo_91 (by decide) (fun h91 => ?_) (fun h91 => absurd h91 (by decide))
      refine V.iconst (v := 0) (pc := 98) dX12_isSo_98 (by decide) ?_
      exact V.zret (pc := 99) dX12_isSo_99 rfl (by first | exact Or.inl rfl | exact Or.inr rfl | exact bi_or | assumption) ⟨rfl, rfl, rfl, (f1).sum, fun _ => rfl, fun w hw => (by rw [clSem_n1 hs] at hw; cases hw)⟩
    · obtain ⟨e29, e30⟩ := y1 z hs
      refine V.aload_n (pc := 79) dX12_isSo_79 rfl ?_
      refine V.aload_n (pc := 80) dX12_isSo_80 rfl ?_
      refine V.getJ (pc := 81) dX12_isSo_81 fX12_297_11 rfl hM.o ?_
      rw [e30]
      refine V.putJ (pc := 84) dX12_isSo_84 fX12_303_11 (fun r h => by cases h; exact Or.inl rfl) rfl hM.o ?_
      refine V.aload_n (pc := 87) dX12_isSo_87 rfl ?_
      refine V.getI (pc := 88) dX12_isSo_88 fX12_283_11 rfl hM.o ?_
      rw [e29]
      refine V.if_ne 98 (pc := 91) dX12_isSo_91 (by decide) (fun h91 => absurd rfl h91) (fun h91 => ?_)
      refine V.iconst (v := 1) (pc := 94) dX12_isSo_94 (by decide) ?_
      refine V.goto 99 (pc := 95) dX12_isSo_95 (by decide) ?_
      exact V.zret (pc := 99) dX12_isSo_99 rfl (by first | exact Or.inl rfl | exact Or.inr rfl | exact bi_or | assumption) ⟨rfl, rfl, rfl, (f1).sum, fun hw => (by rw [clSem_s hs (Or.inl qn)] at hw; cases hw), fun w hw => (by rw [clSem_s hs (Or.inl qn)] at hw; cases hw; exact ⟨rfl, up2_same⟩)⟩
  · obtain ⟨t, ht⟩ := Option.ne_none_iff_exists'.mp qn
    have hR3 : qb < qc ∧ RealRT (fun k => (f (98 + 2 * k), f (98 + 2 * k + 1))) qb qc t := by rw [ht] at hR2; exact hR2
    refine V.aload_n (pc := 0) dX12_isSo_0 rfl ?_
    refine V.getR (pc := 1) dX12_isSo_1 fX12_13_11 rfl hM.o hM.f3 ?_
    refine V.iload_n (pc := 4) dX12_isSo_4 rfl ?_
    refine V.iconst (v := 5) (pc := 5) dX12_isSo_5 (by decide) ?_
    refine V.iadd (pc := 6) dX12_isSo_6 ?_
    refine V.iald' (k := p + 5) (pc := 7) dX12_isSo_7 hM.t3 (by rw [show (5 : Int32) = nI 5 from rfl, nI_add]) (by omega) (by decide) ?_
    rw [r5]
    refine V.aload_n (pc := 8) dX12_isSo_8 rfl ?_
    refine V.getR (pc := 9) dX12_isSo_9 fX12_13_11 rfl hM.o hM.f3 ?_
    refine V.iload_n (pc := 12) dX12_isSo_12 rfl ?_
    refine V.bipush (v := 6) (pc := 13) dX12_isSo_13 (by decide) ?_
    refine V.iadd (pc := 15) dX12_isSo_15 ?_
    refine V.iald' (k := p + 6) (pc := 16) dX12_isSo_16 hM.t3 (by rw [show (6 : Int32) = nI 6 from rfl, nI_add]) (by omega) (by decide) ?_
    rw [r6]
    refine V.icmp_ge 59 (pc := 17) dX12_isSo_17 (by decide) (fun h17 => absurd h17 (nI_ge (by omega) (by omega))) (fun h17 => ?_)
    refine V.aload_n (pc := 20) dX12_isSo_20 rfl ?_
    refine V.aload_n (pc := 21) dX12_isSo_21 rfl ?_
    refine V.getR (pc := 22) dX12_isSo_22 fX12_13_11 rfl hM.o hM.f3 ?_
    refine V.iload_n (pc := 25) dX12_isSo_25 rfl ?_
    refine V.iconst (v := 5) (pc := 26) dX12_isSo_26 (by decide) ?_
    refine V.iadd (pc := 27) dX12_isSo_27 ?_
    refine V.iald' (k := p + 5) (pc := 28) dX12_isSo_28 hM.t3 (by rw [show (5 : Int32) = nI 5 from rfl, nI_add]) (by omega) (by decide) ?_
    rw [r5]
    refine V.aload_n (pc := 29) dX12_isSo_29 rfl ?_
    refine V.getR (pc := 30) dX12_isSo_30 fX12_13_11 rfl hM.o hM.f3 ?_
    refine V.iload_n (pc := 33) dX12_isSo_33 rfl ?_
    refine V.bipush (v := 6) (pc := 34) dX12_isSo_34 (by decide) ?_
    refine V.iadd (pc := 36) dX12_isSo_36 ?_
    refine V.iald' (k := p + 6) (pc := 37) dX12_isSo_37 hM.t3 (by rw [show (6 : Int32) = nI 6 from rfl, nI_add]) (by omega) (by decide) ?_
    rw [r6]
    refine V.invV0 (as := [_, _]) (pc := 38) dX12_isSo_38 lX12_300 bX12_reckonAll nX12_reckonAll (ci := 11) rfl eX12_reckonAll hM.o (c_rka (d := d + 0) (a := qb) (b := qc) _ _ hM rfl rfl (by omega) hE hR3.2) (by omega) rfl (Nat.le_of_ble_eq_true rfl) ?_
    rintro _ _ _ I1 J1 _ ⟨rfl, rfl, rfl, rfl, f1, y1, n1⟩
    rcases hv : t e with _ | ⟨_ | _⟩
    · have e29 := n1 (by rw [hv]; rfl)
      refine V.aload_n (pc := 41) dX12_isSo_41 rfl ?_
      refine V.getI (pc := 42) dX12_isSo_42 fX12_283_11 rfl hM.o ?_
      rw [e29]
      refine V.if_ne 57 (pc := 45) dX12_isSo_45 (by decide) (fun h45 => ?_) (fun h45 => absurd h45 (by decide))
      refine V.iconst (v := 0) (pc := 57) dX12_isSo_57 (by decide) ?_
      exact V.zret (pc := 58) dX12_isSo_58 rfl (by first | exact Or.inl rfl | exact Or.inr rfl | exact bi_or | assumption) ⟨rfl, rfl, rfl, f1, fun _ => rfl, fun w hw => (by rw [clSem_n2 ht (by rw [hv]; exact fun z => by cases z)] at hw; cases hw)⟩
    · obtain ⟨e29, e30⟩ := y1 0 (by rw [hv]; rfl)
      refine V.aload_n (pc := 41) dX12_isSo_41 rfl ?_
      refine V.getI (pc := 42) dX12_isSo_42 fX12_283_11 rfl hM.o ?_
      rw [e29]
      refine V.if_ne 57 (pc := 45) dX12_isSo_45 (by decide) (fun h45 => absurd rfl h45) (fun h45 => ?_)
      refine V.aload_n (pc := 48) dX12_isSo_48 rfl ?_
      refine V.getJ (pc := 49) dX12_isSo_49 fX12_297_11 rfl hM.o ?_
      rw [e30]
      refine V.lconst (v := 0) (pc := 52) dX12_isSo_52 (by decide) ?_
      refine V.lcmp_ne 59 (pc := 53) dX12_isSo_53 dX12_isSo_54 (by decide) (fun h53 => absurd rfl h53) (fun h53 => ?_)
      refine V.iconst (v := 0) (pc := 57) dX12_isSo_57 (by decide) ?_
      exact V.zret (pc := 58) dX12_isSo_58 rfl (by first | exact Or.inl rfl | exact Or.inr rfl | exact bi_or | assumption) ⟨rfl, rfl, rfl, f1, fun _ => rfl, fun w hw => (by rw [clSem_n2 ht (by rw [hv]; exact fun z => by cases z)] at hw; cases hw)⟩
    · obtain ⟨e29, e30⟩ := y1 1 (by rw [hv]; rfl)
      have r3b : I1 (m + 2) (p + 3) = nI qa := by rw [f1.1 _ (by omega)]; exact r3
      have r4b : I1 (m + 2) (p + 4) = nI qb := by rw [f1.1 _ (by omega)]; exact r4
      refine V.aload_n (pc := 41) dX12_isSo_41 rfl ?_
      refine V.getI (pc := 42) dX12_isSo_42 fX12_283_11 rfl hM.o ?_
      rw [e29]
      refine V.if_ne 57 (pc := 45) dX12_isSo_45 (by decide) (fun h45 => absurd rfl h45) (fun h45 => ?_)
      refine V.aload_n (pc := 48) dX12_isSo_48 rfl ?_
      refine V.getJ (pc := 49) dX12_isSo_49 fX12_297_11 rfl hM.o ?_
      rw [e30]
      refine V.lconst (v := 0) (pc := 52) dX12_isSo_52 (by decide) ?_
      refine V.lcmp_ne 59 (pc := 53) dX12_isSo_53 dX12_isSo_54 (by decide) (fun h53 => ?_) (fun h53 => absurd h53 (by decide))
      refine V.aload_n (pc := 59) dX12_isSo_59 rfl ?_
      refine V.aload_n (pc := 60) dX12_isSo_60 rfl ?_
      refine V.getR (pc := 61) dX12_isSo_61 fX12_13_11 rfl hM.o hM.f3 ?_
      refine V.iload_n (pc := 64) dX12_isSo_64 rfl ?_
      refine V.iconst (v := 3) (pc := 65) dX12_isSo_65 (by decide) ?_
      refine V.iadd (pc := 66) dX12_isSo_66 ?_
      refine V.iald' (k := p + 3) (pc := 67) dX12_isSo_67 hM.t3 (by rw [show (3 : Int32) = nI 3 from rfl, nI_add]) (by omega) (by decide) ?_
      rw [r3b]
      refine V.aload_n (pc := 68) dX12_isSo_68 rfl ?_
      refine V.getR (pc := 69) dX12_isSo_69 fX12_13_11 rfl hM.o hM.f3 ?_
      refine V.iload_n (pc := 72) dX12_isSo_72 rfl ?_
      refine V.iconst (v := 4) (pc := 73) dX12_isSo_73 (by decide) ?_
      refine V.iadd (pc := 74) dX12_isSo_74 ?_
      refine V.iald' (k := p + 4) (pc := 75) dX12_isSo_75 hM.t3 (by rw [show (4 : Int32) = nI 4 from rfl, nI_add]) (by omega) (by decide) ?_
      rw [r4b]
      refine V.invV0 (as := [_, _]) (pc := 76) dX12_isSo_76 lX12_300 bX12_reckonAll nX12_reckonAll (ci := 11) rfl eX12_reckonAll hM.o (c_rka (d := d + 0) (a := qa) (b := qb) _ _ hM rfl rfl (by omega) (hE.keep f1) hR1) (by omega) rfl (Nat.le_of_ble_eq_true rfl) ?_
      rintro _ _ _ I2 J2 _ ⟨rfl, rfl, rfl, rfl, f2, y2, n2⟩
      rcases hs : q.1 e with _ | z
      · have e29 := n2 hs
        refine V.aload_n (pc := 79) dX12_isSo_79 rfl ?_
        refine V.aload_n (pc := 80) dX12_isSo_80 rfl ?_
        refine V.getJ (pc := 81) dX12_isSo_81 fX12_297_11 rfl hM.o ?_
        refine V.putJ (pc := 84) dX12_isSo_84 fX12_303_11 (fun r h => by cases h; exact Or.inl rfl) rfl hM.o ?_
        refine V.aload_n (pc := 87) dX12_isSo_87 rfl ?_
        refine V.getI (pc := 88) dX12_isSo_88 fX12_283_11 rfl hM.o ?_
        rw [e29]
        refine V.if_ne 98 (pc := 91) dX12_isSo_91 (by decide) (fun h91 => ?_) (fun h91 => absurd h91 (by decide))
        refine V.iconst (v := 0) (pc := 98) dX12_isSo_98 (by decide) ?_
        exact V.zret (pc := 99) dX12_isSo_99 rfl (by first | exact Or.inl rfl | exact Or.inr rfl | exact bi_or | assumption) ⟨rfl, rfl, rfl, (f1.tr f2).sum, fun _ => rfl, fun w hw => (by rw [clSem_n1 hs] at hw; cases hw)⟩
      · obtain ⟨e29, e30⟩ := y2 z hs
        refine V.aload_n (pc := 79) dX12_isSo_79 rfl ?_
        refine V.aload_n (pc := 80) dX12_isSo_80 rfl ?_
        refine V.getJ (pc := 81) dX12_isSo_81 fX12_297_11 rfl hM.o ?_
        rw [e30]
        refine V.putJ (pc := 84) dX12_isSo_84 fX12_303_11 (fun r h => by cases h; exact Or.inl rfl) rfl hM.o ?_
        refine V.aload_n (pc := 87) dX12_isSo_87 rfl ?_
        refine V.getI (pc := 88) dX12_isSo_88 fX12_283_11 rfl hM.o ?_
        rw [e29]
        refine V.if_ne 98 (pc := 91) dX12_isSo_91 (by decide) (fun h91 => absurd rfl h91) (fun h91 => ?_)
        refine V.iconst (v := 1) (pc := 94) dX12_isSo_94 (by decide) ?_
        refine V.goto 99 (pc := 95) dX12_isSo_95 (by decide) ?_
        exact V.zret (pc := 99) dX12_isSo_99 rfl (by first | exact Or.inl rfl | exact Or.inr rfl | exact bi_or | assumption) ⟨rfl, rfl, rfl, (f1.tr f2).sum, fun hw => (by rw [clSem_s hs (Or.inr ⟨t, ht, hv⟩)] at hw; cases hw), fun w hw => (by rw [clSem_s hs (Or.inr ⟨t, ht, hv⟩)] at hw; cases hw; exact ⟨rfl, up2_same⟩)⟩
