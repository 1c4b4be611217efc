def SmS (T : mT) (F : mF) (s : Nat) : Prop := T s = some (.inl 8) ∧ (F s 1 = some (s + 1) ∧ T (s + 1) = some (.inr (.int, 6))) ∧ F s 2 = some (s + 2) ∧ T (s + 2) = some (.inr (.int, 6))
section SMP
variable {T : mT} {F : mF} {s x : Nat}
theorem SmS.o (h : SmS T F s) : T s = some (.inl 8) := h.1
theorem SmS.f1 (h : SmS T F s) : F s 1 = some (s + 1) := h.2.1.1
theorem SmS.t1 (h : SmS T F s) : T (s + 1) = some (.inr (.int, 6)) := h.2.1.2
theorem SmS.f2 (h : SmS T F s) : F s 2 = some (s + 2) := h.2.2.1
theorem SmS.t2 (h : SmS T F s) : T (s + 2) = some (.inr (.int, 6)) := h.2.2.2
theorem XS.sm (h : XS T F x) : SmS T F (x + 46) := ⟨h.o13, ⟨h.g46_1, h.u47⟩, h.g46_2, h.u48⟩
end SMP
def SDX (m s H D k : Nat) (I : mI) (J : mJ) (I' : mI) (J' : mJ) : Prop := (∀ b, b ≠ m + 2 → I' b = I b) ∧ (∀ h, h < H → I' (m + 2) h = nI (lostN s H h (D + if h < k then 1 else 0))) ∧ (∀ b, b ≠ m → J' b = J b) ∧ J' m 3 = lN (drw s (D * H + k))
theorem SDX.turn {m s H D : Nat} {I I' : mI} {J J' : mJ} (h : SDX m s H D H I J I' J') : SDX m s H (D + 1) 0 I J I' J' := by
  obtain ⟨a, b, c, e⟩ := h
  refine ⟨a, fun h hh => ?_, c, ?_⟩
  · rw [b h hh, if_pos hh, if_neg (by omega)]
  · rw [e, show (D + 1) * H + 0 = D * H + H by rw [Nat.add_mul]; omega]
theorem SDX.step1 {m s H D k : Nat} {I I' : mI} {J J' : mJ} (h : SDX m s H D k I J I' J') (hk : k < H) (ho : outN s (D * H + k) = 1) : SDX m s H D (k + 1) I J (up2 I' (m + 2) k (I' (m + 2) k + 1)) (up2 J' m 3 (lN (drw s (D * H + k + 1)))) := by
  obtain ⟨a, b, c, e⟩ := h
  refine ⟨fun x hx => by rw [up2_off hx]; exact a x hx, fun h hh => ?_, fun x hx => by rw [up2_off hx]; exact c x hx, by rw [up2_same]; rfl⟩
  by_cases q : h = k
  · subst q
    rw [up2_same, b h hh, if_neg (by omega), if_pos (by omega), nI_1]
    show _ = nI (lostN s H h D + outN s (D * H + h))
    rw [ho]; rfl
  · rw [up2_ne (by omega), b h hh]
    by_cases q2 : h < k
    · rw [if_pos q2, if_pos (by omega)]
    · rw [if_neg q2, if_neg (by omega)]
theorem SDX.step0 {m s H D k : Nat} {I I' : mI} {J J' : mJ} (h : SDX m s H D k I J I' J') (hk : k < H) (ho : outN s (D * H + k) = 0) : SDX m s H D (k + 1) I J I' (up2 J' m 3 (lN (drw s (D * H + k + 1)))) := by
  obtain ⟨a, b, c, e⟩ := h
  refine ⟨a, fun h hh => ?_, fun x hx => by rw [up2_off hx]; exact c x hx, by rw [up2_same]; rfl⟩
  by_cases q : h = k
  · subst q
    rw [b h hh, if_neg (by omega), if_pos (by omega)]
    show _ = nI (lostN s H h D + outN s (D * H + h))
    rw [ho]; rfl
  · rw [b h hh]
    by_cases q2 : h < k
    · rw [if_pos q2, if_pos (by omega)]
    · rw [if_neg q2, if_neg (by omega)]
theorem RepX.storm {T : mT} {I I' : mI} {J J' : mJ} {F : mF} {x : Nat} {A : Ab} {st : List (Nat × Nat)} (h : RepX T I J F x A) (hA : AbOK A) (hI : ∀ b, b ≠ x + 46 → b ≠ x + 47 → b ≠ x + 48 → I' b = I b) (hJ : ∀ b, b ≠ x + 46 → J' b = J b) (h0 : I' (x + 46) 0 = nI st.length) (hs : ∀ (h : Nat) (y : Nat × Nat), st[h]? = some y → I' (x + 47) h = nI y.1 ∧ I' (x + 48) h = nI y.2) : RepX T I' J' F x (cor A, img A, tap A, flt A, bnt A, rfs A, sts A, st) := by
  obtain ⟨h1, h2, h3, ⟨⟨h4, h5⟩, h6, h7⟩, h8, h9, h10⟩ := h
  have kI : ∀ b, b ≠ x + 46 → b ≠ x + 47 → b ≠ x + 48 → I' b = I b := hI
  refine ⟨?_, ?_, ?_, ⟨⟨?_, fun c hc => ?_⟩, ?_, fun c hc => ?_⟩, h8, fun i t hi => ?_, h0, hs⟩
  · rw [kI x (by omega) (by omega) (by omega)]; exact h1
  · rw [kI (x + 23) (by omega) (by omega) (by omega)]; exact h2
  · exact h3.congr hA.1 (fun _ _ z => z) (fun b _ _ => kI b (by omega) (by omega) (by omega)) (fun b _ _ => hJ b (by omega)) (fun b _ _ => kI b (by omega) (by omega) (by omega)) (fun b _ _ => rfl) rfl
  · rw [kI _ (by omega) (by omega) (by omega)]; exact h4
  · exact (h5 c hc).congr (hA.2.1 0 c hc) (fun _ _ z => z) (fun b _ _ => kI b (by omega) (by omega) (by omega)) (fun b _ _ => hJ b (by omega)) (fun b _ _ => kI b (by omega) (by omega) (by omega)) (fun b _ _ => rfl) rfl
  · rw [kI _ (by omega) (by omega) (by omega)]; exact h6
  · exact (h7 c hc).congr (hA.2.1 1 c hc) (fun _ _ z => z) (fun b _ _ => kI b (by omega) (by omega) (by omega)) (fun b _ _ => hJ b (by omega)) (fun b _ _ => kI b (by omega) (by omega) (by omega)) (fun b _ _ => rfl) rfl
  · rw [kI _ (by omega) (by omega) (by omega)]; exact h9 i t hi
theorem HdX.congr2 {I I' : mI} {J J' : mJ} {a : Nat} {y : Hd} (h : HdX I J a y) (e1 : I' a = I a) (e2 : I' (a + 1) = I (a + 1)) (e3 : J' a = J a) : HdX I' J' a y := by unfold HdX; rw [e1, e2, e3]; exact h
theorem x_draw {g : gG} {d : Nat} {T : mT} {n : Nat} {I : mI} {J : mJ} {F : mF} {m k : Nat} (hSm : SmS T F m) (hk : k ≤ 1000002) (hj : J m 3 = lN k) : Ct g mX9_draw (d + 1) [.ref m, .int 10] 0 0 T n I J F (fun r' T' n' I' J' F' => r' = some (.long (lN ((k * 1103 + 12345) % 1000003 % 10))) ∧ T' = T ∧ n' = n ∧ I' = I ∧ J' = up2 J m 3 (lN ((k * 1103 + 12345) % 1000003)) ∧ F' = F) := by
  refine Ct.ofV (k := 0) (by decide) (Nat.le_of_ble_eq_true rfl) ?_
  show V g mX9_draw (d + 1) _ 0 0 0 [some (.ref m), some (.int 10)] [] T n I J F
  refine V.aload_n (pc := 0) dX9_draw_0 rfl ?_
  refine V.aload_n (pc := 1) dX9_draw_1 rfl ?_
  refine V.getJ (pc := 2) dX9_draw_2 fX9_22_8 rfl hSm.o ?_
  rw [hj]
  refine V.ldc2 (pc := 5) dX9_draw_5 qX9_45 ?_
  refine V.lmul (pc := 8) dX9_draw_8 ?_
  rw [M1103, lN_mul]
  refine V.ldc2 (pc := 9) dX9_draw_9 qX9_47 ?_
  refine V.ladd (pc := 12) dX9_draw_12 ?_
  rw [M12345, lN_add]
  refine V.ldc2 (pc := 13) dX9_draw_13 qX9_49 ?_
  refine V.lrem (pc := 16) dX9_draw_16 (by decide) ?_
  rw [M1000003, lN_rem (by omega) (by omega)]
  refine V.putJ (pc := 17) dX9_draw_17 fX9_22_8 (fun r h => by cases h; exact Or.inl rfl) rfl hSm.o ?_
  refine V.aload_n (pc := 20) dX9_draw_20 rfl ?_
  refine V.getJ (pc := 21) dX9_draw_21 fX9_22_8 rfl hSm.o ?_
  rw [up2_same]
  refine V.iload_n (pc := 24) dX9_draw_24 rfl ?_
  refine V.i2l (pc := 25) dX9_draw_25 ?_
  refine V.pS (as := [_, _]) (pc := 26) dX9_draw_26 lX9_51 bX11_remainder sX11_remainder (x_remainder (d := d + 0) (a := (k * 1103 + 12345) % 1000003) (b := 10) _ _ rfl rfl (by omega) (by omega) (by omega)) (by omega) rfl (Nat.le_of_ble_eq_true rfl) ?_
  exact V.lret (pc := 29) dX9_draw_29 rfl ⟨rfl, rfl, rfl, rfl, rfl, rfl⟩
theorem l_bzX {g : gG} {d : Nat} {T : mT} {n : Nat} {I : mI} {J : mJ} {F : mF} {Q : mQ} {m u N : Nat} {v2 v3 : Int32} (hSm : SmS T F m) (kk : ∀ I' : mI, (∀ b, b ≠ m + 2 → I' b = I b) → (∀ i, i < 6 → I' (m + 2) i = 0) → V g mX9_blowOver (d + 3) Q 0 0 38 [some (.ref m), some (.ref u), some (.int v2), some (.int v3), some (.int (nI N)), some (.int (nI 6)), none, none] [] T n I' J F) : ∀ (t j : Nat) (I' : mI), j + t = 6 → ((∀ b, b ≠ m + 2 → I' b = I b) ∧ ∀ i, i < j → I' (m + 2) i = 0) → V g mX9_blowOver (d + 3) Q 0 0 17 [some (.ref m), some (.ref u), some (.int v2), some (.int v3), some (.int (nI N)), some (.int (nI j)), none, none] [] T n I' J F := by
  intro t
  induction t with
  | zero =>
    intro j I' hj hi
    obtain rfl : j = 6 := by omega
    refine V.iload (pc := 17) dX9_blowOver_17 rfl ?_
    refine V.bipush (v := 6) (pc := 19) dX9_blowOver_19 (by decide) ?_
    refine V.icmp_ge 38 (pc := 21) dX9_blowOver_21 (by decide) (fun h21 => ?_) (fun h21 => absurd (by rw [L6]; exact nI_le (by omega) (by omega)) h21)
    exact kk I' hi.1 hi.2
  | succ t ih =>
    intro j I' hj hi
    refine V.iload (pc := 17) dX9_blowOver_17 rfl ?_
    refine V.bipush (v := 6) (pc := 19) dX9_blowOver_19 (by decide) ?_
    refine V.icmp_ge 38 (pc := 21) dX9_blowOver_21 (by decide) (fun h21 => absurd h21 (by rw [L6]; exact nI_ge (by omega) (by omega))) (fun h21 => ?_)
    refine V.aload_n (pc := 24) dX9_blowOver_24 rfl ?_
    refine V.getR (pc := 25) dX9_blowOver_25 fX9_19_8 rfl hSm.o hSm.f2 ?_
    refine V.iload (pc := 28) dX9_blowOver_28 rfl ?_
    refine V.iconst (v := 0) (pc := 30) dX9_blowOver_30 (by decide) ?_
    refine V.iast' (k := j) (pc := 31) dX9_blowOver_31 hSm.t2 rfl (by omega) (by decide) ?_
    refine V.iinc1 (pc := 32) dX9_blowOver_32 (by decide) rfl (st1_5 rfl) ?_
    refine V.goto 17 (pc := 35) dX9_blowOver_35 (by decide) ?_
    rw [nI_1]
    refine ih (j + 1) _ (by omega) ⟨fun b hb => by rw [up2_off hb]; exact hi.1 b hb, fun i h1 => ?_⟩
    by_cases q : i = j
    · subst q; rw [up2_same]
    · rw [up2_ne (by omega)]; exact hi.2 i (by omega)
theorem l_bhX {g : gG} {d : Nat} {T : mT} {n : Nat} {I : mI} {J : mJ} {F : mF} {Q : mQ} {m u N s H D : Nat} {v2 v3 : Int32} (hSm : SmS T F m) (hs : s ≤ 1000000) (hH : H ≤ 6) (h0 : I m 0 = nI H) (hD : D < 100) (kk : ∀ (I' : mI) (J' : mJ), SDX m s H D H I J I' J' → V g mX9_blowOver (d + 3) Q 0 0 101 [some (.ref m), some (.ref u), some (.int v2), some (.int v3), some (.int (nI N)), some (.int (nI (allN s (D * H + H)))), some (.int (nI D)), some (.int (nI H))] [] T n I' J' F) : ∀ (t j : Nat) (I' : mI) (J' : mJ), j + t = H → (SDX m s H D j I J I' J') → V g mX9_blowOver (d + 3) Q 0 0 54 [some (.ref m), some (.ref u), some (.int v2), some (.int v3), some (.int (nI N)), some (.int (nI (allN s (D * H + j)))), some (.int (nI D)), some (.int (nI j))] [] T n I' J' F := by
  intro t
  induction t with
  | zero =>
    intro j I' J' hj hi
    obtain rfl : j = H := by omega
    have e0 : I' m 0 = nI j := by rw [hi.1 m (by omega)]; exact h0
    refine V.iload (pc := 54) dX9_blowOver_54 rfl ?_
    refine V.aload_n (pc := 56) dX9_blowOver_56 rfl ?_
    refine V.getI (pc := 57) dX9_blowOver_57 fX9_9_8 rfl hSm.o ?_
    rw [e0]
    refine V.icmp_ge 101 (pc := 60) dX9_blowOver_60 (by decide) (fun h60 => ?_) (fun h60 => absurd (nI_le (Nat.le_refl _) (by omega)) h60)
    exact kk I' J' hi
  | succ t ih =>
    intro j I' J' hj hi
    have e0 : I' m 0 = nI H := by rw [hi.1 m (by omega)]; exact h0
    have hd1 := drw_lt hs (D * H + j)
    have ed : (drw s (D * H + j) * 1103 + 12345) % 1000003 = drw s (D * H + j + 1) := rfl
    have hd2 := drw_lt hs (D * H + j + 1)
    refine V.iload (pc := 54) dX9_blowOver_54 rfl ?_
    refine V.aload_n (pc := 56) dX9_blowOver_56 rfl ?_
    refine V.getI (pc := 57) dX9_blowOver_57 fX9_9_8 rfl hSm.o ?_
    rw [e0]
    refine V.icmp_ge 101 (pc := 60) dX9_blowOver_60 (by decide) (fun h60 => absurd h60 (nI_ge (by omega) (by omega))) (fun h60 => ?_)
    refine V.iload (pc := 63) dX9_blowOver_63 rfl ?_
    refine V.bipush (v := 6) (pc := 65) dX9_blowOver_65 (by decide) ?_
    refine V.icmp_ge 101 (pc := 67) dX9_blowOver_67 (by decide) (fun h67 => absurd h67 (by rw [L6]; exact nI_ge (by omega) (by omega))) (fun h67 => ?_)
    refine V.aload_n (pc := 70) dX9_blowOver_70 rfl ?_
    refine V.bipush (v := 10) (pc := 71) dX9_blowOver_71 (by decide) ?_
    refine V.invV0 (as := [_]) (pc := 73) dX9_blowOver_73 lX9_31 bX9_draw nX9_draw (ci := 8) rfl eX9_draw hSm.o (x_draw (d := d + 1) (k := drw s (D * H + j)) hSm (by omega) hi.2.2.2) (by omega) rfl (Nat.le_of_ble_eq_true rfl) ?_
    rintro _ _ _ _ _ _ ⟨rfl, rfl, rfl, rfl, rfl, rfl⟩
    rw [ed]
    refine V.lconst (v := 0) (pc := 76) dX9_blowOver_76 (by decide) ?_
    refine V.lcmp_ne 95 (pc := 77) dX9_blowOver_77 dX9_blowOver_78 (by decide) (fun h77 => ?_) (fun h77 => ?_)
    · have ho : outN s (D * H + j) = 0 := by
        rw [outN, if_neg (fun z => h77 (by rw [z]; rfl))]
      refine V.iinc1 (pc := 95) dX9_blowOver_95 (by decide) rfl (st1_7 rfl) ?_
      refine V.goto 54 (pc := 98) dX9_blowOver_98 (by decide) ?_
      have z := ih (j + 1) _ _ (by omega) (hi.step0 (by omega) ho)
      rw [show allN s (D * H + (j + 1)) = allN s (D * H + j) + outN s (D * H + j) from rfl, ho] at z
      rw [nI_1]
      exact z
    · have ho : outN s (D * H + j) = 1 := by
        rw [show (0 : Int64) = lN 0 from rfl, lN_eqL (by omega) (by decide)] at h77
        rw [outN, if_pos h77]
      refine V.aload_n (pc := 81) dX9_blowOver_81 rfl ?_
      refine V.getR (pc := 82) dX9_blowOver_82 fX9_19_8 rfl hSm.o hSm.f2 ?_
      refine V.iload (pc := 85) dX9_blowOver_85 rfl ?_
      refine V.dup2 (pc := 87) dX9_blowOver_87 rfl rfl ?_
      refine V.iald' (k := j) (pc := 88) dX9_blowOver_88 hSm.t2 rfl (by omega) (by decide) ?_
      refine V.iconst (v := 1) (pc := 89) dX9_blowOver_89 (by decide) ?_
      refine V.iadd (pc := 90) dX9_blowOver_90 ?_
      refine V.iast' (k := j) (pc := 91) dX9_blowOver_91 hSm.t2 rfl (by omega) (by decide) ?_
      refine V.iinc1 (pc := 92) dX9_blowOver_92 (by decide) rfl (st1_5 rfl) ?_
      refine V.iinc1 (pc := 95) dX9_blowOver_95 (by decide) rfl (st1_7 rfl) ?_
      refine V.goto 54 (pc := 98) dX9_blowOver_98 (by decide) ?_
      have z := ih (j + 1) _ _ (by omega) (hi.step1 (by omega) ho)
      rw [show allN s (D * H + (j + 1)) = allN s (D * H + j) + outN s (D * H + j) from rfl, ho] at z
      rw [nI_1, nI_1]
      exact z
theorem l_bdX {g : gG} {d : Nat} {T : mT} {n : Nat} {I : mI} {J : mJ} {F : mF} {Q : mQ} {m u N s H : Nat} {v2 v3 : Int32} (hSm : SmS T F m) (hs : s ≤ 1000000) (hH : H ≤ 6) (h0 : I m 0 = nI H) (hN : N ≤ 100) (kk : ∀ (I' : mI) (J' : mJ), SDX m s H N 0 I J I' J' → V g mX9_blowOver (d + 3) Q 0 0 107 [some (.ref m), some (.ref u), some (.int v2), some (.int v3), some (.int (nI N)), some (.int (nI (allN s (N * H)))), some (.int (nI N)), none] [] T n I' J' F) : ∀ (t j : Nat) (I' : mI) (J' : mJ), j + t = N → (SDX m s H j 0 I J I' J') → V g mX9_blowOver (d + 3) Q 0 0 44 [some (.ref m), some (.ref u), some (.int v2), some (.int v3), some (.int (nI N)), some (.int (nI (allN s (j * H)))), some (.int (nI j)), none] [] T n I' J' F := by
  intro t
  induction t with
  | zero =>
    intro j I' J' hj hi
    obtain rfl : j = N := by omega
    refine V.iload (pc := 44) dX9_blowOver_44 rfl ?_
    refine V.iload (pc := 46) dX9_blowOver_46 rfl ?_
    refine V.icmp_ge 107 (pc := 48) dX9_blowOver_48 (by decide) (fun h48 => ?_) (fun h48 => absurd (nI_le (Nat.le_refl _) (by omega)) h48)
    exact kk I' J' hi
  | succ t ih =>
    intro j I' J' hj hi
    refine V.iload (pc := 44) dX9_blowOver_44 rfl ?_
    refine V.iload (pc := 46) dX9_blowOver_46 rfl ?_
    refine V.icmp_ge 107 (pc := 48) dX9_blowOver_48 (by decide) (fun h48 => absurd h48 (nI_ge (by omega) (by omega))) (fun h48 => ?_)
    refine V.iconst (v := 0) (pc := 51) dX9_blowOver_51 (by decide) ?_
    refine V.is (pc := 52) dX9_blowOver_52 (by decide) (st1_7 rfl) ?_
    conv => arg 8; rw [show j * H = j * H + 0 from rfl, L0]
    refine l_bhX (I := I) (J := J) hSm hs hH h0 (by omega) (fun I2 J2 hS2 => ?_) H 0 I' J' (by omega) hi
    refine V.iinc1 (pc := 101) dX9_blowOver_101 (by decide) rfl (st1_6 rfl) ?_
    refine V.goto 44 (pc := 104) dX9_blowOver_104 (by decide) ?_
    refine V.weak wk_7 ?_
    have z := ih (j + 1) I2 J2 (by omega) hS2.turn
    rw [show (j + 1) * H = j * H + H by rw [Nat.add_mul]; omega] at z
    rw [nI_1]
    exact z
theorem l_beX {g : gG} {d : Nat} {T : mT} {n : Nat} {I : mI} {J : mJ} {F : mF} {Q : mQ} {m u N s dy : Nat} {A : Ab} {v2 v3 v : Int32} (hSm : SmS T F m) (hS : SS T F u) (hum : u + 20 ≤ m) (hv3 : v3 = nI dy) (hd : dy + N ≤ 1000000) (hN : N ≤ 100) (hA : AbOK A) (h0 : I m 0 = nI (hds (cor A)).length) (hu2 : I u 2 = nI (hds (cor A)).length) (hl : ∀ h, h < (hds (cor A)).length → I (m + 2) h = nI (lostN s (hds (cor A)).length h N)) (hH : ∀ (h : Nat) (y : Hd), (hds (cor A))[h]? = some y → HdX I J (u + 8 + 2 * h) y) (kk : ∀ I' : mI, (∀ b, b ≠ m + 1 → I' b = I b) → (∀ (h : Nat) (y : Hd), h < (hds (cor A)).length → (hds (cor A))[h]? = some y → I' (m + 1) h = nI (markD y (dy + N - lostN s (hds (cor A)).length h N))) → V g mX9_blowOver (d + 3) Q 0 0 173 [some (.ref m), some (.ref u), some (.int v2), some (.int v3), some (.int (nI N)), some (.int v), some (.int (nI (hds (cor A)).length)), none] [] T n I' J F) : ∀ (t j : Nat) (I' : mI), j + t = (hds (cor A)).length → ((∀ b, b ≠ m + 1 → I' b = I b) ∧ ∀ (h : Nat) (y : Hd), h < j → (hds (cor A))[h]? = some y → I' (m + 1) h = nI (markD y (dy + N - lostN s (hds (cor A)).length h N))) → V g mX9_blowOver (d + 3) Q 0 0 110 [some (.ref m), some (.ref u), some (.int v2), some (.int v3), some (.int (nI N)), some (.int v), some (.int (nI j)), none] [] T n I' J F := by
  intro t
  induction t with
  | zero =>
    intro j I' hj hi
    obtain rfl : j = (hds (cor A)).length := by omega
    have h6 := hA.1.1
    have e0 : I' m 0 = nI (hds (cor A)).length := by rw [hi.1 m (by omega)]; exact h0
    refine V.iload (pc := 110) dX9_blowOver_110 rfl ?_
    refine V.aload_n (pc := 112) dX9_blowOver_112 rfl ?_
    refine V.getI (pc := 113) dX9_blowOver_113 fX9_9_8 rfl hSm.o ?_
    rw [e0]
    refine V.icmp_ge 173 (pc := 116) dX9_blowOver_116 (by decide) (fun h116 => ?_) (fun h116 => absurd (nI_le (Nat.le_refl _) (by omega)) h116)
    exact kk I' hi.1 hi.2
  | succ t ih =>
    intro j I' hj hi
    have h6 := hA.1.1
    have hTu := hS.o
    have e0 : I' m 0 = nI (hds (cor A)).length := by rw [hi.1 m (by omega)]; exact h0
    obtain ⟨y, hy⟩ : ∃ y, (hds (cor A))[j]? = some y := ⟨_, List.getElem?_eq_getElem (by omega)⟩
    have hN2 := hS.n (h := j) (by omega)
    have hT2 := hN2.o
    have hY2 := hA.1.2.1 y (List.mem_of_getElem? hy)
    have hW2 := (hH j y hy).congr2 (J' := J) (hi.1 _ (by omega)) (hi.1 _ (by omega)) rfl
    have el : I' (m + 2) j = nI (lostN s (hds (cor A)).length j N) := by rw [hi.1 _ (by omega)]; exact hl j (by omega)
    have hll := lostN_le s (hds (cor A)).length j N
    have ej : (nI j).toInt = (j : Int) := nI_toInt (by omega)
    have eu2 : I' u 2 = nI (hds (cor A)).length := by rw [hi.1 u (by omega)]; exact hu2
    refine V.iload (pc := 110) dX9_blowOver_110 rfl ?_
    refine V.aload_n (pc := 112) dX9_blowOver_112 rfl ?_
    refine V.getI (pc := 113) dX9_blowOver_113 fX9_9_8 rfl hSm.o ?_
    rw [e0]
    refine V.icmp_ge 173 (pc := 116) dX9_blowOver_116 (by decide) (fun h116 => absurd h116 (nI_ge (by omega) (by omega))) (fun h116 => ?_)
    refine V.iload (pc := 119) dX9_blowOver_119 rfl ?_
    refine V.bipush (v := 6) (pc := 121) dX9_blowOver_121 (by decide) ?_
    refine V.icmp_ge 173 (pc := 123) dX9_blowOver_123 (by decide) (fun h123 => absurd h123 (by rw [L6]; exact nI_ge (by omega) (by omega))) (fun h123 => ?_)
    refine V.aload_n (pc := 126) dX9_blowOver_126 rfl ?_
    refine V.iload (pc := 127) dX9_blowOver_127 rfl ?_
    refine V.pV (as := [_]) (pc := 129) dX9_blowOver_129 lX9_35 bX8_handAt nX8_handAt (ci := 7) rfl eX8_handAt (by assumption) (x_handAtY (d := d + 2) (k := (hds (cor A)).length) _ hS eu2 hA.1.1 (by omega)) (by omega) rfl (Nat.le_of_ble_eq_true rfl) ?_
    rw [ej, Int.toNat_natCast]
    refine V.as (pc := 132) dX9_blowOver_132 (by decide) (st1_7 rfl) ?_
    refine V.aload_n (pc := 134) dX9_blowOver_134 rfl ?_
    refine V.getR (pc := 135) dX9_blowOver_135 fX9_15_8 rfl hSm.o hSm.f1 ?_
    refine V.iload (pc := 138) dX9_blowOver_138 rfl ?_
    refine V.aload (pc := 140) dX9_blowOver_140 rfl ?_
    refine V.ifnonnull 149 (pc := 142) dX9_blowOver_142 (by decide) ?_
    refine V.aload (pc := 149) dX9_blowOver_149 rfl ?_
    refine V.iload_n (pc := 151) dX9_blowOver_151 rfl ?_
    refine V.iload (pc := 152) dX9_blowOver_152 rfl ?_
    refine V.iadd (pc := 154) dX9_blowOver_154 ?_
    rw [show v3 + nI N = nI (dy + N) from by rw [hv3, nI_add]]
    refine V.aload_n (pc := 155) dX9_blowOver_155 rfl ?_
    refine V.getR (pc := 156) dX9_blowOver_156 fX9_19_8 rfl hSm.o hSm.f2 ?_
    refine V.iload (pc := 159) dX9_blowOver_159 rfl ?_
    refine V.iald' (k := j) (pc := 161) dX9_blowOver_161 hSm.t2 rfl (by omega) (by decide) ?_
    rw [el]
    refine V.isub (pc := 162) dX9_blowOver_162 ?_
    rw [pk_sub (by omega)]
    refine V.pV (as := [_]) (pc := 163) dX9_blowOver_163 lX9_39 bX1_markOn nX1_markOn (ci := 1) rfl eX1_markOn (by assumption) (x_markOn (d := d + 0) (dd := dy + N - lostN s (hds (cor A)).length j N) (y := y) _ hN2 hY2 hW2 rfl (by omega)) (by omega) rfl (Nat.le_of_ble_eq_true rfl) ?_
    refine V.iast' (k := j) (pc := 166) dX9_blowOver_166 hSm.t1 rfl (by omega) (by decide) ?_
    refine V.iinc1 (pc := 167) dX9_blowOver_167 (by decide) rfl (st1_6 rfl) ?_
    refine V.goto 110 (pc := 170) dX9_blowOver_170 (by decide) ?_
    refine V.weak wk_7 ?_
    rw [nI_1]
    refine ih (j + 1) _ (by omega) ⟨fun b hb => by rw [up2_off hb]; exact hi.1 b hb, fun h y' h1 h2 => ?_⟩
    by_cases q : h = j
    · subst q; rw [up2_same]; rw [hy] at h2; cases h2; rfl
    · rw [up2_ne (by omega)]; exact hi.2 h y' (by omega) h2
theorem x_blow {g : gG} {d : Nat} {T : mT} {n : Nat} {I : mI} {J : mJ} {F : mF} {m u N s dy : Nat} {A : Ab} (v2 v3 v4 : Int32) (hSm : SmS T F m) (hS : SS T F u) (hum : u + 20 ≤ m) (hv2 : v2 = nI s) (hv3 : v3 = nI dy) (hv4 : v4 = nI N) (hs : s ≤ 1000000) (hd : dy + N ≤ 1000000) (hN : N ≤ 100) (hA : AbOK A) (hu2 : I u 2 = nI (hds (cor A)).length) (hH : ∀ (h : Nat) (y : Hd), (hds (cor A))[h]? = some y → HdX I J (u + 8 + 2 * h) y) : Ct g mX9_blowOver (d + 3) [.ref m, .ref u, .int v2, .int v3, .int v4] 0 0 T n I J F (fun r' T' n' I' J' F' => r' = some (.int (nI (allN s (N * (hds (cor A)).length)))) ∧ T' = T ∧ n' = n ∧ F' = F ∧ (∀ b, b ≠ m → b ≠ m + 1 → b ≠ m + 2 → I' b = I b) ∧ (∀ b, b ≠ m → J' b = J b) ∧ I' m 0 = nI (stmL (hds (cor A)) s dy N).length ∧ ∀ (h : Nat) (y : Nat × Nat), (stmL (hds (cor A)) s dy N)[h]? = some y → I' (m + 1) h = nI y.1 ∧ I' (m + 2) h = nI y.2) := by
  refine Ct.ofV (k := 3) (by decide) (Nat.le_of_ble_eq_true rfl) ?_
  show V g mX9_blowOver (d + 3) _ 0 0 0 [some (.ref m), some (.ref u), some (.int v2), some (.int v3), some (.int v4), none, none, none] [] T n I J F
  subst hv4
  have h6 := hA.1.1
  have hTu := hS.o
  refine V.aload_n (pc := 0) dX9_blowOver_0 rfl ?_
  refine V.iload_n (pc := 1) dX9_blowOver_1 rfl ?_
  refine V.i2l (pc := 2) dX9_blowOver_2 ?_
  rw [toL hv2 (by omega)]
  refine V.putJ (pc := 3) dX9_blowOver_3 fX9_22_8 (fun r h => by cases h; exact Or.inl rfl) rfl hSm.o ?_
  refine V.aload_n (pc := 6) dX9_blowOver_6 rfl ?_
  refine V.aload_n (pc := 7) dX9_blowOver_7 rfl ?_
  refine V.getI (pc := 8) dX9_blowOver_8 fX9_26_7 rfl (by assumption) ?_
  rw [hu2]
  refine V.putI (pc := 11) dX9_blowOver_11 fX9_9_8 (fun r h => by cases h; exact Or.inl rfl) rfl hSm.o ?_
  refine V.iconst (v := 0) (pc := 14) dX9_blowOver_14 (by decide) ?_
  refine V.is (pc := 15) dX9_blowOver_15 (by decide) (st1_5 rfl) ?_
  rw [L0]
  refine l_bzX hSm (fun I2 g1 g2 => ?_) 6 0 _ (by omega) ⟨fun _ _ => rfl, fun i h => absurd h (by omega)⟩
  refine V.iconst (v := 0) (pc := 38) dX9_blowOver_38 (by decide) ?_
  refine V.is (pc := 39) dX9_blowOver_39 (by decide) (st1_5 rfl) ?_
  refine V.iconst (v := 0) (pc := 41) dX9_blowOver_41 (by decide) ?_
  refine V.is (pc := 42) dX9_blowOver_42 (by decide) (st1_6 rfl) ?_
  have e0 : I2 m 0 = nI (hds (cor A)).length := by rw [g1 m (by omega), up2_same]
  refine Eq.mp (congrArg (fun v => V g mX9_blowOver (d + 3) _ 0 0 44 [some (.ref m), some (.ref u), some (.int v2), some (.int v3), some (.int (nI N)), some (.int v), some (.int (nI 0)), none] [] T n I2 (up2 J m 3 (lN s)) F) (show nI (allN s (0 * (hds (cor A)).length)) = 0 from by rw [Nat.zero_mul]; rfl)) (l_bdX (I := I2) (J := up2 J m 3 (lN s)) hSm hs h6 e0 hN (fun I3 J3 hSD => ?_) N 0 I2 _ (by omega) ⟨fun _ _ => rfl, fun h hh => by rw [g2 h (by omega)]; rfl, fun _ _ => rfl, by rw [up2_same]; simp [drw]⟩)
  refine V.iconst (v := 0) (pc := 107) dX9_blowOver_107 (by decide) ?_
  refine V.is (pc := 108) dX9_blowOver_108 (by decide) (st1_6 rfl) ?_
  refine l_beX (s := s) (dy := dy) hSm hS hum hv3 hd hN hA (by rw [hSD.1 m (by omega)]; exact e0) (by rw [hSD.1 u (by omega), g1 u (by omega), up2_off (by omega)]; exact hu2) (fun h hh => by rw [hSD.2.1 h hh]; rfl) (fun h y hy => (hH h y hy).congr2 (by have := (List.getElem?_eq_some_iff.mp hy).1; rw [hSD.1 _ (by omega), g1 _ (by omega), up2_off (by omega)]) (by have := (List.getElem?_eq_some_iff.mp hy).1; rw [hSD.1 _ (by omega), g1 _ (by omega), up2_off (by omega)]) (by have := (List.getElem?_eq_some_iff.mp hy).1; rw [hSD.2.2.1 _ (by omega), up2_off (by omega)])) (fun I4 k1 k2 => ?_) (hds (cor A)).length 0 I3 (by omega) ⟨fun _ _ => rfl, fun h _ hh => absurd hh (by omega)⟩
  refine V.iload (pc := 173) dX9_blowOver_173 rfl ?_
  exact V.iret (pc := 175) dX9_blowOver_175 rfl ⟨rfl, rfl, rfl, rfl, fun b b0 b1 b2 => by rw [k1 b b1, hSD.1 b b2, g1 b b2, up2_off b0], fun b b0 => by rw [hSD.2.2.1 b b0, up2_off b0], by rw [k1 m (by omega), hSD.1 m (by omega), e0, stmL_len], fun h z hz => by
                    obtain ⟨y, hy, hl, ex⟩ := stmL_get hz
                    rw [ex]
                    exact ⟨k2 h y hl hy, by rw [k1 _ (by omega), hSD.2.1 h hl]; rfl⟩⟩
theorem x_stMarkY {g : gG} {d : Nat} {T : mT} {n : Nat} {I : mI} {J : mJ} {F : mF} {m k : Nat} (v : Int32) (hSm : SmS T F m) (h0 : I m 0 = nI k) (hk : k ≤ 6) (q : 0 ≤ v.toInt ∧ v.toInt < k) : Ct g mX9_markOf (d + 0) [.ref m, .int v] 0 0 T n I J F (pureQ T n I J F (some (.int (I (m + 1) v.toInt.toNat)))) := by
  refine Ct.ofV (k := 0) (by decide) (Nat.le_of_ble_eq_true rfl) ?_
  show V g mX9_markOf (d + 0) _ 0 0 0 [some (.ref m), some (.int v)] [] T n I J F
  refine V.iload_n (pc := 0) dX9_markOf_0 rfl ?_
  refine V.if_lt 27 (pc := 1) dX9_markOf_1 (by decide) (fun h1 => absurd h1 (by rw [lt32]; show ¬ _ < (0 : Int); omega)) (fun h1 => ?_)
  refine V.iload_n (pc := 4) dX9_markOf_4 rfl ?_
  refine V.aload_n (pc := 5) dX9_markOf_5 rfl ?_
  refine V.getI (pc := 6) dX9_markOf_6 fX9_9_8 rfl hSm.o ?_
  rw [h0]
  refine V.icmp_ge 27 (pc := 9) dX9_markOf_9 (by decide) (fun h9 => absurd h9 (by rw [le32, nI_toInt (by omega)]; omega)) (fun h9 => ?_)
  refine V.iload_n (pc := 12) dX9_markOf_12 rfl ?_
  refine V.bipush (v := 6) (pc := 13) dX9_markOf_13 (by decide) ?_
  refine V.icmp_ge 27 (pc := 15) dX9_markOf_15 (by decide) (fun h15 => absurd h15 (by rw [le32]; show ¬ (6 : Int) ≤ _; omega)) (fun h15 => ?_)
  refine V.aload_n (pc := 18) dX9_markOf_18 rfl ?_
  refine V.getR (pc := 19) dX9_markOf_19 fX9_15_8 rfl hSm.o hSm.f1 ?_
  refine V.iload_n (pc := 22) dX9_markOf_22 rfl ?_
  refine V.iald' (k := v.toInt.toNat) (pc := 23) dX9_markOf_23 hSm.t1 (nIx q.1 rfl) (by omega) (by decide) ?_
  refine V.goto 28 (pc := 24) dX9_markOf_24 (by decide) ?_
  exact V.iret (pc := 28) dX9_markOf_28 rfl ⟨rfl, rfl, rfl, rfl, rfl, rfl⟩
theorem x_stMarkN {g : gG} {d : Nat} {T : mT} {n : Nat} {I : mI} {J : mJ} {F : mF} {m k : Nat} (v : Int32) (hSm : SmS T F m) (h0 : I m 0 = nI k) (hk : k ≤ 6) (q : ¬ (0 ≤ v.toInt ∧ v.toInt < k)) : Ct g mX9_markOf (d + 0) [.ref m, .int v] 0 0 T n I J F (pureQ T n I J F (some (.int (-1)))) := by
  refine Ct.ofV (k := 0) (by decide) (Nat.le_of_ble_eq_true rfl) ?_
  show V g mX9_markOf (d + 0) _ 0 0 0 [some (.ref m), some (.int v)] [] T n I J F
  refine V.iload_n (pc := 0) dX9_markOf_0 rfl ?_
  refine V.if_lt 27 (pc := 1) dX9_markOf_1 (by decide) (fun h1 => ?_) (fun h1 => ?_)
  · refine V.iconst (v := (-1)) (pc := 27) dX9_markOf_27 (by decide) ?_
    exact V.iret (pc := 28) dX9_markOf_28 rfl ⟨rfl, rfl, rfl, rfl, rfl, rfl⟩
  · have q0 : 0 ≤ v.toInt := by
      rw [lt32] at h1
      have e0 : (0 : Int32).toInt = 0 := rfl
      omega
    refine V.iload_n (pc := 4) dX9_markOf_4 rfl ?_
    refine V.aload_n (pc := 5) dX9_markOf_5 rfl ?_
    refine V.getI (pc := 6) dX9_markOf_6 fX9_9_8 rfl hSm.o ?_
    rw [h0]
    refine V.icmp_ge 27 (pc := 9) dX9_markOf_9 (by decide) (fun h9 => ?_) (fun h9 => absurd (by rw [le32, nI_toInt (by omega)]; omega) h9)
    refine V.iconst (v := (-1)) (pc := 27) dX9_markOf_27 (by decide) ?_
    exact V.iret (pc := 28) dX9_markOf_28 rfl ⟨rfl, rfl, rfl, rfl, rfl, rfl⟩
theorem x_stLostY {g : gG} {d : Nat} {T : mT} {n : Nat} {I : mI} {J : mJ} {F : mF} {m k : Nat} (v : Int32) (hSm : SmS T F m) (h0 : I m 0 = nI k) (hk : k ≤ 6) (q : 0 ≤ v.toInt ∧ v.toInt < k) : Ct g mX9_lostBy (d + 0) [.ref m, .int v] 0 0 T n I J F (pureQ T n I J F (some (.int (I (m + 2) v.toInt.toNat)))) := by
  refine Ct.ofV (k := 0) (by decide) (Nat.le_of_ble_eq_true rfl) ?_
  show V g mX9_lostBy (d + 0) _ 0 0 0 [some (.ref m), some (.int v)] [] T n I J F
  refine V.iload_n (pc := 0) dX9_lostBy_0 rfl ?_
  refine V.if_lt 27 (pc := 1) dX9_lostBy_1 (by decide) (fun h1 => absurd h1 (by rw [lt32]; show ¬ _ < (0 : Int); omega)) (fun h1 => ?_)
  refine V.iload_n (pc := 4) dX9_lostBy_4 rfl ?_
  refine V.aload_n (pc := 5) dX9_lostBy_5 rfl ?_
  refine V.getI (pc := 6) dX9_lostBy_6 fX9_9_8 rfl hSm.o ?_
  rw [h0]
  refine V.icmp_ge 27 (pc := 9) dX9_lostBy_9 (by decide) (fun h9 => absurd h9 (by rw [le32, nI_toInt (by omega)]; omega)) (fun h9 => ?_)
  refine V.iload_n (pc := 12) dX9_lostBy_12 rfl ?_
  refine V.bipush (v := 6) (pc := 13) dX9_lostBy_13 (by decide) ?_
  refine V.icmp_ge 27 (pc := 15) dX9_lostBy_15 (by decide) (fun h15 => absurd h15 (by rw [le32]; show ¬ (6 : Int) ≤ _; omega)) (fun h15 => ?_)
  refine V.aload_n (pc := 18) dX9_lostBy_18 rfl ?_
  refine V.getR (pc := 19) dX9_lostBy_19 fX9_19_8 rfl hSm.o hSm.f2 ?_
  refine V.iload_n (pc := 22) dX9_lostBy_22 rfl ?_
  refine V.iald' (k := v.toInt.toNat) (pc := 23) dX9_lostBy_23 hSm.t2 (nIx q.1 rfl) (by omega) (by decide) ?_
  refine V.goto 28 (pc := 24) dX9_lostBy_24 (by decide) ?_
  exact V.iret (pc := 28) dX9_lostBy_28 rfl ⟨rfl, rfl, rfl, rfl, rfl, rfl⟩
theorem x_stLostN {g : gG} {d : Nat} {T : mT} {n : Nat} {I : mI} {J : mJ} {F : mF} {m k : Nat} (v : Int32) (hSm : SmS T F m) (h0 : I m 0 = nI k) (hk : k ≤ 6) (q : ¬ (0 ≤ v.toInt ∧ v.toInt < k)) : Ct g mX9_lostBy (d + 0) [.ref m, .int v] 0 0 T n I J F (pureQ T n I J F (some (.int (-1)))) := by
  refine Ct.ofV (k := 0) (by decide) (Nat.le_of_ble_eq_true rfl) ?_
  show V g mX9_lostBy (d + 0) _ 0 0 0 [some (.ref m), some (.int v)] [] T n I J F
  refine V.iload_n (pc := 0) dX9_lostBy_0 rfl ?_
  refine V.if_lt 27 (pc := 1) dX9_lostBy_1 (by decide) (fun h1 => ?_) (fun h1 => ?_)
  · refine V.iconst (v := (-1)) (pc := 27) dX9_lostBy_27 (by decide) ?_
    exact V.iret (pc := 28) dX9_lostBy_28 rfl ⟨rfl, rfl, rfl, rfl, rfl, rfl⟩
  · have q0 : 0 ≤ v.toInt := by
      rw [lt32] at h1
      have e0 : (0 : Int32).toInt = 0 := rfl
      omega
    refine V.iload_n (pc := 4) dX9_lostBy_4 rfl ?_
    refine V.aload_n (pc := 5) dX9_lostBy_5 rfl ?_
    refine V.getI (pc := 6) dX9_lostBy_6 fX9_9_8 rfl hSm.o ?_
    rw [h0]
    refine V.icmp_ge 27 (pc := 9) dX9_lostBy_9 (by decide) (fun h9 => ?_) (fun h9 => absurd (by rw [le32, nI_toInt (by omega)]; omega) h9)
    refine V.iconst (v := (-1)) (pc := 27) dX9_lostBy_27 (by decide) ?_
    exact V.iret (pc := 28) dX9_lostBy_28 rfl ⟨rfl, rfl, rfl, rfl, rfl, rfl⟩
theorem y_storm {g : gG} {d : Nat} {T : mT} {n : Nat} {I : mI} {J : mJ} {F : mF} {x : Nat} {A : Ab} (v dy nn : Int32) (hX : XS T F x) (hA : AbOK A) (hR : RepX T I J F x A)  : Ct g mX11_storm (d + 4) [.ref x, .int v, .int dy, .int nn] 0 0 T n I J F (QX x T n I J F (some (.int (iI (s_storm A v.toInt dy.toInt nn.toInt).1))) (s_storm A v.toInt dy.toInt nn.toInt).2) := by
  refine Ct.ofV (k := 0) (by decide) (Nat.le_of_ble_eq_true rfl) ?_
  show V g mX11_storm (d + 4) _ 0 0 0 [some (.ref x), some (.int v), some (.int dy), some (.int nn)] [] T n I J F
  have hTo := hX.s.o
  have e0 : (0 : Int32).toInt = 0 := rfl
  have e1 : (1 : Int32).toInt = 1 := rfl
  have e100 : (100 : Int32).toInt = 100 := rfl
  have eM : (1000000 : Int32).toInt = 1000000 := rfl
  have hSm := hX.sm
  have hTm := hSm.o
  refine V.iload_n (pc := 0) dX11_storm_0 rfl ?_
  refine V.if_lt 17 (pc := 1) dX11_storm_1 (by decide) (fun h1 => ?_) (fun h1 => ?_)
  · rw [lt32] at h1
    refine V.aload_n (pc := 17) dX11_storm_17 rfl ?_
    refine V.iconst (v := (-1)) (pc := 18) dX11_storm_18 (by decide) ?_
    refine V.invV0 (as := [_]) (pc := 19) dX11_storm_19 lX11_85 bX11_refuse nX11_refuse (ci := 10) rfl eX11_refuse hX.o (x_refuse1 (d := d + 3) hX) (by omega) rfl (Nat.le_of_ble_eq_true rfl) ?_
    rintro _ _ _ _ _ _ ⟨rfl, rfl, rfl, rfl, rfl, rfl⟩
    exact V.iret (pc := 22) dX11_storm_22 rfl (QX.no 0 (-1) (by decide) hX hA hR FrX.rf FrX.rf (by omega) (by rw [s_storm, if_neg (show ¬ (((0 ≤ v.toInt ∧ v.toInt ≤ 1000000) ∧ (0 ≤ dy.toInt ∧ dy.toInt ≤ 1000000)) ∧ ((1 ≤ nn.toInt ∧ nn.toInt ≤ 100) ∧ dy.toInt + nn.toInt ≤ 1000000)) by omega)]))
  · rw [lt32] at h1
    refine V.iload_n (pc := 4) dX11_storm_4 rfl ?_
    refine V.ldc (pc := 5) dX11_storm_5 qX11_139 ?_
    refine V.icmp_gt 17 (pc := 7) dX11_storm_7 (by decide) (fun h7 => ?_) (fun h7 => ?_)
    · rw [lt32] at h7
      refine V.aload_n (pc := 17) dX11_storm_17 rfl ?_
      refine V.iconst (v := (-1)) (pc := 18) dX11_storm_18 (by decide) ?_
      refine V.invV0 (as := [_]) (pc := 19) dX11_storm_19 lX11_85 bX11_refuse nX11_refuse (ci := 10) rfl eX11_refuse hX.o (x_refuse1 (d := d + 3) hX) (by omega) rfl (Nat.le_of_ble_eq_true rfl) ?_
      rintro _ _ _ _ _ _ ⟨rfl, rfl, rfl, rfl, rfl, rfl⟩
      exact V.iret (pc := 22) dX11_storm_22 rfl (QX.no 0 (-1) (by decide) hX hA hR FrX.rf FrX.rf (by omega) (by rw [s_storm, if_neg (show ¬ (((0 ≤ v.toInt ∧ v.toInt ≤ 1000000) ∧ (0 ≤ dy.toInt ∧ dy.toInt ≤ 1000000)) ∧ ((1 ≤ nn.toInt ∧ nn.toInt ≤ 100) ∧ dy.toInt + nn.toInt ≤ 1000000)) by omega)]))
    · rw [lt32] at h7
      refine V.iload_n (pc := 10) dX11_storm_10 rfl ?_
      refine V.pS (as := [_]) (pc := 11) dX11_storm_11 lX11_173 bX11_isDay sX11_isDay (x_isDay (d := d + 3) _) (by omega) rfl (Nat.le_of_ble_eq_true rfl) ?_
      refine V.if_ne 23 (pc := 14) dX11_storm_14 (by decide) (fun h14 => ?_) (fun h14 => ?_)
      · have qd := bi_ne.mp h14
        have hd1 := nIx (x := dy) qd.1 rfl
        refine V.iload_n (pc := 23) dX11_storm_23 rfl ?_
        refine V.iconst (v := 1) (pc := 24) dX11_storm_24 (by decide) ?_
        refine V.icmp_lt 42 (pc := 25) dX11_storm_25 (by decide) (fun h25 => ?_) (fun h25 => ?_)
        · rw [lt32] at h25
          refine V.aload_n (pc := 42) dX11_storm_42 rfl ?_
          refine V.iconst (v := (-1)) (pc := 43) dX11_storm_43 (by decide) ?_
          refine V.invV0 (as := [_]) (pc := 44) dX11_storm_44 lX11_85 bX11_refuse nX11_refuse (ci := 10) rfl eX11_refuse hX.o (x_refuse1 (d := d + 3) hX) (by omega) rfl (Nat.le_of_ble_eq_true rfl) ?_
          rintro _ _ _ _ _ _ ⟨rfl, rfl, rfl, rfl, rfl, rfl⟩
          exact V.iret (pc := 47) dX11_storm_47 rfl (QX.no 0 (-1) (by decide) hX hA hR FrX.rf FrX.rf (by omega) (by rw [s_storm, if_neg (show ¬ (((0 ≤ v.toInt ∧ v.toInt ≤ 1000000) ∧ (0 ≤ dy.toInt ∧ dy.toInt ≤ 1000000)) ∧ ((1 ≤ nn.toInt ∧ nn.toInt ≤ 100) ∧ dy.toInt + nn.toInt ≤ 1000000)) by omega)]))
        · rw [lt32] at h25
          refine V.iload_n (pc := 28) dX11_storm_28 rfl ?_
          refine V.bipush (v := 100) (pc := 29) dX11_storm_29 (by decide) ?_
          refine V.icmp_gt 42 (pc := 31) dX11_storm_31 (by decide) (fun h31 => ?_) (fun h31 => ?_)
          · rw [lt32] at h31
            refine V.aload_n (pc := 42) dX11_storm_42 rfl ?_
            refine V.iconst (v := (-1)) (pc := 43) dX11_storm_43 (by decide) ?_
            refine V.invV0 (as := [_]) (pc := 44) dX11_storm_44 lX11_85 bX11_refuse nX11_refuse (ci := 10) rfl eX11_refuse hX.o (x_refuse1 (d := d + 3) hX) (by omega) rfl (Nat.le_of_ble_eq_true rfl) ?_
            rintro _ _ _ _ _ _ ⟨rfl, rfl, rfl, rfl, rfl, rfl⟩
            exact V.iret (pc := 47) dX11_storm_47 rfl (QX.no 0 (-1) (by decide) hX hA hR FrX.rf FrX.rf (by omega) (by rw [s_storm, if_neg (show ¬ (((0 ≤ v.toInt ∧ v.toInt ≤ 1000000) ∧ (0 ≤ dy.toInt ∧ dy.toInt ≤ 1000000)) ∧ ((1 ≤ nn.toInt ∧ nn.toInt ≤ 100) ∧ dy.toInt + nn.toInt ≤ 1000000)) by omega)]))
          · rw [lt32] at h31
            have hn1 := nIx (x := nn) (by omega) rfl
            have hs1 := nIx (x := v) (by omega) rfl
            refine V.iload_n (pc := 34) dX11_storm_34 rfl ?_
            refine V.iload_n (pc := 35) dX11_storm_35 rfl ?_
            refine V.iadd (pc := 36) dX11_storm_36 ?_
            rw [show dy + nn = nI (dy.toInt.toNat + nn.toInt.toNat) from by rw [← nI_add, ← hd1, ← hn1]]
            refine V.ldc (pc := 37) dX11_storm_37 qX11_139 ?_
            refine V.icmp_le 48 (pc := 39) dX11_storm_39 (by decide) (fun h39 => ?_) (fun h39 => ?_)
            · rw [le32, nI_toInt (by omega)] at h39
              refine V.aload_n (pc := 48) dX11_storm_48 rfl ?_
              refine V.aload_n (pc := 49) dX11_storm_49 rfl ?_
              refine V.getR (pc := 50) dX11_storm_50 fX11_78_10 rfl hX.o hX.f13 ?_
              refine V.aload_n (pc := 53) dX11_storm_53 rfl ?_
              refine V.getR (pc := 54) dX11_storm_54 fX11_10_10 rfl hX.o hX.f0 ?_
              refine V.iload_n (pc := 57) dX11_storm_57 rfl ?_
              refine V.iload_n (pc := 58) dX11_storm_58 rfl ?_
              refine V.iload_n (pc := 59) dX11_storm_59 rfl ?_
              refine V.invV0 (as := [_, _, _, _]) (pc := 60) dX11_storm_60 lX11_294 bX9_blowOver nX9_blowOver (ci := 8) rfl eX9_blowOver (by assumption) (x_blow (d := d + 0) (s := v.toInt.toNat) (dy := dy.toInt.toNat) (N := nn.toInt.toNat) (A := A) _ _ _ hSm hX.s (by omega) hs1 hd1 hn1 (by omega) (by omega) (by omega) hA hR.h2 (fun h y hy => hR.hd hy)) (by omega) rfl (Nat.le_of_ble_eq_true rfl) ?_
              rintro _ _ _ I2 J2 _ ⟨rfl, rfl, rfl, rfl, k1, k2, k3, k4⟩
              refine V.invV0 (as := [_]) (pc := 63) dX11_storm_63 lX11_92 bX11_accept nX11_accept (ci := 10) rfl eX11_accept hX.o (x_accept (d := d + 3) _ hX) (by omega) rfl (Nat.le_of_ble_eq_true rfl) ?_
              rintro _ _ _ _ _ _ ⟨rfl, rfl, rfl, rfl, rfl, rfl⟩
              exact V.iret (pc := 66) dX11_storm_66 rfl (by
                    rw [s_storm, if_pos (show ((0 ≤ v.toInt ∧ v.toInt ≤ 1000000) ∧ (0 ≤ dy.toInt ∧ dy.toInt ≤ 1000000)) ∧ ((1 ≤ nn.toInt ∧ nn.toInt ≤ 100) ∧ dy.toInt + nn.toInt ≤ 1000000) by omega), iI_nat]
                    have hR2 := hR.storm hA k1 k2 k3 k4
                    refine QX.mk' hX (FrX.up (fun b b1 b2 => k1 b (by omega) (by omega) (by omega)) (by omega)) (fun b b1 b2 => k2 b (by omega)) (hR2.accept ⟨hA.1, hA.2.1, hA.2.2.1, hA.2.2.2.1, ?_⟩)
                    show (stmL _ _ _ _).length ≤ 6
                    rw [stmL_len]; exact hA.1.1)
            · rw [le32, nI_toInt (by omega)] at h39
              refine V.aload_n (pc := 42) dX11_storm_42 rfl ?_
              refine V.iconst (v := (-1)) (pc := 43) dX11_storm_43 (by decide) ?_
              refine V.invV0 (as := [_]) (pc := 44) dX11_storm_44 lX11_85 bX11_refuse nX11_refuse (ci := 10) rfl eX11_refuse hX.o (x_refuse1 (d := d + 3) hX) (by omega) rfl (Nat.le_of_ble_eq_true rfl) ?_
              rintro _ _ _ _ _ _ ⟨rfl, rfl, rfl, rfl, rfl, rfl⟩
              exact V.iret (pc := 47) dX11_storm_47 rfl (QX.no 0 (-1) (by decide) hX hA hR FrX.rf FrX.rf (by omega) (by rw [s_storm, if_neg (show ¬ (((0 ≤ v.toInt ∧ v.toInt ≤ 1000000) ∧ (0 ≤ dy.toInt ∧ dy.toInt ≤ 1000000)) ∧ ((1 ≤ nn.toInt ∧ nn.toInt ≤ 100) ∧ dy.toInt + nn.toInt ≤ 1000000)) by omega)]))
      · have qd := bi_eq.mp h14
        refine V.aload_n (pc := 17) dX11_storm_17 rfl ?_
        refine V.iconst (v := (-1)) (pc := 18) dX11_storm_18 (by decide) ?_
        refine V.invV0 (as := [_]) (pc := 19) dX11_storm_19 lX11_85 bX11_refuse nX11_refuse (ci := 10) rfl eX11_refuse hX.o (x_refuse1 (d := d + 3) hX) (by omega) rfl (Nat.le_of_ble_eq_true rfl) ?_
        rintro _ _ _ _ _ _ ⟨rfl, rfl, rfl, rfl, rfl, rfl⟩
        exact V.iret (pc := 22) dX11_storm_22 rfl (QX.no 0 (-1) (by decide) hX hA hR FrX.rf FrX.rf (by omega) (by rw [s_storm, if_neg (show ¬ (((0 ≤ v.toInt ∧ v.toInt ≤ 1000000) ∧ (0 ≤ dy.toInt ∧ dy.toInt ≤ 1000000)) ∧ ((1 ≤ nn.toInt ∧ nn.toInt ≤ 100) ∧ dy.toInt + nn.toInt ≤ 1000000)) by omega)]))
theorem y_stormed {g : gG} {d : Nat} {T : mT} {n : Nat} {I : mI} {J : mJ} {F : mF} {x : Nat} {A : Ab} (v w : Int32) (hX : XS T F x) (hA : AbOK A) (hR : RepX T I J F x A)  : Ct g mX11_stormed (d + 4) [.ref x, .int v, .int w] 0 0 T n I J F (QX x T n I J F (some (.int (iI (s_stormed A v.toInt w.toInt)))) A) := by
  refine Ct.ofV (k := 0) (by decide) (Nat.le_of_ble_eq_true rfl) ?_
  show V g mX11_stormed (d + 4) _ 0 0 0 [some (.ref x), some (.int v), some (.int w)] [] T n I J F
  have hTo := hX.s.o
  have hSm := hX.sm
  have hTm := hSm.o
  refine V.iload_n (pc := 0) dX11_stormed_0 rfl ?_
  refine V.gen (fun y1 ey1 => ?_)
  by_cases c1_0 : y1 = 0
  · rw [c1_0] at ey1 ⊢
    refine V.lsw 28 (pc := 1) dX11_stormed_1 (by decide) (off := 27) (by decide) (by decide) ?_
    refine V.aload_n (pc := 28) dX11_stormed_28 rfl ?_
    refine V.getR (pc := 29) dX11_stormed_29 fX11_78_10 rfl hX.o hX.f13 ?_
    refine V.iload_n (pc := 32) dX11_stormed_32 rfl ?_
    by_cases q : 0 ≤ v.toInt ∧ v.toInt < (stm A).length
    · have hg := List.getElem?_eq_getElem (show v.toInt.toNat < (stm A).length by omega)
      obtain ⟨r1, r2⟩ := hR.2.2.2.2.2.2.2 _ _ hg
      refine V.pV (as := [_]) (pc := 33) dX11_stormed_33 lX11_298 bX9_markOf nX9_markOf (ci := 8) rfl eX9_markOf (by assumption) (x_stMarkY (d := d + 3) (k := (stm A).length) _ hSm hR.2.2.2.2.2.2.1 hA.2.2.2.2 q) (by omega) rfl (Nat.le_of_ble_eq_true rfl) ?_
      exact V.iret (pc := 36) dX11_stormed_36 rfl (QX.q hX hR (by rw [s_stormed, if_pos q, if_pos (show w.toInt = 0 by rw [← ey1]; rfl), iI_nat, getD_some hg]; exact congrArg (fun z => some (Value.int z)) r1))
    · refine V.pV (as := [_]) (pc := 33) dX11_stormed_33 lX11_298 bX9_markOf nX9_markOf (ci := 8) rfl eX9_markOf (by assumption) (x_stMarkN (d := d + 3) (k := (stm A).length) _ hSm hR.2.2.2.2.2.2.1 hA.2.2.2.2 q) (by omega) rfl (Nat.le_of_ble_eq_true rfl) ?_
      exact V.iret (pc := 36) dX11_stormed_36 rfl (QX.q hX hR (by rw [s_stormed, if_neg q]; rfl))
  by_cases c1_1 : y1 = 1
  · rw [c1_1] at ey1 ⊢
    refine V.lsw 37 (pc := 1) dX11_stormed_1 (by decide) (off := 36) (by decide) (by decide) ?_
    refine V.aload_n (pc := 37) dX11_stormed_37 rfl ?_
    refine V.getR (pc := 38) dX11_stormed_38 fX11_78_10 rfl hX.o hX.f13 ?_
    refine V.iload_n (pc := 41) dX11_stormed_41 rfl ?_
    by_cases q : 0 ≤ v.toInt ∧ v.toInt < (stm A).length
    · have hg := List.getElem?_eq_getElem (show v.toInt.toNat < (stm A).length by omega)
      obtain ⟨r1, r2⟩ := hR.2.2.2.2.2.2.2 _ _ hg
      refine V.pV (as := [_]) (pc := 42) dX11_stormed_42 lX11_301 bX9_lostBy nX9_lostBy (ci := 8) rfl eX9_lostBy (by assumption) (x_stLostY (d := d + 3) (k := (stm A).length) _ hSm hR.2.2.2.2.2.2.1 hA.2.2.2.2 q) (by omega) rfl (Nat.le_of_ble_eq_true rfl) ?_
      exact V.iret (pc := 45) dX11_stormed_45 rfl (QX.q hX hR (by rw [s_stormed, if_pos q, if_neg (show ¬ w.toInt = 0 by rw [← ey1]; decide), if_pos (show w.toInt = 1 by rw [← ey1]; rfl), iI_nat, getD_some hg]; exact congrArg (fun z => some (Value.int z)) r2))
    · refine V.pV (as := [_]) (pc := 42) dX11_stormed_42 lX11_301 bX9_lostBy nX9_lostBy (ci := 8) rfl eX9_lostBy (by assumption) (x_stLostN (d := d + 3) (k := (stm A).length) _ hSm hR.2.2.2.2.2.2.1 hA.2.2.2.2 q) (by omega) rfl (Nat.le_of_ble_eq_true rfl) ?_
      exact V.iret (pc := 45) dX11_stormed_45 rfl (QX.q hX hR (by rw [s_stormed, if_neg q]; rfl))
  have q1_0 : ¬ 0 = y1.toInt := fun e => c1_0 ((eq32 _ _).mpr (e.symm.trans (by decide)))
  have q1_1 : ¬ 1 = y1.toInt := fun e => c1_1 ((eq32 _ _).mpr (e.symm.trans (by decide)))
  refine V.lsw 46 (pc := 1) dX11_stormed_1 (by decide) (off := 45) (by simp [Op.lookupswitch.offset, q1_0, Ne.symm q1_0, q1_1, Ne.symm q1_1]) (by decide) ?_
  refine V.iconst (v := (-1)) (pc := 46) dX11_stormed_46 (by decide) ?_
  exact V.iret (pc := 47) dX11_stormed_47 rfl (QX.q hX hR (by rw [s_stormed, ← ey1, if_neg (Ne.symm q1_0), if_neg (Ne.symm q1_1)]; split <;> rfl))
