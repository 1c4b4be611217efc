theorem cpl_is {s t : List (Nat × Nat)} {j : Nat} (h1 : j ≤ s.length) (h2 : j ≤ t.length) (hp : ∀ i, i < j → s.getD i (0, 0) = t.getD i (0, 0)) (he : j = s.length ∨ j = t.length ∨ s.getD j (0, 0) ≠ t.getD j (0, 0)) : cpl s t = j := by
  have a : ¬ j < cpl s t := fun z => by
    obtain ⟨a, b, c⟩ := (cpl_lt s t j).mp z
    rcases he with e | e | e
    · omega
    · omega
    · exact e (c j (Nat.le_refl _))
  by_cases j0 : j = 0
  · omega
  · have b := (cpl_lt s t (j - 1)).mpr ⟨by omega, by omega, fun i hi => hp i (by omega)⟩
    omega
theorem l_pairsAlike {g : gG} {d : Nat} {T : mT} {n : Nat} {I : mI} {J : mJ} {F : mF} {Q : mQ} {a b : Nat} {y yo : Hd} (hN : HN T F a) (hNo : HN T F b) (hY : HdOK y) (hYo : HdOK yo) (hW : HdX I J a y) (hWo : HdX I J b yo) : ∀ (t j : Nat) , j + t = min y.2.2.2.length yo.2.2.2.length → ((∀ i, i < j → y.2.2.2.getD i (0, 0) = yo.2.2.2.getD i (0, 0)) ∧ Q (some (.int (nI (cpl y.2.2.2 yo.2.2.2)))) T n I J F) → V g mX1_pairsAlike (d + 1) Q 0 0 4 [some (.ref a), some (.ref b), some (.int (nI j)), some (.int (nI j))] [] T n I J F := by
  intro t
  induction t with
  | zero =>
    intro j  hj hi
    obtain rfl : j = min y.2.2.2.length yo.2.2.2.length := by omega
    have hTb := hNo.o
    have h4 := hY.2.2.2.2.1
    have h4o := hYo.2.2.2.2.1
    refine V.iload_n (pc := 4) dX1_pairsAlike_4 rfl ?_
    refine V.aload_n (pc := 5) dX1_pairsAlike_5 rfl ?_
    refine V.getI (pc := 6) dX1_pairsAlike_6 fX1_21_1 rfl hN.o ?_
    rw [hW.2.2.2.1]
    refine V.aload_n (pc := 9) dX1_pairsAlike_9 rfl ?_
    refine V.getI (pc := 10) dX1_pairsAlike_10 fX1_21_1 rfl (by assumption) ?_
    rw [hWo.2.2.2.1]
    refine V.mmin (pc := 13) dX1_pairsAlike_13 lX1_77 (by omega) (Nat.le_of_ble_eq_true rfl) ?_
    rw [nI_min (by omega) (by omega)]
    refine V.icmp_ge 68 (pc := 16) dX1_pairsAlike_16 (by decide) (fun h16 => ?_) (fun h16 => absurd (nI_le (Nat.le_refl _) (by omega)) h16)
    refine V.iload_n (pc := 68) dX1_pairsAlike_68 rfl ?_
    exact V.iret (pc := 69) dX1_pairsAlike_69 rfl (by have e : cpl y.2.2.2 yo.2.2.2 = min y.2.2.2.length yo.2.2.2.length := cpl_is (by omega) (by omega) hi.1 (by omega); have z := hi.2; rw [e] at z; exact z)
  | succ t ih =>
    intro j  hj hi
    have hTb := hNo.o
    have h4 := hY.2.2.2.2.1
    have h4o := hYo.2.2.2.2.1
    obtain ⟨q, hq⟩ : ∃ q, y.2.2.2[j]? = some q := ⟨_, List.getElem?_eq_getElem (by omega)⟩
    obtain ⟨r, hr⟩ : ∃ r, yo.2.2.2[j]? = some r := ⟨_, List.getElem?_eq_getElem (by omega)⟩
    obtain ⟨hq1, hq2⟩ := hW.2.2.2.2.1 j q hq
    obtain ⟨hr1, hr2⟩ := hWo.2.2.2.2.1 j r hr
    have hqb := hY.2.2.2.2.2 q (List.mem_of_getElem? hq)
    have hrb := hYo.2.2.2.2.2 r (List.mem_of_getElem? hr)
    refine V.iload_n (pc := 4) dX1_pairsAlike_4 rfl ?_
    refine V.aload_n (pc := 5) dX1_pairsAlike_5 rfl ?_
    refine V.getI (pc := 6) dX1_pairsAlike_6 fX1_21_1 rfl hN.o ?_
    rw [hW.2.2.2.1]
    refine V.aload_n (pc := 9) dX1_pairsAlike_9 rfl ?_
    refine V.getI (pc := 10) dX1_pairsAlike_10 fX1_21_1 rfl (by assumption) ?_
    rw [hWo.2.2.2.1]
    refine V.mmin (pc := 13) dX1_pairsAlike_13 lX1_77 (by omega) (Nat.le_of_ble_eq_true rfl) ?_
    rw [nI_min (by omega) (by omega)]
    refine V.icmp_ge 68 (pc := 16) dX1_pairsAlike_16 (by decide) (fun h16 => absurd h16 (nI_ge (by omega) (by omega))) (fun h16 => ?_)
    refine V.aload_n (pc := 19) dX1_pairsAlike_19 rfl ?_
    refine V.iconst (v := 2) (pc := 20) dX1_pairsAlike_20 (by decide) ?_
    refine V.iload_n (pc := 21) dX1_pairsAlike_21 rfl ?_
    refine V.imul (pc := 22) dX1_pairsAlike_22 ?_
    refine V.pV (as := [_]) (pc := 23) dX1_pairsAlike_23 lX1_65 bX1_teethAt nX1_teethAt (ci := 1) rfl eX1_teethAt hN.o (x_teethAtY (d := d + 0) (k := 2 * j) (y := y) _ hN hW.2.2.2.1 h4 (by simp only [L2, pk_mul]) (by omega)) (by omega) rfl (Nat.le_of_ble_eq_true rfl) ?_
    rw [hq1]
    refine V.aload_n (pc := 26) dX1_pairsAlike_26 rfl ?_
    refine V.iconst (v := 2) (pc := 27) dX1_pairsAlike_27 (by decide) ?_
    refine V.iload_n (pc := 28) dX1_pairsAlike_28 rfl ?_
    refine V.imul (pc := 29) dX1_pairsAlike_29 ?_
    refine V.pV (as := [_]) (pc := 30) dX1_pairsAlike_30 lX1_65 bX1_teethAt nX1_teethAt (ci := 1) rfl eX1_teethAt (by assumption) (x_teethAtY (d := d + 0) (k := 2 * j) (y := yo) _ hNo hWo.2.2.2.1 h4o (by simp only [L2, pk_mul]) (by omega)) (by omega) rfl (Nat.le_of_ble_eq_true rfl) ?_
    rw [hr1]
    refine V.icmp_ne 57 (pc := 33) dX1_pairsAlike_33 (by decide) (fun h33 => ?_) (fun h33 => ?_)
    · rw [nI_eq (by omega) (by omega)] at h33
      refine V.iload_n (pc := 57) dX1_pairsAlike_57 rfl ?_
      exact V.iret (pc := 58) dX1_pairsAlike_58 rfl (by have e : cpl y.2.2.2 yo.2.2.2 = j := cpl_is (by omega) (by omega) hi.1 (Or.inr (Or.inr (by rw [getD_some hq, getD_some hr]; intro e; exact h33 (congrArg Prod.fst e)))); have z := hi.2; rw [e] at z; exact z)
    · rw [nI_eq (by omega) (by omega)] at h33
      refine V.aload_n (pc := 36) dX1_pairsAlike_36 rfl ?_
      refine V.iconst (v := 2) (pc := 37) dX1_pairsAlike_37 (by decide) ?_
      refine V.iload_n (pc := 38) dX1_pairsAlike_38 rfl ?_
      refine V.imul (pc := 39) dX1_pairsAlike_39 ?_
      refine V.iconst (v := 1) (pc := 40) dX1_pairsAlike_40 (by decide) ?_
      refine V.iadd (pc := 41) dX1_pairsAlike_41 ?_
      refine V.pV (as := [_]) (pc := 42) dX1_pairsAlike_42 lX1_65 bX1_teethAt nX1_teethAt (ci := 1) rfl eX1_teethAt hN.o (x_teethAtY (d := d + 0) (k := 2 * j + 1) (y := y) _ hN hW.2.2.2.1 h4 (by simp only [L2, L1, pk_mul, nI_add]) (by omega)) (by omega) rfl (Nat.le_of_ble_eq_true rfl) ?_
      rw [hq2]
      refine V.aload_n (pc := 45) dX1_pairsAlike_45 rfl ?_
      refine V.iconst (v := 2) (pc := 46) dX1_pairsAlike_46 (by decide) ?_
      refine V.iload_n (pc := 47) dX1_pairsAlike_47 rfl ?_
      refine V.imul (pc := 48) dX1_pairsAlike_48 ?_
      refine V.iconst (v := 1) (pc := 49) dX1_pairsAlike_49 (by decide) ?_
      refine V.iadd (pc := 50) dX1_pairsAlike_50 ?_
      refine V.pV (as := [_]) (pc := 51) dX1_pairsAlike_51 lX1_65 bX1_teethAt nX1_teethAt (ci := 1) rfl eX1_teethAt (by assumption) (x_teethAtY (d := d + 0) (k := 2 * j + 1) (y := yo) _ hNo hWo.2.2.2.1 h4o (by simp only [L2, L1, pk_mul, nI_add]) (by omega)) (by omega) rfl (Nat.le_of_ble_eq_true rfl) ?_
      rw [hr2]
      refine V.icmp_eq 59 (pc := 54) dX1_pairsAlike_54 (by decide) (fun h54 => ?_) (fun h54 => ?_)
      · rw [nI_eq (by omega) (by omega)] at h54
        refine V.iinc1 (pc := 59) dX1_pairsAlike_59 (by decide) rfl (st1_2 rfl) ?_
        refine V.iinc1 (pc := 62) dX1_pairsAlike_62 (by decide) rfl (st1_3 rfl) ?_
        refine V.goto 4 (pc := 65) dX1_pairsAlike_65 (by decide) ?_
        rw [nI_1]
        refine ih (j + 1) (by omega) ⟨fun i h => ?_, hi.2⟩
        by_cases e : i = j
        · subst e; rw [getD_some hq, getD_some hr]; exact Prod.ext h33 h54
        · exact hi.1 i (by omega)
      · rw [nI_eq (by omega) (by omega)] at h54
        refine V.iload_n (pc := 57) dX1_pairsAlike_57 rfl ?_
        exact V.iret (pc := 58) dX1_pairsAlike_58 rfl (by have e : cpl y.2.2.2 yo.2.2.2 = j := cpl_is (by omega) (by omega) hi.1 (Or.inr (Or.inr (by rw [getD_some hq, getD_some hr]; intro e; exact h54 (congrArg Prod.snd e)))); have z := hi.2; rw [e] at z; exact z)
theorem x_pairsAlike {g : gG} {d : Nat} {T : mT} {n : Nat} {I : mI} {J : mJ} {F : mF} {a b : Nat} {y yo : Hd} (hN : HN T F a) (hNo : HN T F b) (hY : HdOK y) (hYo : HdOK yo) (hW : HdX I J a y) (hWo : HdX I J b yo) : Ct g mX1_pairsAlike (d + 1) [.ref a, .ref b] 0 0 T n I J F (pureQ T n I J F (some (.int (nI (cpl y.2.2.2 yo.2.2.2))))) := by
  refine Ct.ofV (k := 2) (by decide) (Nat.le_of_ble_eq_true rfl) ?_
  show V g mX1_pairsAlike (d + 1) _ 0 0 0 [some (.ref a), some (.ref b), none, none] [] T n I J F
  refine V.iconst (v := 0) (pc := 0) dX1_pairsAlike_0 (by decide) ?_
  refine V.isn (pc := 1) dX1_pairsAlike_1 (by decide) (st1_2 rfl) ?_
  refine V.iconst (v := 0) (pc := 2) dX1_pairsAlike_2 (by decide) ?_
  refine V.isn (pc := 3) dX1_pairsAlike_3 (by decide) (st1_3 rfl) ?_
  rw [L0]
  exact l_pairsAlike hN hNo hY hYo hW hWo (min y.2.2.2.length yo.2.2.2.length) 0 (by omega) ⟨fun i h => absurd h (by omega), ⟨rfl, rfl, rfl, rfl, rfl, rfl⟩⟩
theorem l_pShare {g : gG} {d : Nat} {T : mT} {n : Nat} {I : mI} {J : mJ} {F : mF} {Q : mQ} {x a h : Nat} {A : Ab} {y : Hd} {v : Int32} (hX : XS T F x) (hA : AbOK A) (hR : RepX T I J F x A) (hv : v = nI h) (hh : h < (hds (cor A)).length) (hN : HN T F a) (hY : HdOK y) (hW : HdX I J a y) (kk : V g mX11_pairsSharedWithEarlier (d + 2) Q 0 0 44 [some (.ref x), some (.int v), some (.ref a), some (.int (nI (mxC y.2.2.2 ((hds (cor A)).take h)))), some (.int (nI h)), none] [] T n I J F) : ∀ (t j : Nat) , j + t = h → (True) → V g mX11_pairsSharedWithEarlier (d + 2) Q 0 0 5 [some (.ref x), some (.int v), some (.ref a), some (.int (nI (mxC y.2.2.2 ((hds (cor A)).take j)))), some (.int (nI j)), none] [] T n I J F := by
  intro t
  induction t with
  | zero =>
    intro j  hj hi
    obtain rfl : j = h := by omega
    have h6 := hA.1.1
    refine V.iload (pc := 5) dX11_pairsSharedWithEarlier_5 rfl ?_
    refine V.iload_n (pc := 7) dX11_pairsSharedWithEarlier_7 rfl ?_
    refine V.icmp_ge 44 (pc := 8) dX11_pairsSharedWithEarlier_8 (by decide) (fun h8 => ?_) (fun h8 => absurd (by rw [hv]; exact nI_le (Nat.le_refl _) (by omega)) h8)
    exact kk
  | succ t ih =>
    intro j  hj hi
    have hTo := hX.s.o
    have h6 := hA.1.1
    obtain ⟨y2, hy2⟩ : ∃ y, (hds (cor A))[j]? = some y := ⟨_, List.getElem?_eq_getElem (by omega)⟩
    have ej : (nI j).toInt = (j : Int) := nI_toInt (by omega)
    have hN2 := hX.s.n (h := j) (by omega)
    have hT2 := hN2.o
    have hY2 := hA.1.2.1 y2 (List.mem_of_getElem? hy2)
    have hW2 := hR.hd hy2
    have hTa := hN.o
    have b1 := mxC_le (s := y.2.2.2) ((hds (cor A)).take j)
    have b2 := cpl_le y.2.2.2 y2.2.2.2
    have h4 := hY.2.2.2.2.1
    refine V.iload (pc := 5) dX11_pairsSharedWithEarlier_5 rfl ?_
    refine V.iload_n (pc := 7) dX11_pairsSharedWithEarlier_7 rfl ?_
    refine V.icmp_ge 44 (pc := 8) dX11_pairsSharedWithEarlier_8 (by decide) (fun h8 => absurd h8 (by rw [hv]; exact nI_ge (by omega) (by omega))) (fun h8 => ?_)
    refine V.aload_n (pc := 11) dX11_pairsSharedWithEarlier_11 rfl ?_
    refine V.getR (pc := 12) dX11_pairsSharedWithEarlier_12 fX11_10_10 rfl hX.o hX.f0 ?_
    refine V.iload (pc := 15) dX11_pairsSharedWithEarlier_15 rfl ?_
    refine V.pV (as := [_]) (pc := 17) dX11_pairsSharedWithEarlier_17 lX11_95 bX8_handAt nX8_handAt (ci := 7) rfl eX8_handAt (by assumption) (x_handAtY (d := d + 1) (k := (hds (cor A)).length) _ hX.s hR.h2 hA.1.1 (by omega)) (by omega) rfl (Nat.le_of_ble_eq_true rfl) ?_
    rw [ej, Int.toNat_natCast]
    refine V.as (pc := 20) dX11_pairsSharedWithEarlier_20 (by decide) (st1_5 rfl) ?_
    refine V.aload (pc := 22) dX11_pairsSharedWithEarlier_22 rfl ?_
    refine V.ifnull (pc := 24) dX11_pairsSharedWithEarlier_24 ?_
    refine V.iload_n (pc := 27) dX11_pairsSharedWithEarlier_27 rfl ?_
    refine V.aload_n (pc := 28) dX11_pairsSharedWithEarlier_28 rfl ?_
    refine V.aload (pc := 29) dX11_pairsSharedWithEarlier_29 rfl ?_
    refine V.pV (as := [_]) (pc := 31) dX11_pairsSharedWithEarlier_31 lX11_336 bX1_pairsAlike nX1_pairsAlike (ci := 1) rfl eX1_pairsAlike (by assumption) (x_pairsAlike (d := d + 0) (y := y) (yo := y2) hN hN2 hY hY2 hW hW2) (by omega) rfl (Nat.le_of_ble_eq_true rfl) ?_
    refine V.mmax (pc := 34) dX11_pairsSharedWithEarlier_34 lX11_340 (by omega) (Nat.le_of_ble_eq_true rfl) ?_
    rw [nI_max (by omega) (by omega)]
    refine V.isn (pc := 37) dX11_pairsSharedWithEarlier_37 (by decide) (st1_3 rfl) ?_
    refine V.iinc1 (pc := 38) dX11_pairsSharedWithEarlier_38 (by decide) rfl (st1_4 rfl) ?_
    refine V.goto 5 (pc := 41) dX11_pairsSharedWithEarlier_41 (by decide) ?_
    refine V.weak wk_5 ?_
    have z := ih (j + 1) (by omega) trivial
    rw [mxC_take hy2] at z
    rw [nI_1]
    exact z
theorem x_pShare {g : gG} {d : Nat} {T : mT} {n : Nat} {I : mI} {J : mJ} {F : mF} {x a h : Nat} {A : Ab} {y : Hd} (v : Int32) (hX : XS T F x) (hA : AbOK A) (hR : RepX T I J F x A) (hv : v = nI h) (hh : h < (hds (cor A)).length) (hN : HN T F a) (hY : HdOK y) (hW : HdX I J a y) : Ct g mX11_pairsSharedWithEarlier (d + 2) [.ref x, .int v, .ref a] 0 0 T n I J F (pureQ T n I J F (some (.int (nI (mxC y.2.2.2 ((hds (cor A)).take h)))))) := by
  refine Ct.ofV (k := 3) (by decide) (Nat.le_of_ble_eq_true rfl) ?_
  show V g mX11_pairsSharedWithEarlier (d + 2) _ 0 0 0 [some (.ref x), some (.int v), some (.ref a), none, none, none] [] T n I J F
  refine V.iconst (v := 0) (pc := 0) dX11_pairsSharedWithEarlier_0 (by decide) ?_
  refine V.isn (pc := 1) dX11_pairsSharedWithEarlier_1 (by decide) (st1_3 rfl) ?_
  refine V.iconst (v := 0) (pc := 2) dX11_pairsSharedWithEarlier_2 (by decide) ?_
  refine V.is (pc := 3) dX11_pairsSharedWithEarlier_3 (by decide) (st1_4 rfl) ?_
  refine l_pShare hX hA hR hv hh hN hY hW ?_ h 0 (by omega) trivial
  refine V.iload_n (pc := 44) dX11_pairsSharedWithEarlier_44 rfl ?_
  exact V.iret (pc := 45) dX11_pairsSharedWithEarlier_45 rfl ⟨rfl, rfl, rfl, rfl, rfl, rfl⟩
theorem l_sharedX {g : gG} {d : Nat} {T : mT} {n : Nat} {I : mI} {J : mJ} {F : mF} {Q : mQ} {x : Nat} {A : Ab} (hX : XS T F x) (hA : AbOK A) (hR : RepX T I J F x A) (kk : V g mX11_shared (d + 3) Q 0 0 50 [some (.ref x), some (.int (nI (shN (hds (cor A)) (hds (cor A)).length))), some (.int (nI (hds (cor A)).length)), none] [] T n I J F) : ∀ (t j : Nat) , j + t = (hds (cor A)).length → (True) → V g mX11_shared (d + 3) Q 0 0 4 [some (.ref x), some (.int (nI (shN (hds (cor A)) j))), some (.int (nI j)), none] [] T n I J F := by
  intro t
  induction t with
  | zero =>
    intro j  hj hi
    obtain rfl : j = (hds (cor A)).length := by omega
    have hTo := hX.s.o
    have h6 := hA.1.1
    refine V.iload_n (pc := 4) dX11_shared_4 rfl ?_
    refine V.aload_n (pc := 5) dX11_shared_5 rfl ?_
    refine V.getR (pc := 6) dX11_shared_6 fX11_10_10 rfl hX.o hX.f0 ?_
    refine V.getI (pc := 9) dX11_shared_9 fX11_287_7 rfl (by assumption) ?_
    rw [hR.h2]
    refine V.icmp_ge 50 (pc := 12) dX11_shared_12 (by decide) (fun h12 => ?_) (fun h12 => absurd (nI_le (Nat.le_refl _) (by omega)) h12)
    exact kk
  | succ t ih =>
    intro j  hj hi
    have hTo := hX.s.o
    have h6 := hA.1.1
    obtain ⟨y2, hy2⟩ : ∃ y, (hds (cor A))[j]? = some y := ⟨_, List.getElem?_eq_getElem (by omega)⟩
    have ej : (nI j).toInt = (j : Int) := nI_toInt (by omega)
    have hN2 := hX.s.n (h := j) (by omega)
    have hT2 := hN2.o
    have hY2 := hA.1.2.1 y2 (List.mem_of_getElem? hy2)
    have hW2 := hR.hd hy2
    have b1 := mxC_le (s := y2.2.2.2) ((hds (cor A)).take j)
    refine V.iload_n (pc := 4) dX11_shared_4 rfl ?_
    refine V.aload_n (pc := 5) dX11_shared_5 rfl ?_
    refine V.getR (pc := 6) dX11_shared_6 fX11_10_10 rfl hX.o hX.f0 ?_
    refine V.getI (pc := 9) dX11_shared_9 fX11_287_7 rfl (by assumption) ?_
    rw [hR.h2]
    refine V.icmp_ge 50 (pc := 12) dX11_shared_12 (by decide) (fun h12 => absurd h12 (nI_ge (by omega) (by omega))) (fun h12 => ?_)
    refine V.aload_n (pc := 15) dX11_shared_15 rfl ?_
    refine V.getR (pc := 16) dX11_shared_16 fX11_10_10 rfl hX.o hX.f0 ?_
    refine V.iload_n (pc := 19) dX11_shared_19 rfl ?_
    refine V.pV (as := [_]) (pc := 20) dX11_shared_20 lX11_95 bX8_handAt nX8_handAt (ci := 7) rfl eX8_handAt (by assumption) (x_handAtY (d := d + 2) (k := (hds (cor A)).length) _ hX.s hR.h2 hA.1.1 (by omega)) (by omega) rfl (Nat.le_of_ble_eq_true rfl) ?_
    rw [ej, Int.toNat_natCast]
    refine V.asn (pc := 23) dX11_shared_23 (by decide) (st1_3 rfl) ?_
    refine V.aload_n (pc := 24) dX11_shared_24 rfl ?_
    refine V.ifnull (pc := 25) dX11_shared_25 ?_
    refine V.iload_n (pc := 28) dX11_shared_28 rfl ?_
    refine V.iconst (v := 2) (pc := 29) dX11_shared_29 (by decide) ?_
    refine V.aload_n (pc := 30) dX11_shared_30 rfl ?_
    refine V.getI (pc := 31) dX11_shared_31 fX11_118_1 rfl (by assumption) ?_
    rw [hW2.2.2.2.1]
    refine V.aload_n (pc := 34) dX11_shared_34 rfl ?_
    refine V.iload_n (pc := 35) dX11_shared_35 rfl ?_
    refine V.aload_n (pc := 36) dX11_shared_36 rfl ?_
    refine V.pV (as := [_, _]) (pc := 37) dX11_shared_37 lX11_290 bX11_pairsSharedWithEarlier nX11_pairsSharedWithEarlier (ci := 10) rfl eX11_pairsSharedWithEarlier hX.o (x_pShare (d := d + 0) (h := j) (y := y2) _ hX hA hR rfl (by omega) hN2 hY2 hW2) (by omega) rfl (Nat.le_of_ble_eq_true rfl) ?_
    refine V.isub (pc := 40) dX11_shared_40 ?_
    rw [pk_sub (by omega)]
    refine V.imul (pc := 41) dX11_shared_41 ?_
    rw [L2, pk_mul]
    refine V.iadd (pc := 42) dX11_shared_42 ?_
    rw [nI_add]
    refine V.isn (pc := 43) dX11_shared_43 (by decide) (st1_1 rfl) ?_
    refine V.iinc1 (pc := 44) dX11_shared_44 (by decide) rfl (st1_2 rfl) ?_
    refine V.goto 4 (pc := 47) dX11_shared_47 (by decide) ?_
    refine V.weak wk_3 ?_
    have z := ih (j + 1) (by omega) trivial
    rw [shN, getD_some hy2] at z
    rw [nI_1]
    exact z
theorem y_shared {g : gG} {d : Nat} {T : mT} {n : Nat} {I : mI} {J : mJ} {F : mF} {x : Nat} {A : Ab}  (hX : XS T F x) (hA : AbOK A) (hR : RepX T I J F x A)  : Ct g mX11_shared (d + 4) [.ref x] 0 0 T n I J F (QX x T n I J F (some (.int (iI (s_shared A)))) A) := by
  refine Ct.ofV (k := 3) (by decide) (Nat.le_of_ble_eq_true rfl) ?_
  show V g mX11_shared (d + 4) _ 0 0 0 [some (.ref x), none, none, none] [] T n I J F
  have hTo := hX.s.o
  refine V.iconst (v := 0) (pc := 0) dX11_shared_0 (by decide) ?_
  refine V.isn (pc := 1) dX11_shared_1 (by decide) (st1_1 rfl) ?_
  refine V.iconst (v := 0) (pc := 2) dX11_shared_2 (by decide) ?_
  refine V.isn (pc := 3) dX11_shared_3 (by decide) (st1_2 rfl) ?_
  refine l_sharedX (d := d + 1) hX hA hR ?_ (hds (cor A)).length 0 (by omega) trivial
  refine V.iload_n (pc := 50) dX11_shared_50 rfl ?_
  exact V.iret (pc := 51) dX11_shared_51 rfl (QX.q hX hR (by rw [s_shared, iI_nat]))
