def wmS (wear : Nat) (tr : List (Nat × Nat)) : Nat → Nat
  | 0 => 1000000000
  | k + 1 => wmin wear tr k
theorem wmS_step {wear : Nat} {tr : List (Nat × Nat)} (hw : wear ≤ 1000000) : ∀ j, wmS wear tr (j + 1) = if wrN wear tr j < wmS wear tr j then wrN wear tr j else wmS wear tr j
  | 0 => by rw [wmS, wmS, wmin, wrN_zero, if_pos (by omega)]
  | k + 1 => by rw [wmS, wmS, wmin]
theorem wmS_le {wear : Nat} {tr : List (Nat × Nat)} (hw : wear ≤ 1000000) : ∀ j, wmS wear tr j ≤ 1000000000
  | 0 => Nat.le_refl _
  | k + 1 => by rw [wmS]; have := wmin_le wear tr k; omega
theorem iI_eqI {a b : Int} (h1 : -2147483648 ≤ a ∧ a ≤ 2147483647) (h2 : -2147483648 ≤ b ∧ b ≤ 2147483647) : iI a = iI b ↔ a = b := by rw [eq32, iI_toInt h1.1 h1.2, iI_toInt h2.1 h2.2]
theorem iI_leI {a b : Int} (h1 : -2147483648 ≤ a ∧ a ≤ 2147483647) (h2 : -2147483648 ≤ b ∧ b ≤ 2147483647) : iI a ≤ iI b ↔ a ≤ b := by rw [le32, iI_toInt h1.1 h1.2, iI_toInt h2.1 h2.2]
theorem wornI_bd (wear : Nat) (y : Hd) : -1 ≤ wornI wear y ∧ wornI wear y ≤ 1000000 := by unfold wornI; split; omega; split <;> omega
theorem betI_bd {a b : Int} (h1 : -1 ≤ a ∧ a ≤ 1000000) (h2 : -1 ≤ b ∧ b ≤ 1000000) : -1 ≤ betI a b ∧ betI a b ≤ 1000000 := by unfold betI; split <;> omega
theorem wfx_bd (x : Int) (wear : Nat) (hs : List Hd) : ∀ j, -1 ≤ wfx x wear hs j ∧ wfx x wear hs j ≤ 1000000
  | 0 => by rw [wfx]; omega
  | j + 1 => by rw [wfx]; refine betI_bd (wfx_bd x wear hs j) ?_; split; exact wornI_bd _ _; omega
theorem getD_some {α : Type} {l : List α} {j : Nat} {y d : α} (h : l[j]? = some y) : l.getD j d = y := by rw [List.getD_eq_getElem?_getD, h]; rfl
theorem betI_r (a : Int) : betI a (-1) = a := if_neg (fun h => h.1 rfl)
theorem wfx_one {x : Int} {wear : Nat} {hs : List Hd} {k : Nat} (hx : x = (k : Int)) : ∀ j, wfx x wear hs j = if k < j then wornI wear (hs.getD k (0, 0, 0, [])) else -1
  | 0 => by rw [wfx, if_neg (by omega)]
  | j + 1 => by
    rw [wfx, wfx_one hx j]
    by_cases e : k = j
    · subst e
      rw [if_pos (Or.inr hx), if_neg (by omega), if_pos (by omega)]
      unfold betI
      by_cases q : wornI wear (hs.getD k (0, 0, 0, [])) = -1
      · rw [if_neg (fun z => z.1 q), q]
      · rw [if_pos ⟨q, Or.inl rfl⟩]
    · rw [if_neg (show ¬ (x = -1 ∨ x = (j : Int)) by omega), betI_r]
      by_cases q : k < j
      · rw [if_pos q, if_pos (by omega)]
      · rw [if_neg q, if_neg (by omega)]
theorem l_wornOf {g : gG} {d : Nat} {T : mT} {n : Nat} {I : mI} {J : mJ} {F : mF} {Q : mQ} {m h wear : Nat} {y : Hd} {x : Int32} (hM : MS T F m) (hx : x = nI h) (hH : HdM I m h y) (hw : I (m + 2) 6 = nI wear) (hw1 : 1 ≤ wear) (hw2 : wear ≤ 1000000) (hn : 0 < y.2.2.2.length) (kk : V g mX12_wornOf (d + 2) Q 0 0 82 [some (.ref m), some (.int x), some (.long (lN (wmS wear y.2.2.2 (y.2.2.2.length + 1)))), none, some (.int (nI y.2.2.2.length)), some (.int (nI (y.2.2.2.length + 1))), none, none, none, none] [] T n I J F) : ∀ (t j : Nat) , j + t = y.2.2.2.length + 1 → (True) → V g mX12_wornOf (d + 2) Q 0 0 15 [some (.ref m), some (.int x), some (.long (lN (wmS wear y.2.2.2 j))), none, some (.int (nI y.2.2.2.length)), some (.int (nI j)), none, none, none, none] [] T n I J F := by
  intro t
  induction t with
  | zero =>
    intro j  hj hi
    obtain rfl : j = y.2.2.2.length + 1 := by omega
    have h4 := hH.2.2.2.2.2.2.1
    refine V.iload (pc := 15) dX12_wornOf_15 rfl ?_
    refine V.iload (pc := 17) dX12_wornOf_17 rfl ?_
    refine V.icmp_gt 82 (pc := 19) dX12_wornOf_19 (by decide) (fun h19 => ?_) (fun h19 => absurd (by rw [nI_ltI (by omega) (by omega)]; omega) h19)
    exact kk
  | succ t ih =>
    intro j  hj hi
    have h4 := hH.2.2.2.2.2.2.1
    have h6 := hH.1
    have hb := rate_bd hH.2.2 j
    have b1 : wear * loN (y.2.2.2.take j) ≤ 1000000 * 207360000 := Nat.mul_le_mul hw2 hb.2.2
    have b2 := wmS_le (tr := y.2.2.2) hw2 j
    have b3 : wrN wear y.2.2.2 j ≤ wear * loN (y.2.2.2.take j) + upN (y.2.2.2.take j) - 1 := Nat.div_le_self _ _
    refine V.iload (pc := 15) dX12_wornOf_15 rfl ?_
    refine V.iload (pc := 17) dX12_wornOf_17 rfl ?_
    refine V.icmp_gt 82 (pc := 19) dX12_wornOf_19 (by decide) (fun h19 => absurd h19 (by rw [nI_ltI (by omega) (by omega)]; omega)) (fun h19 => ?_)
    refine V.iload (pc := 22) dX12_wornOf_22 rfl ?_
    refine V.if_le 82 (pc := 24) dX12_wornOf_24 (by decide) (fun h24 => absurd h24 (by rw [L0, nI_leI (by omega) (by omega)]; omega)) (fun h24 => ?_)
    refine V.aload_n (pc := 27) dX12_wornOf_27 rfl ?_
    refine V.iload_n (pc := 28) dX12_wornOf_28 rfl ?_
    refine V.iload (pc := 29) dX12_wornOf_29 rfl ?_
    refine V.pV (as := [_, _]) (pc := 31) dX12_wornOf_31 lX12_328 bX12_upper nX12_upper (ci := 11) rfl eX12_upper hM.o (c_upper (d := d + 0) (h := h) (p := j) (y := y) _ _ hM hx hH rfl (by omega)) (by omega) rfl (Nat.le_of_ble_eq_true rfl) ?_
    refine V.ls (pc := 34) dX12_wornOf_34 (by decide) (st2_6 rfl) ?_
    refine V.aload_n (pc := 36) dX12_wornOf_36 rfl ?_
    refine V.getR (pc := 37) dX12_wornOf_37 fX12_13_11 rfl hM.o hM.f3 ?_
    refine V.bipush (v := 6) (pc := 40) dX12_wornOf_40 (by decide) ?_
    refine V.iald' (k := 6) (pc := 42) dX12_wornOf_42 hM.t3 rfl (by decide) (by decide) ?_
    rw [hw]
    refine V.i2l (pc := 43) dX12_wornOf_43 ?_
    rw [nI_l (by omega)]
    refine V.aload_n (pc := 44) dX12_wornOf_44 rfl ?_
    refine V.iload_n (pc := 45) dX12_wornOf_45 rfl ?_
    refine V.iload (pc := 46) dX12_wornOf_46 rfl ?_
    refine V.pV (as := [_, _]) (pc := 48) dX12_wornOf_48 lX12_331 bX12_lower nX12_lower (ci := 11) rfl eX12_lower hM.o (c_lower (d := d + 0) (h := h) (p := j) (y := y) _ _ hM hx hH rfl (by omega)) (by omega) rfl (Nat.le_of_ble_eq_true rfl) ?_
    refine V.lmul (pc := 51) dX12_wornOf_51 ?_
    rw [lN_mul]
    refine V.lload (pc := 52) dX12_wornOf_52 rfl ?_
    refine V.ladd (pc := 54) dX12_wornOf_54 ?_
    rw [lN_add]
    refine V.lconst (v := 1) (pc := 55) dX12_wornOf_55 (by decide) ?_
    refine V.lsub (pc := 56) dX12_wornOf_56 ?_
    rw [show (1 : Int64) = lN 1 from rfl, lN_sub (by omega)]
    refine V.lload (pc := 57) dX12_wornOf_57 rfl ?_
    refine V.ldiv (pc := 59) dX12_wornOf_59 (by rw [show (0 : Int64) = lN 0 from rfl, lN_eqL (by omega) (by decide)]; omega) ?_
    rw [lN_div (by omega) (by omega), show (wear * loN (y.2.2.2.take j) + upN (y.2.2.2.take j) - 1) / upN (y.2.2.2.take j) = wrN wear y.2.2.2 j from rfl]
    refine V.ls (pc := 60) dX12_wornOf_60 (by decide) (st2_8 rfl) ?_
    refine V.lload (pc := 62) dX12_wornOf_62 rfl ?_
    refine V.lload_n (pc := 64) dX12_wornOf_64 rfl ?_
    refine V.lcmp_ge 74 (pc := 65) dX12_wornOf_65 dX12_wornOf_66 (by decide) (fun h65 => ?_) (fun h65 => ?_)
    · rw [lN_leL (by omega) (by omega)] at h65
      refine V.lload_n (pc := 74) dX12_wornOf_74 rfl ?_
      refine V.lsn (pc := 75) dX12_wornOf_75 (by decide) (st2_2 rfl) ?_
      refine V.iinc1 (pc := 76) dX12_wornOf_76 (by decide) rfl (st1_5 rfl) ?_
      refine V.goto 15 (pc := 79) dX12_wornOf_79 (by decide) ?_
      refine V.weak wk_6 ?_
      refine V.weak wk_8 ?_
      have z := ih (j + 1) (by omega) trivial
      rw [wmS_step hw2, if_neg (by omega)] at z
      rw [nI_1]
      exact z
    · rw [lN_leL (by omega) (by omega)] at h65
      refine V.lload (pc := 69) dX12_wornOf_69 rfl ?_
      refine V.goto 75 (pc := 71) dX12_wornOf_71 (by decide) ?_
      refine V.lsn (pc := 75) dX12_wornOf_75 (by decide) (st2_2 rfl) ?_
      refine V.iinc1 (pc := 76) dX12_wornOf_76 (by decide) rfl (st1_5 rfl) ?_
      refine V.goto 15 (pc := 79) dX12_wornOf_79 (by decide) ?_
      refine V.weak wk_6 ?_
      refine V.weak wk_8 ?_
      have z := ih (j + 1) (by omega) trivial
      rw [wmS_step hw2, if_pos (by omega)] at z
      rw [nI_1]
      exact z
theorem c_wornOf {g : gG} {d : Nat} {T : mT} {n : Nat} {I : mI} {J : mJ} {F : mF} {m h wear : Nat} {y : Hd} (x : Int32) (hM : MS T F m) (hx : x = nI h) (hH : HdM I m h y) (hw : I (m + 2) 6 = nI wear) (hw1 : 1 ≤ wear) (hw2 : wear ≤ 1000000) : Ct g mX12_wornOf (d + 2) [.ref m, .int x] 0 0 T n I J F (pureQ T n I J F (some (.int (iI (wornI wear y))))) := by
  refine Ct.ofV (k := 8) (by decide) (Nat.le_of_ble_eq_true rfl) ?_
  show V g mX12_wornOf (d + 2) _ 0 0 0 [some (.ref m), some (.int x), none, none, none, none, none, none, none, none] [] T n I J F
  have h6 := hH.1
  have h4 := hH.2.2.2.2.2.2.1
  have b0 := wmin_le wear y.2.2.2 y.2.2.2.length
  refine V.ldc2 (pc := 0) dX12_wornOf_0 qX12_295 ?_
  refine V.lsn (pc := 3) dX12_wornOf_3 (by decide) (st2_2 rfl) ?_
  refine V.aload_n (pc := 4) dX12_wornOf_4 rfl ?_
  refine V.iload_n (pc := 5) dX12_wornOf_5 rfl ?_
  refine V.iconst (v := 3) (pc := 6) dX12_wornOf_6 (by decide) ?_
  refine V.pV (as := [_, _]) (pc := 7) dX12_wornOf_7 lX12_115 bX12_ofHand nX12_ofHand (ci := 11) rfl eX12_ofHand hM.o (c_ofHand (d := d + 1) (h := h) (w := 3) _ _ hM hx rfl (by omega)) (by omega) rfl (Nat.le_of_ble_eq_true rfl) ?_
  rw [hH.2.1.2.2.2.1]
  refine V.is (pc := 10) dX12_wornOf_10 (by decide) (st1_4 rfl) ?_
  refine V.iconst (v := 0) (pc := 12) dX12_wornOf_12 (by decide) ?_
  refine V.is (pc := 13) dX12_wornOf_13 (by decide) (st1_5 rfl) ?_
  by_cases hn : y.2.2.2.length = 0
  · refine V.iload (pc := 15) dX12_wornOf_15 rfl ?_
    refine V.iload (pc := 17) dX12_wornOf_17 rfl ?_
    refine V.icmp_gt 82 (pc := 19) dX12_wornOf_19 (by decide) (fun h19 => absurd h19 (by rw [L0, nI_ltI (by omega) (by omega)]; omega)) (fun h19 => ?_)
    refine V.iload (pc := 22) dX12_wornOf_22 rfl ?_
    refine V.if_le 82 (pc := 24) dX12_wornOf_24 (by decide) (fun h24 => ?_) (fun h24 => absurd (by rw [L0, nI_leI (by omega) (by omega)]; omega) h24)
    refine V.lload_n (pc := 82) dX12_wornOf_82 rfl ?_
    refine V.ldc2 (pc := 83) dX12_wornOf_83 qX12_105 ?_
    refine V.lcmp_le 94 (pc := 86) dX12_wornOf_86 dX12_wornOf_87 (by decide) (fun h86 => absurd h86 (by decide)) (fun h86 => ?_)
    refine V.iconst (v := (-1)) (pc := 90) dX12_wornOf_90 (by decide) ?_
    refine V.goto 96 (pc := 91) dX12_wornOf_91 (by decide) ?_
    exact V.iret (pc := 96) dX12_wornOf_96 rfl ⟨by rw [wornI, if_pos hn]; rfl, rfl, rfl, rfl, rfl, rfl⟩
  · conv => arg 8; rw [L0, show (1000000000 : Int64) = lN (wmS wear y.2.2.2 0) from rfl]
    refine l_wornOf (y := y) hM hx hH hw hw1 hw2 (by omega) ?_ (y.2.2.2.length + 1) 0 (by omega) trivial
    rw [show wmS wear y.2.2.2 (y.2.2.2.length + 1) = wmin wear y.2.2.2 y.2.2.2.length from rfl]
    refine V.lload_n (pc := 82) dX12_wornOf_82 rfl ?_
    refine V.ldc2 (pc := 83) dX12_wornOf_83 qX12_105 ?_
    refine V.lcmp_le 94 (pc := 86) dX12_wornOf_86 dX12_wornOf_87 (by decide) (fun h86 => ?_) (fun h86 => ?_)
    · have z1 : wmin wear y.2.2.2 y.2.2.2.length ≤ 1000000 := by
        rw [show (1000000 : Int64) = lN 1000000 from rfl, lN_leL (by omega) (by omega)] at h86
        exact h86
      refine V.lload_n (pc := 94) dX12_wornOf_94 rfl ?_
      refine V.l2i (pc := 95) dX12_wornOf_95 ?_
      rw [lN_i]
      exact V.iret (pc := 96) dX12_wornOf_96 rfl ⟨by rw [wornI, if_neg hn, if_pos z1, iI_nat], rfl, rfl, rfl, rfl, rfl⟩
    · have z1 : ¬ wmin wear y.2.2.2 y.2.2.2.length ≤ 1000000 := by
        rw [show (1000000 : Int64) = lN 1000000 from rfl, lN_leL (by omega) (by omega)] at h86
        exact h86
      refine V.iconst (v := (-1)) (pc := 90) dX12_wornOf_90 (by decide) ?_
      refine V.goto 96 (pc := 91) dX12_wornOf_91 (by decide) ?_
      exact V.iret (pc := 96) dX12_wornOf_96 rfl ⟨by rw [wornI, if_neg hn, if_neg z1]; rfl, rfl, rfl, rfl, rfl, rfl⟩
theorem t_worn {g : gG} {d : Nat} {T : mT} {n : Nat} {I : mI} {J : mJ} {F : mF} {Q : mQ} {m j : Nat} {x : Int32} {a b : Int} {r : Option Value} (ha : -1 ≤ a ∧ a ≤ 1000000) (hb : -1 ≤ b ∧ b ≤ 1000000) (kk : V g mX12_worn (d + 3) Q 0 0 24 [some (.ref m), some (.int x), some (.int (iI (betI a b))), some (.int (nI (j + 1))), none] [] T n I J F) : V g mX12_worn (d + 3) Q 0 0 53 [some (.ref m), some (.int x), some (.int (iI a)), some (.int (nI j)), r] [.int (iI b)] T n I J F := by
  have em : (-1 : Int32) = iI (-1) := rfl
  refine V.is (pc := 53) dX12_worn_53 (by decide) (st1_4 rfl) ?_
  refine V.iload (pc := 55) dX12_worn_55 rfl ?_
  refine V.iconst (v := (-1)) (pc := 57) dX12_worn_57 (by decide) ?_
  refine V.icmp_eq 77 (pc := 58) dX12_worn_58 (by decide) (fun h58 => ?_) (fun h58 => ?_)
  · rw [em, iI_eqI (by omega) (by omega)] at h58
    refine V.iload_n (pc := 77) dX12_worn_77 rfl ?_
    refine V.isn (pc := 78) dX12_worn_78 (by decide) (st1_2 rfl) ?_
    refine V.iinc1 (pc := 79) dX12_worn_79 (by decide) rfl (st1_3 rfl) ?_
    refine V.goto 24 (pc := 82) dX12_worn_82 (by decide) ?_
    refine V.weak wk_4 ?_
    rw [betI, if_neg (fun z => z.1 h58)] at kk
    rw [nI_1]
    exact kk
  · rw [em, iI_eqI (by omega) (by omega)] at h58
    refine V.iload_n (pc := 61) dX12_worn_61 rfl ?_
    refine V.iconst (v := (-1)) (pc := 62) dX12_worn_62 (by decide) ?_
    refine V.icmp_eq 72 (pc := 63) dX12_worn_63 (by decide) (fun h63 => ?_) (fun h63 => ?_)
    · rw [em, iI_eqI (by omega) (by omega)] at h63
      refine V.iload (pc := 72) dX12_worn_72 rfl ?_
      refine V.goto 78 (pc := 74) dX12_worn_74 (by decide) ?_
      refine V.isn (pc := 78) dX12_worn_78 (by decide) (st1_2 rfl) ?_
      refine V.iinc1 (pc := 79) dX12_worn_79 (by decide) rfl (st1_3 rfl) ?_
      refine V.goto 24 (pc := 82) dX12_worn_82 (by decide) ?_
      refine V.weak wk_4 ?_
      rw [betI, if_pos ⟨h58, Or.inl h63⟩] at kk
      rw [nI_1]
      exact kk
    · rw [em, iI_eqI (by omega) (by omega)] at h63
      refine V.iload (pc := 66) dX12_worn_66 rfl ?_
      refine V.iload_n (pc := 68) dX12_worn_68 rfl ?_
      refine V.icmp_ge 77 (pc := 69) dX12_worn_69 (by decide) (fun h69 => ?_) (fun h69 => ?_)
      · rw [iI_leI (by omega) (by omega)] at h69
        refine V.iload_n (pc := 77) dX12_worn_77 rfl ?_
        refine V.isn (pc := 78) dX12_worn_78 (by decide) (st1_2 rfl) ?_
        refine V.iinc1 (pc := 79) dX12_worn_79 (by decide) rfl (st1_3 rfl) ?_
        refine V.goto 24 (pc := 82) dX12_worn_82 (by decide) ?_
        refine V.weak wk_4 ?_
        rw [betI, if_neg (by omega)] at kk
        rw [nI_1]
        exact kk
      · rw [iI_leI (by omega) (by omega)] at h69
        refine V.iload (pc := 72) dX12_worn_72 rfl ?_
        refine V.goto 78 (pc := 74) dX12_worn_74 (by decide) ?_
        refine V.isn (pc := 78) dX12_worn_78 (by decide) (st1_2 rfl) ?_
        refine V.iinc1 (pc := 79) dX12_worn_79 (by decide) rfl (st1_3 rfl) ?_
        refine V.goto 24 (pc := 82) dX12_worn_82 (by decide) ?_
        refine V.weak wk_4 ?_
        rw [betI, if_pos ⟨h58, Or.inr (by omega)⟩] at kk
        rw [nI_1]
        exact kk
theorem l_worn {g : gG} {d : Nat} {T : mT} {n : Nat} {I : mI} {J : mJ} {F : mF} {Q : mQ} {m : Nat} {A : Ab} {x : Int32} (hM : MS T F m) (hA : AbOK A) (hR : RepM I J m A) (kk : V g mX12_worn (d + 3) Q 0 0 85 [some (.ref m), some (.int x), some (.int (iI (wfx x.toInt (wer (cor A)) (hds (cor A)) (hds (cor A)).length))), some (.int (nI (hds (cor A)).length)), none] [] T n I J F) : ∀ (t j : Nat) , j + t = (hds (cor A)).length → (True) → V g mX12_worn (d + 3) Q 0 0 24 [some (.ref m), some (.int x), some (.int (iI (wfx x.toInt (wer (cor A)) (hds (cor A)) j))), some (.int (nI j)), none] [] T n I J F := by
  intro t
  induction t with
  | zero =>
    intro j  hj hi
    obtain rfl : j = (hds (cor A)).length := by omega
    have h6 := hA.1.1
    refine V.iload_n (pc := 24) dX12_worn_24 rfl ?_
    refine V.aload_n (pc := 25) dX12_worn_25 rfl ?_
    refine V.getR (pc := 26) dX12_worn_26 fX12_13_11 rfl hM.o hM.f3 ?_
    refine V.iconst (v := 0) (pc := 29) dX12_worn_29 (by decide) ?_
    refine V.iald' (k := 0) (pc := 30) dX12_worn_30 hM.t3 rfl (by decide) (by decide) ?_
    rw [hR.h0]
    refine V.icmp_ge 85 (pc := 31) dX12_worn_31 (by decide) (fun h31 => ?_) (fun h31 => absurd (nI_le (Nat.le_refl _) (by omega)) h31)
    exact kk
  | succ t ih =>
    intro j  hj hi
    have h6 := hA.1.1
    obtain ⟨y, hy⟩ : ∃ y, (hds (cor A))[j]? = some y := ⟨_, List.getElem?_eq_getElem (by omega)⟩
    have hH := hR.hd hA hy
    have hm1 : (-1 : Int32).toInt = -1 := rfl
    refine V.iload_n (pc := 24) dX12_worn_24 rfl ?_
    refine V.aload_n (pc := 25) dX12_worn_25 rfl ?_
    refine V.getR (pc := 26) dX12_worn_26 fX12_13_11 rfl hM.o hM.f3 ?_
    refine V.iconst (v := 0) (pc := 29) dX12_worn_29 (by decide) ?_
    refine V.iald' (k := 0) (pc := 30) dX12_worn_30 hM.t3 rfl (by decide) (by decide) ?_
    rw [hR.h0]
    refine V.icmp_ge 85 (pc := 31) dX12_worn_31 (by decide) (fun h31 => absurd h31 (nI_ge (by omega) (by omega))) (fun h31 => ?_)
    refine V.iload_n (pc := 34) dX12_worn_34 rfl ?_
    refine V.iconst (v := (-1)) (pc := 35) dX12_worn_35 (by decide) ?_
    refine V.icmp_eq 44 (pc := 36) dX12_worn_36 (by decide) (fun h36 => ?_) (fun h36 => ?_)
    · refine V.aload_n (pc := 44) dX12_worn_44 rfl ?_
      refine V.iload_n (pc := 45) dX12_worn_45 rfl ?_
      refine V.pV (as := [_]) (pc := 46) dX12_worn_46 lX12_436 bX12_wornOf nX12_wornOf (ci := 11) rfl eX12_wornOf hM.o (c_wornOf (d := d + 0) (h := j) (wear := wer (cor A)) (y := y) _ hM rfl hH hR.h6 hA.1.2.2.2.2.2.2.2.2.2.2.2.1 hA.1.2.2.2.2.2.2.2.2.2.2.2.2) (by omega) rfl (Nat.le_of_ble_eq_true rfl) ?_
      refine V.goto 53 (pc := 49) dX12_worn_49 (by decide) ?_
      have z := ih (j + 1) (by omega) trivial
      rw [wfx, getD_some hy, if_pos (Or.inl (by rw [h36]; rfl))] at z
      exact t_worn (wfx_bd _ _ _ _) (by first | exact wornI_bd _ _ | omega) z
    · refine V.iload_n (pc := 39) dX12_worn_39 rfl ?_
      refine V.iload_n (pc := 40) dX12_worn_40 rfl ?_
      refine V.icmp_ne 52 (pc := 41) dX12_worn_41 (by decide) (fun h41 => ?_) (fun h41 => ?_)
      · refine V.iconst (v := (-1)) (pc := 52) dX12_worn_52 (by decide) ?_
        rw [show (-1 : Int32) = iI (-1) from rfl]
        have z := ih (j + 1) (by omega) trivial
        rw [wfx, getD_some hy, if_neg (by rw [eq32, hm1] at h36; rw [eq32, nI_toInt (by omega)] at h41; omega)] at z
        exact t_worn (wfx_bd _ _ _ _) (by first | exact wornI_bd _ _ | omega) z
      · refine V.aload_n (pc := 44) dX12_worn_44 rfl ?_
        refine V.iload_n (pc := 45) dX12_worn_45 rfl ?_
        refine V.pV (as := [_]) (pc := 46) dX12_worn_46 lX12_436 bX12_wornOf nX12_wornOf (ci := 11) rfl eX12_wornOf hM.o (c_wornOf (d := d + 0) (h := j) (wear := wer (cor A)) (y := y) _ hM rfl hH hR.h6 hA.1.2.2.2.2.2.2.2.2.2.2.2.1 hA.1.2.2.2.2.2.2.2.2.2.2.2.2) (by omega) rfl (Nat.le_of_ble_eq_true rfl) ?_
        refine V.goto 53 (pc := 49) dX12_worn_49 (by decide) ?_
        have z := ih (j + 1) (by omega) trivial
        rw [wfx, getD_some hy, if_pos (Or.inr (by rw [h41, nI_toInt (by omega)]))] at z
        exact t_worn (wfx_bd _ _ _ _) (by first | exact wornI_bd _ _ | omega) z
theorem p_worn {g : gG} {d : Nat} {T : mT} {n : Nat} {I : mI} {J : mJ} {F : mF} {m : Nat} {A : Ab} (x : Int32) (hM : MS T F m) (hA : AbOK A) (hR : RepM I J m A)  : Ct g mX12_worn (d + 3) [.ref m, .int x] 0 0 T n I J F (QM m T n I J F (some (.int (iI (s_worn A x.toInt)))) A) := by
  refine Ct.ofV (k := 3) (by decide) (Nat.le_of_ble_eq_true rfl) ?_
  show V g mX12_worn (d + 3) _ 0 0 0 [some (.ref m), some (.int x), none, none, none] [] T n I J F
  refine V.aload_n (pc := 0) dX12_worn_0 rfl ?_
  refine V.iconst (v := 0) (pc := 1) dX12_worn_1 (by decide) ?_
  refine V.putI (pc := 2) dX12_worn_2 fX12_88_11 (fun r h => by cases h; exact Or.inl rfl) rfl hM.o ?_
  refine V.thr hR (fun I1 hR1 hf => ?_)
  clear hR
  have hR := hR1
  clear hR1
  refine V.iload_n (pc := 5) dX12_worn_5 rfl ?_
  refine V.iconst (v := (-1)) (pc := 6) dX12_worn_6 (by decide) ?_
  refine V.icmp_eq 20 (pc := 7) dX12_worn_7 (by decide) (fun h7 => ?_) (fun h7 => ?_)
  · have q1 : x.toInt = -1 := by rw [h7]; rfl
    refine V.iconst (v := (-1)) (pc := 20) dX12_worn_20 (by decide) ?_
    refine V.isn (pc := 21) dX12_worn_21 (by decide) (st1_2 rfl) ?_
    refine V.iconst (v := 0) (pc := 22) dX12_worn_22 (by decide) ?_
    refine V.isn (pc := 23) dX12_worn_23 (by decide) (st1_3 rfl) ?_
    conv => arg 8; rw [show (-1 : Int32) = iI (wfx x.toInt (wer (cor A)) (hds (cor A)) 0) from rfl, L0]
    refine l_worn hM hA hR ?_ (hds (cor A)).length 0 (by omega) trivial
    refine V.iload_n (pc := 85) dX12_worn_85 rfl ?_
    exact V.iret (pc := 86) dX12_worn_86 rfl ⟨by rw [s_worn, if_pos q1, q1], rfl, rfl, rfl, hf, Frm.rf, hR⟩
  · have q1 : ¬ x.toInt = -1 := fun z => h7 ((eq32 _ _).mpr z)
    refine V.aload_n (pc := 10) dX12_worn_10 rfl ?_
    refine V.iload_n (pc := 11) dX12_worn_11 rfl ?_
    refine V.pV (as := [_]) (pc := 12) dX12_worn_12 lX12_111 bX12_isHand nX12_isHand (ci := 11) rfl eX12_isHand hM.o (c_isHand (d := d + 1) _ hM (by have := hA.1.1; omega) hR.h0) (by omega) rfl (Nat.le_of_ble_eq_true rfl) ?_
    refine V.if_ne 20 (pc := 15) dX12_worn_15 (by decide) (fun h15 => ?_) (fun h15 => ?_)
    · have q := bi_ne.mp h15
      obtain ⟨y, h1y, e1y⟩ := hdAt_yes q
      have h1x := nIx q.1 rfl
      have h1H := hR.hd hA h1y
      have h1b := rate_bd h1H.2.2 y.2.2.2.length
      rw [List.take_length] at h1b
      refine V.iconst (v := (-1)) (pc := 20) dX12_worn_20 (by decide) ?_
      refine V.isn (pc := 21) dX12_worn_21 (by decide) (st1_2 rfl) ?_
      refine V.iconst (v := 0) (pc := 22) dX12_worn_22 (by decide) ?_
      refine V.isn (pc := 23) dX12_worn_23 (by decide) (st1_3 rfl) ?_
      conv => arg 8; rw [show (-1 : Int32) = iI (wfx x.toInt (wer (cor A)) (hds (cor A)) 0) from rfl, L0]
      refine l_worn hM hA hR ?_ (hds (cor A)).length 0 (by omega) trivial
      refine V.iload_n (pc := 85) dX12_worn_85 rfl ?_
      exact V.iret (pc := 86) dX12_worn_86 rfl ⟨by rw [s_worn, if_neg q1]; simp only [e1y]; rw [wfx_one (k := x.toInt.toNat) (by omega), if_pos (by omega), getD_some h1y], rfl, rfl, rfl, hf, Frm.rf, hR⟩
    · have q := bi_eq.mp h15
      have ey := hdAt_no q
      refine V.iconst (v := (-1)) (pc := 18) dX12_worn_18 (by decide) ?_
      exact V.iret (pc := 19) dX12_worn_19 rfl ⟨by rw [s_worn, if_neg q1]; simp only [ey]; rfl, rfl, rfl, rfl, hf, Frm.rf, hR⟩
