theorem l_upper {g : gG} {d : Nat} {T : mT} {n : Nat} {I : mI} {J : mJ} {F : mF} {Q : mQ} {m h p : Nat} {y : Hd} (hM : MS T F m) (hH : HdM I m h y) (hp : p ≤ y.2.2.2.length) (kk : V g mX12_upper (d + 1) Q 0 0 32 [some (.ref m), some (.int (nI h)), some (.int (nI p)), some (.long (lN (upN (y.2.2.2.take p)))), none, some (.int (nI p))] [] T n I J F) : ∀ (t j : Nat) (I' : mI), j + t = p → (I' = I) → V g mX12_upper (d + 1) Q 0 0 5 [some (.ref m), some (.int (nI h)), some (.int (nI p)), some (.long (lN (upN (y.2.2.2.take j)))), none, some (.int (nI j))] [] T n I' J F := by
  intro t
  induction t with
  | zero =>
    intro j I' hj hi
    obtain rfl : j = p := by omega
    subst hi
    have h4 := hH.2.2.2.2.2.2.1
    refine V.iload (pc := 5) dX12_upper_5 rfl ?_
    refine V.iload_n (pc := 7) dX12_upper_7 rfl ?_
    refine V.icmp_ge 32 (pc := 8) dX12_upper_8 (by decide) (fun h8 => ?_) (fun h8 => absurd (nI_le (Nat.le_refl _) (by omega)) h8)
    exact kk
  | succ t ih =>
    intro j I' hj hi
    subst hi
    obtain ⟨q, hq⟩ : ∃ q, y.2.2.2[j]? = some q := ⟨_, List.getElem?_eq_getElem (by omega)⟩
    have hq2 := hH.2.1.2.2.2.2 j q hq
    have hqb := hH.2.2.2.2.2.2.2 q (List.mem_of_getElem? hq)
    have h4 := hH.2.2.2.2.2.2.1
    have h6 := hH.1
    refine V.iload (pc := 5) dX12_upper_5 rfl ?_
    refine V.iload_n (pc := 7) dX12_upper_7 rfl ?_
    refine V.icmp_ge 32 (pc := 8) dX12_upper_8 (by decide) (fun h8 => absurd h8 (nI_ge (by omega) (by omega))) (fun h8 => ?_)
    refine V.lload_n (pc := 11) dX12_upper_11 rfl ?_
    refine V.aload_n (pc := 12) dX12_upper_12 rfl ?_
    refine V.iload_n (pc := 13) dX12_upper_13 rfl ?_
    refine V.iconst (v := 4) (pc := 14) dX12_upper_14 (by decide) ?_
    refine V.iconst (v := 2) (pc := 15) dX12_upper_15 (by decide) ?_
    refine V.iload (pc := 16) dX12_upper_16 rfl ?_
    refine V.imul (pc := 18) dX12_upper_18 ?_
    refine V.iadd (pc := 19) dX12_upper_19 ?_
    refine V.pV (as := [_, _]) (pc := 20) dX12_upper_20 lX12_115 bX12_ofHand nX12_ofHand (ci := 11) rfl eX12_ofHand hM.o (c_ofHand (d := d + 0) (h := h) (w := 4 + 2 * j) _ _ hM rfl (by simp only [L1, L2, L4, pk_mul, nI_add] <;> first | rfl | (congr 1; omega)) (by omega)) (by omega) rfl (Nat.le_of_ble_eq_true rfl) ?_
    rw [show 10 + 12 * h + (4 + 2 * j) = 10 + 12 * h + 4 + 2 * j by omega, hq2.1]
    refine V.i2l (pc := 23) dX12_upper_23 ?_
    rw [nI_l (by omega)]
    refine V.lmul (pc := 24) dX12_upper_24 ?_
    rw [lN_mul]
    refine V.lsn (pc := 25) dX12_upper_25 (by decide) (st2_3 rfl) ?_
    refine V.iinc1 (pc := 26) dX12_upper_26 (by decide) rfl (st1_5 rfl) ?_
    refine V.goto 5 (pc := 29) dX12_upper_29 (by decide) ?_
    have z := ih (j + 1) _ (by omega) rfl
    rw [upN_take hq] at z
    rw [nI_1]
    exact z
theorem c_upper {g : gG} {d : Nat} {T : mT} {n : Nat} {I : mI} {J : mJ} {F : mF} {m h p : Nat} {y : Hd} (x z : Int32) (hM : MS T F m) (hx : x = nI h) (hH : HdM I m h y) (hz : z = nI p) (hp : p ≤ y.2.2.2.length) : Ct g mX12_upper (d + 1) [.ref m, .int x, .int z] 0 0 T n I J F (pureQ T n I J F (some (.long (lN (upN (y.2.2.2.take p)))))) := by
  refine Ct.ofV (k := 3) (by decide) (Nat.le_of_ble_eq_true rfl) ?_
  show V g mX12_upper (d + 1) _ 0 0 0 [some (.ref m), some (.int x), some (.int z), none, none, none] [] T n I J F
  subst hx hz
  refine V.lconst (v := 1) (pc := 0) dX12_upper_0 (by decide) ?_
  refine V.lsn (pc := 1) dX12_upper_1 (by decide) (st2_3 rfl) ?_
  refine V.iconst (v := 0) (pc := 2) dX12_upper_2 (by decide) ?_
  refine V.is (pc := 3) dX12_upper_3 (by decide) (st1_5 rfl) ?_
  have w := l_upper (g := g) (d := d) (n := n) (J := J) (Q := pureQ T n I J F (some (.long (lN (upN (y.2.2.2.take p)))))) hM hH hp ?_ p 0 I (by omega) rfl
  · exact w
  refine V.lload_n (pc := 32) dX12_upper_32 rfl ?_
  exact V.lret (pc := 33) dX12_upper_33 rfl ⟨rfl, rfl, rfl, rfl, rfl, rfl⟩
theorem l_lower {g : gG} {d : Nat} {T : mT} {n : Nat} {I : mI} {J : mJ} {F : mF} {Q : mQ} {m h p : Nat} {y : Hd} (hM : MS T F m) (hH : HdM I m h y) (hp : p ≤ y.2.2.2.length) (kk : V g mX12_lower (d + 1) Q 0 0 34 [some (.ref m), some (.int (nI h)), some (.int (nI p)), some (.long (lN (loN (y.2.2.2.take p)))), none, some (.int (nI p))] [] T n I J F) : ∀ (t j : Nat) (I' : mI), j + t = p → (I' = I) → V g mX12_lower (d + 1) Q 0 0 5 [some (.ref m), some (.int (nI h)), some (.int (nI p)), some (.long (lN (loN (y.2.2.2.take j)))), none, some (.int (nI j))] [] T n I' J F := by
  intro t
  induction t with
  | zero =>
    intro j I' hj hi
    obtain rfl : j = p := by omega
    subst hi
    have h4 := hH.2.2.2.2.2.2.1
    refine V.iload (pc := 5) dX12_lower_5 rfl ?_
    refine V.iload_n (pc := 7) dX12_lower_7 rfl ?_
    refine V.icmp_ge 34 (pc := 8) dX12_lower_8 (by decide) (fun h8 => ?_) (fun h8 => absurd (nI_le (Nat.le_refl _) (by omega)) h8)
    exact kk
  | succ t ih =>
    intro j I' hj hi
    subst hi
    obtain ⟨q, hq⟩ : ∃ q, y.2.2.2[j]? = some q := ⟨_, List.getElem?_eq_getElem (by omega)⟩
    have hq2 := hH.2.1.2.2.2.2 j q hq
    have hqb := hH.2.2.2.2.2.2.2 q (List.mem_of_getElem? hq)
    have h4 := hH.2.2.2.2.2.2.1
    have h6 := hH.1
    refine V.iload (pc := 5) dX12_lower_5 rfl ?_
    refine V.iload_n (pc := 7) dX12_lower_7 rfl ?_
    refine V.icmp_ge 34 (pc := 8) dX12_lower_8 (by decide) (fun h8 => absurd h8 (nI_ge (by omega) (by omega))) (fun h8 => ?_)
    refine V.lload_n (pc := 11) dX12_lower_11 rfl ?_
    refine V.aload_n (pc := 12) dX12_lower_12 rfl ?_
    refine V.iload_n (pc := 13) dX12_lower_13 rfl ?_
    refine V.iconst (v := 4) (pc := 14) dX12_lower_14 (by decide) ?_
    refine V.iconst (v := 2) (pc := 15) dX12_lower_15 (by decide) ?_
    refine V.iload (pc := 16) dX12_lower_16 rfl ?_
    refine V.imul (pc := 18) dX12_lower_18 ?_
    refine V.iadd (pc := 19) dX12_lower_19 ?_
    refine V.iconst (v := 1) (pc := 20) dX12_lower_20 (by decide) ?_
    refine V.iadd (pc := 21) dX12_lower_21 ?_
    refine V.pV (as := [_, _]) (pc := 22) dX12_lower_22 lX12_115 bX12_ofHand nX12_ofHand (ci := 11) rfl eX12_ofHand hM.o (c_ofHand (d := d + 0) (h := h) (w := 5 + 2 * j) _ _ hM rfl (by simp only [L1, L2, L4, pk_mul, nI_add] <;> first | rfl | (congr 1; omega)) (by omega)) (by omega) rfl (Nat.le_of_ble_eq_true rfl) ?_
    rw [show 10 + 12 * h + (5 + 2 * j) = 10 + 12 * h + 5 + 2 * j by omega, hq2.2]
    refine V.i2l (pc := 25) dX12_lower_25 ?_
    rw [nI_l (by omega)]
    refine V.lmul (pc := 26) dX12_lower_26 ?_
    rw [lN_mul]
    refine V.lsn (pc := 27) dX12_lower_27 (by decide) (st2_3 rfl) ?_
    refine V.iinc1 (pc := 28) dX12_lower_28 (by decide) rfl (st1_5 rfl) ?_
    refine V.goto 5 (pc := 31) dX12_lower_31 (by decide) ?_
    have z := ih (j + 1) _ (by omega) rfl
    rw [loN_take hq] at z
    rw [nI_1]
    exact z
theorem c_lower {g : gG} {d : Nat} {T : mT} {n : Nat} {I : mI} {J : mJ} {F : mF} {m h p : Nat} {y : Hd} (x z : Int32) (hM : MS T F m) (hx : x = nI h) (hH : HdM I m h y) (hz : z = nI p) (hp : p ≤ y.2.2.2.length) : Ct g mX12_lower (d + 1) [.ref m, .int x, .int z] 0 0 T n I J F (pureQ T n I J F (some (.long (lN (loN (y.2.2.2.take p)))))) := by
  refine Ct.ofV (k := 3) (by decide) (Nat.le_of_ble_eq_true rfl) ?_
  show V g mX12_lower (d + 1) _ 0 0 0 [some (.ref m), some (.int x), some (.int z), none, none, none] [] T n I J F
  subst hx hz
  refine V.lconst (v := 1) (pc := 0) dX12_lower_0 (by decide) ?_
  refine V.lsn (pc := 1) dX12_lower_1 (by decide) (st2_3 rfl) ?_
  refine V.iconst (v := 0) (pc := 2) dX12_lower_2 (by decide) ?_
  refine V.is (pc := 3) dX12_lower_3 (by decide) (st1_5 rfl) ?_
  have w := l_lower (g := g) (d := d) (n := n) (J := J) (Q := pureQ T n I J F (some (.long (lN (loN (y.2.2.2.take p)))))) hM hH hp ?_ p 0 I (by omega) rfl
  · exact w
  refine V.lload_n (pc := 34) dX12_lower_34 rfl ?_
  exact V.lret (pc := 35) dX12_lower_35 rfl ⟨rfl, rfl, rfl, rfl, rfl, rfl⟩
theorem c_upOf {g : gG} {d : Nat} {T : mT} {n : Nat} {I : mI} {J : mJ} {F : mF} {m h : Nat} {y : Hd} (x : Int32) (hM : MS T F m) (hx : x = nI h) (hH : HdM I m h y) : Ct g mX12_upOf (d + 2) [.ref m, .int x] 0 0 T n I J F (pureQ T n I J F (some (.long (lN (upN y.2.2.2))))) := by
  refine Ct.ofV (k := 0) (by decide) (Nat.le_of_ble_eq_true rfl) ?_
  show V g mX12_upOf (d + 2) _ 0 0 0 [some (.ref m), some (.int x)] [] T n I J F
  have h6 := hH.1
  have h4 := hH.2.2.2.2.2.2.1
  refine V.aload_n (pc := 0) dX12_upOf_0 rfl ?_
  refine V.iload_n (pc := 1) dX12_upOf_1 rfl ?_
  refine V.aload_n (pc := 2) dX12_upOf_2 rfl ?_
  refine V.iload_n (pc := 3) dX12_upOf_3 rfl ?_
  refine V.iconst (v := 3) (pc := 4) dX12_upOf_4 (by decide) ?_
  refine V.pV (as := [_, _]) (pc := 5) dX12_upOf_5 lX12_115 bX12_ofHand nX12_ofHand (ci := 11) rfl eX12_ofHand hM.o (c_ofHand (d := d + 1) (h := h) (w := 3) _ _ hM hx rfl (by omega)) (by omega) rfl (Nat.le_of_ble_eq_true rfl) ?_
  rw [hH.2.1.2.2.2.1]
  refine V.pV (as := [_, _]) (pc := 8) dX12_upOf_8 lX12_328 bX12_upper nX12_upper (ci := 11) rfl eX12_upper hM.o (c_upper (d := d + 0) (h := h) (p := y.2.2.2.length) (y := y) _ _ hM hx hH rfl (Nat.le_refl _)) (by omega) rfl (Nat.le_of_ble_eq_true rfl) ?_
  rw [List.take_length]
  exact V.lret (pc := 11) dX12_upOf_11 rfl ⟨rfl, rfl, rfl, rfl, rfl, rfl⟩
theorem c_lowOf {g : gG} {d : Nat} {T : mT} {n : Nat} {I : mI} {J : mJ} {F : mF} {m h : Nat} {y : Hd} (x : Int32) (hM : MS T F m) (hx : x = nI h) (hH : HdM I m h y) : Ct g mX12_lowOf (d + 2) [.ref m, .int x] 0 0 T n I J F (pureQ T n I J F (some (.long (lN (loN y.2.2.2))))) := by
  refine Ct.ofV (k := 0) (by decide) (Nat.le_of_ble_eq_true rfl) ?_
  show V g mX12_lowOf (d + 2) _ 0 0 0 [some (.ref m), some (.int x)] [] T n I J F
  have h6 := hH.1
  have h4 := hH.2.2.2.2.2.2.1
  refine V.aload_n (pc := 0) dX12_lowOf_0 rfl ?_
  refine V.iload_n (pc := 1) dX12_lowOf_1 rfl ?_
  refine V.aload_n (pc := 2) dX12_lowOf_2 rfl ?_
  refine V.iload_n (pc := 3) dX12_lowOf_3 rfl ?_
  refine V.iconst (v := 3) (pc := 4) dX12_lowOf_4 (by decide) ?_
  refine V.pV (as := [_, _]) (pc := 5) dX12_lowOf_5 lX12_115 bX12_ofHand nX12_ofHand (ci := 11) rfl eX12_ofHand hM.o (c_ofHand (d := d + 1) (h := h) (w := 3) _ _ hM hx rfl (by omega)) (by omega) rfl (Nat.le_of_ble_eq_true rfl) ?_
  rw [hH.2.1.2.2.2.1]
  refine V.pV (as := [_, _]) (pc := 8) dX12_lowOf_8 lX12_331 bX12_lower nX12_lower (ci := 11) rfl eX12_lower hM.o (c_lower (d := d + 0) (h := h) (p := y.2.2.2.length) (y := y) _ _ hM hx hH rfl (Nat.le_refl _)) (by omega) rfl (Nat.le_of_ble_eq_true rfl) ?_
  rw [List.take_length]
  exact V.lret (pc := 11) dX12_lowOf_11 rfl ⟨rfl, rfl, rfl, rfl, rfl, rfl⟩
theorem l_common {g : gG} {d : Nat} {T : mT} {n : Nat} {I : mI} {J : mJ} {F : mF} {a b : Int64} : ∀ (y x : Nat) (r : Option Value), x < 2 ^ 63 → y < 2 ^ 63 → V g mX12_common (d + 0) (pureQ T n I J F (some (.long (lN (Nat.gcd x y))))) 0 0 6 [some (.long a), none, some (.long b), none, some (.long (lN x)), none, some (.long (lN y)), none, r, none] [] T n I J F := by
  intro y
  induction y using Nat.strongRecOn with
  | ind y ih =>
    intro x r hx hy
    refine V.lload (pc := 6) dX12_common_6 rfl ?_
    refine V.lconst (v := 0) (pc := 8) dX12_common_8 (by decide) ?_
    refine V.lcmp_eq 31 (pc := 9) dX12_common_9 dX12_common_10 (by decide) (fun h9 => ?_) (fun h9 => ?_)
    · have y0 : y = 0 := by
        rw [show (0 : Int64) = lN 0 from rfl, lN_eqL hy (by decide)] at h9
        exact h9
      subst y0
      refine V.lload (pc := 31) dX12_common_31 rfl ?_
      exact V.lret (pc := 33) dX12_common_33 rfl ⟨by rw [Nat.gcd_zero_right], rfl, rfl, rfl, rfl, rfl⟩
    · have y0 : y ≠ 0 := fun z => h9 (by rw [z]; rfl)
      refine V.lload (pc := 13) dX12_common_13 rfl ?_
      refine V.lload (pc := 15) dX12_common_15 rfl ?_
      refine V.lrem (pc := 17) dX12_common_17 (fun z => h9 z) ?_
      rw [lN_rem hx hy]
      refine V.ls (pc := 18) dX12_common_18 (by decide) (st2_8 rfl) ?_
      refine V.lload (pc := 20) dX12_common_20 rfl ?_
      refine V.ls (pc := 22) dX12_common_22 (by decide) (st2_4 rfl) ?_
      refine V.lload (pc := 24) dX12_common_24 rfl ?_
      refine V.ls (pc := 26) dX12_common_26 (by decide) (st2_6 rfl) ?_
      refine V.goto 6 (pc := 28) dX12_common_28 (by decide) ?_
      have hm := Nat.mod_lt x (Nat.pos_of_ne_zero y0)
      have z := ih (x % y) hm y (some (.long (lN (x % y)))) hy (by omega)
      rw [show Nat.gcd y (x % y) = Nat.gcd x y by rw [Nat.gcd_comm x y, Nat.gcd_rec y x, Nat.gcd_comm]] at z
      exact z
theorem c_common {g : gG} {d : Nat} {T : mT} {n : Nat} {I : mI} {J : mJ} {F : mF} {a b : Nat} (x y : Int64) (hx : x = lN a) (hy : y = lN b) (ha : a < 2 ^ 63) (hb : b < 2 ^ 63) : Ct g mX12_common (d + 0) [.long x, .long y] 0 0 T n I J F (pureQ T n I J F (some (.long (lN (Nat.gcd a b))))) := by
  refine Ct.ofV (k := 6) (by decide) (Nat.le_of_ble_eq_true rfl) ?_
  show V g mX12_common (d + 0) _ 0 0 0 [some (.long x), none, some (.long y), none, none, none, none, none, none, none] [] T n I J F
  subst hx hy
  refine V.lload_n (pc := 0) dX12_common_0 rfl ?_
  refine V.ls (pc := 1) dX12_common_1 (by decide) (st2_4 rfl) ?_
  refine V.lload_n (pc := 3) dX12_common_3 rfl ?_
  refine V.ls (pc := 4) dX12_common_4 (by decide) (st2_6 rfl) ?_
  exact l_common b a none ha hb
theorem c_part {g : gG} {d : Nat} {T : mT} {n : Nat} {I : mI} {J : mJ} {F : mF} {a b : Nat} (x y : Int64) (w : Int32) (hx : x = lN a) (hy : y = lN b) (ha : a < 2 ^ 63) (hb : b < 2 ^ 63) (h0 : 0 < b) : Ct g mX12_part (d + 1) [.long x, .long y, .int w] 0 0 T n I J F (pureQ T n I J F (some (.long (if w = 0 then lN (a / Nat.gcd a b) else lN (b / Nat.gcd a b))))) := by
  refine Ct.ofV (k := 2) (by decide) (Nat.le_of_ble_eq_true rfl) ?_
  show V g mX12_part (d + 1) _ 0 0 0 [some (.long x), none, some (.long y), none, some (.int w), none, none] [] T n I J F
  subst hx hy
  have hg : Nat.gcd a b ≤ b := Nat.gcd_le_right a h0
  have hg0 : 0 < Nat.gcd a b := Nat.gcd_pos_of_pos_right a h0
  have hne : ¬ lN (Nat.gcd a b) = 0 := by
    rw [show (0 : Int64) = lN 0 from rfl, lN_eqL (by omega) (by decide)]
    omega
  refine V.lload_n (pc := 0) dX12_part_0 rfl ?_
  refine V.lload_n (pc := 1) dX12_part_1 rfl ?_
  refine V.pS (as := [_, _]) (pc := 2) dX12_part_2 lX12_324 bX12_common sX12_common (c_common (d := d + 0) (a := a) (b := b) _ _ rfl rfl ha hb) (by omega) rfl (Nat.le_of_ble_eq_true rfl) ?_
  refine V.ls (pc := 5) dX12_part_5 (by decide) (st2_5 rfl) ?_
  refine V.iload (pc := 7) dX12_part_7 rfl ?_
  refine V.if_ne 19 (pc := 9) dX12_part_9 (by decide) (fun h9 => ?_) (fun h9 => ?_)
  · refine V.lload_n (pc := 19) dX12_part_19 rfl ?_
    refine V.lload (pc := 20) dX12_part_20 rfl ?_
    refine V.ldiv (pc := 22) dX12_part_22 hne ?_
    rw [lN_div hb (by omega)]
    exact V.lret (pc := 23) dX12_part_23 rfl ⟨by rw [if_neg h9], rfl, rfl, rfl, rfl, rfl⟩
  · refine V.lload_n (pc := 12) dX12_part_12 rfl ?_
    refine V.lload (pc := 13) dX12_part_13 rfl ?_
    refine V.ldiv (pc := 15) dX12_part_15 hne ?_
    rw [lN_div ha (by omega)]
    refine V.goto 23 (pc := 16) dX12_part_16 (by decide) ?_
    exact V.lret (pc := 23) dX12_part_23 rfl ⟨by rw [if_pos h9], rfl, rfl, rfl, rfl, rfl⟩
theorem c_markOf {g : gG} {d : Nat} {T : mT} {n : Nat} {I : mI} {J : mJ} {F : mF} {go u l mk off : Nat} (x1 x2 x3 : Int64) (x4 x5 : Int32) (h1 : x1 = lN go) (h2 : x2 = lN u) (h3 : x3 = lN l) (h4 : x4 = nI mk) (h5 : x5 = nI off) (g1 : go ≤ 1000000) (g2 : u ≤ 207360000) (g3 : 0 < l ∧ l ≤ 207360000) (g4 : 0 < mk ∧ mk ≤ 400) (g5 : off < mk) : Ct g mX12_markOf (d + 0) [.long x1, .long x2, .long x3, .int x4, .int x5] 0 0 T n I J F (pureQ T n I J F (some (.int (nI (mkN go u l mk off))))) := by
  refine Ct.ofV (k := 0) (by decide) (Nat.le_of_ble_eq_true rfl) ?_
  show V g mX12_markOf (d + 0) _ 0 0 0 [some (.long x1), none, some (.long x2), none, some (.long x3), none, some (.int x4), some (.int x5)] [] T n I J F
  subst h1 h2 h3 h4 h5
  have b1 : go * u ≤ 1000000 * 207360000 := Nat.mul_le_mul g1 g2
  have b2 : go * u * mk ≤ 1000000 * 207360000 * 400 := Nat.mul_le_mul b1 g4.2
  have b3 : go * u * mk / l ≤ go * u * mk := Nat.div_le_self _ _
  have hl0 : ¬ lN l = 0 := by
    rw [show (0 : Int64) = lN 0 from rfl, lN_eqL (by omega) (by decide)]
    omega
  have hm0 : ¬ lN mk = 0 := by
    rw [show (0 : Int64) = lN 0 from rfl, lN_eqL (by omega) (by decide)]
    omega
  refine V.lload_n (pc := 0) dX12_markOf_0 rfl ?_
  refine V.lload_n (pc := 1) dX12_markOf_1 rfl ?_
  refine V.lmul (pc := 2) dX12_markOf_2 ?_
  rw [lN_mul]
  refine V.iload (pc := 3) dX12_markOf_3 rfl ?_
  refine V.i2l (pc := 5) dX12_markOf_5 ?_
  rw [nI_l (by omega)]
  refine V.lmul (pc := 6) dX12_markOf_6 ?_
  rw [lN_mul]
  refine V.lload (pc := 7) dX12_markOf_7 rfl ?_
  refine V.ldiv (pc := 9) dX12_markOf_9 hl0 ?_
  rw [lN_div (by omega) (by omega)]
  refine V.iload (pc := 10) dX12_markOf_10 rfl ?_
  refine V.i2l (pc := 12) dX12_markOf_12 ?_
  rw [nI_l (by omega)]
  refine V.ladd (pc := 13) dX12_markOf_13 ?_
  rw [lN_add]
  refine V.iload (pc := 14) dX12_markOf_14 rfl ?_
  refine V.i2l (pc := 16) dX12_markOf_16 ?_
  rw [nI_l (by omega)]
  refine V.lrem (pc := 17) dX12_markOf_17 hm0 ?_
  rw [lN_rem (by omega) (by omega)]
  refine V.l2i (pc := 18) dX12_markOf_18 ?_
  rw [lN_i]
  exact V.iret (pc := 19) dX12_markOf_19 rfl ⟨rfl, rfl, rfl, rfl, rfl, rfl⟩
theorem c_markAt {g : gG} {d : Nat} {T : mT} {n : Nat} {I : mI} {J : mJ} {F : mF} {m h go : Nat} {y : Hd} (x : Int32) (z : Int64) (hM : MS T F m) (hx : x = nI h) (hH : HdM I m h y) (hz : z = lN go) (hg : go ≤ 1000000) : Ct g mX12_markAt (d + 3) [.ref m, .int x, .long z] 0 0 T n I J F (pureQ T n I J F (some (.int (nI (mkN go (upN y.2.2.2) (loN y.2.2.2) y.1 y.2.1))))) := by
  refine Ct.ofV (k := 0) (by decide) (Nat.le_of_ble_eq_true rfl) ?_
  show V g mX12_markAt (d + 3) _ 0 0 0 [some (.ref m), some (.int x), some (.long z), none] [] T n I J F
  have h6 := hH.1
  have hb := rate_bd hH.2.2 y.2.2.2.length
  rw [List.take_length] at hb
  obtain ⟨k1, k2, k3, k4, k5, k6⟩ := hH.2.2
  refine V.lload_n (pc := 0) dX12_markAt_0 rfl ?_
  refine V.aload_n (pc := 1) dX12_markAt_1 rfl ?_
  refine V.iload_n (pc := 2) dX12_markAt_2 rfl ?_
  refine V.pV (as := [_]) (pc := 3) dX12_markAt_3 lX12_334 bX12_upOf nX12_upOf (ci := 11) rfl eX12_upOf hM.o (c_upOf (d := d + 0) (h := h) (y := y) _ hM hx hH) (by omega) rfl (Nat.le_of_ble_eq_true rfl) ?_
  refine V.aload_n (pc := 6) dX12_markAt_6 rfl ?_
  refine V.iload_n (pc := 7) dX12_markAt_7 rfl ?_
  refine V.pV (as := [_]) (pc := 8) dX12_markAt_8 lX12_338 bX12_lowOf nX12_lowOf (ci := 11) rfl eX12_lowOf hM.o (c_lowOf (d := d + 0) (h := h) (y := y) _ hM hx hH) (by omega) rfl (Nat.le_of_ble_eq_true rfl) ?_
  refine V.aload_n (pc := 11) dX12_markAt_11 rfl ?_
  refine V.iload_n (pc := 12) dX12_markAt_12 rfl ?_
  refine V.iconst (v := 0) (pc := 13) dX12_markAt_13 (by decide) ?_
  refine V.pV (as := [_, _]) (pc := 14) dX12_markAt_14 lX12_115 bX12_ofHand nX12_ofHand (ci := 11) rfl eX12_ofHand hM.o (c_ofHand (d := d + 2) (h := h) (w := 0) _ _ hM hx rfl (by omega)) (by omega) rfl (Nat.le_of_ble_eq_true rfl) ?_
  rw [show 10 + 12 * h + 0 = 10 + 12 * h from rfl, hH.2.1.1]
  refine V.aload_n (pc := 17) dX12_markAt_17 rfl ?_
  refine V.iload_n (pc := 18) dX12_markAt_18 rfl ?_
  refine V.iconst (v := 1) (pc := 19) dX12_markAt_19 (by decide) ?_
  refine V.pV (as := [_, _]) (pc := 20) dX12_markAt_20 lX12_115 bX12_ofHand nX12_ofHand (ci := 11) rfl eX12_ofHand hM.o (c_ofHand (d := d + 2) (h := h) (w := 1) _ _ hM hx rfl (by omega)) (by omega) rfl (Nat.le_of_ble_eq_true rfl) ?_
  rw [hH.2.1.2.1]
  refine V.pS (as := [_, _, _, _, _]) (pc := 23) dX12_markAt_23 lX12_345 bX12_markOf sX12_markOf (c_markOf (d := d + 2) (go := go) (u := upN y.2.2.2) (l := loN y.2.2.2) (mk := y.1) (off := y.2.1) _ _ _ _ _ hz rfl rfl rfl rfl hg hb.1.2 ⟨by omega, hb.2.2⟩ ⟨by omega, k2⟩ k3) (by omega) rfl (Nat.le_of_ble_eq_true rfl) ?_
  exact V.iret (pc := 26) dX12_markAt_26 rfl ⟨rfl, rfl, rfl, rfl, rfl, rfl⟩
theorem thr_go {d gap : Nat} (h1 : d ≤ 1000000) (h2 : gap ≤ 9999) : (if nI gap = 0 then lN d else lN d - lN d / (nI gap).toInt64) = lN (goN d gap) := by
  unfold goN
  by_cases e : gap = 0
  · rw [if_pos (by rw [e]; rfl), if_pos e]
  · rw [if_neg (by rw [L0, nI_eq (by omega) (by omega)]; exact e), if_neg e, nI_l (by omega), lN_div (by omega) (by omega), lN_sub (Nat.div_le_self d gap)]
theorem c_gone2 {g : gG} {d : Nat} {T : mT} {n : Nat} {I : mI} {J : mJ} {F : mF} {m h dd : Nat} {y : Hd} (x z : Int32) (hM : MS T F m) (hx : x = nI h) (hH : HdM I m h y) (hz : z = nI dd) (hd : dd ≤ 1000000) : Ct g mX12_gone2 (d + 1) [.ref m, .int x, .int z] 0 0 T n I J F (pureQ T n I J F (some (.long (lN (goN dd y.2.2.1))))) := by
  refine Ct.ofV (k := 0) (by decide) (Nat.le_of_ble_eq_true rfl) ?_
  show V g mX12_gone2 (d + 1) _ 0 0 0 [some (.ref m), some (.int x), some (.int z)] [] T n I J F
  subst hz
  have h6 := hH.1
  obtain ⟨k1, k2, k3, k4, k5, k6⟩ := hH.2.2
  refine V.iload_n (pc := 0) dX12_gone2_0 rfl ?_
  refine V.i2l (pc := 1) dX12_gone2_1 ?_
  rw [nI_l (by omega)]
  refine V.aload_n (pc := 2) dX12_gone2_2 rfl ?_
  refine V.iload_n (pc := 3) dX12_gone2_3 rfl ?_
  refine V.iconst (v := 2) (pc := 4) dX12_gone2_4 (by decide) ?_
  refine V.pV (as := [_, _]) (pc := 5) dX12_gone2_5 lX12_115 bX12_ofHand nX12_ofHand (ci := 11) rfl eX12_ofHand hM.o (c_ofHand (d := d + 0) (h := h) (w := 2) _ _ hM hx rfl (by omega)) (by omega) rfl (Nat.le_of_ble_eq_true rfl) ?_
  rw [hH.2.1.2.2.1]
  refine V.pS (as := [_, _]) (pc := 8) dX12_gone2_8 lX12_418 bX12_through sX12_through (c_through (d := d + 0) _ _) (by omega) rfl (Nat.le_of_ble_eq_true rfl) ?_
  rw [thr_go hd k4]
  exact V.lret (pc := 11) dX12_gone2_11 rfl ⟨rfl, rfl, rfl, rfl, rfl, rfl⟩
theorem c_turnsOf {g : gG} {d : Nat} {T : mT} {n : Nat} {I : mI} {J : mJ} {F : mF} {m h go : Nat} {y : Hd} (x : Int32) (z : Int64) (hM : MS T F m) (hx : x = nI h) (hH : HdM I m h y) (hz : z = lN go) (hg : go ≤ 1000000) : Ct g mX12_turnsOf (d + 3) [.ref m, .int x, .long z] 0 0 T n I J F (pureQ T n I J F (some (.long (lN (go * upN y.2.2.2 / loN y.2.2.2))))) := by
  refine Ct.ofV (k := 0) (by decide) (Nat.le_of_ble_eq_true rfl) ?_
  show V g mX12_turnsOf (d + 3) _ 0 0 0 [some (.ref m), some (.int x), some (.long z), none] [] T n I J F
  subst hz
  have hb := rate_bd hH.2.2 y.2.2.2.length
  rw [List.take_length] at hb
  have b1 : go * upN y.2.2.2 ≤ 1000000 * 207360000 := Nat.mul_le_mul hg hb.1.2
  have hl0 : ¬ lN (loN y.2.2.2) = 0 := by
    rw [show (0 : Int64) = lN 0 from rfl, lN_eqL (by omega) (by decide)]
    omega
  refine V.lload_n (pc := 0) dX12_turnsOf_0 rfl ?_
  refine V.aload_n (pc := 1) dX12_turnsOf_1 rfl ?_
  refine V.iload_n (pc := 2) dX12_turnsOf_2 rfl ?_
  refine V.pV (as := [_]) (pc := 3) dX12_turnsOf_3 lX12_334 bX12_upOf nX12_upOf (ci := 11) rfl eX12_upOf hM.o (c_upOf (d := d + 0) (h := h) (y := y) _ hM hx hH) (by omega) rfl (Nat.le_of_ble_eq_true rfl) ?_
  refine V.lmul (pc := 6) dX12_turnsOf_6 ?_
  rw [lN_mul]
  refine V.aload_n (pc := 7) dX12_turnsOf_7 rfl ?_
  refine V.iload_n (pc := 8) dX12_turnsOf_8 rfl ?_
  refine V.pV (as := [_]) (pc := 9) dX12_turnsOf_9 lX12_338 bX12_lowOf nX12_lowOf (ci := 11) rfl eX12_lowOf hM.o (c_lowOf (d := d + 0) (h := h) (y := y) _ hM hx hH) (by omega) rfl (Nat.le_of_ble_eq_true rfl) ?_
  refine V.ldiv (pc := 12) dX12_turnsOf_12 hl0 ?_
  rw [lN_div (by omega) (by omega)]
  exact V.lret (pc := 13) dX12_turnsOf_13 rfl ⟨rfl, rfl, rfl, rfl, rfl, rfl⟩
