-- sums
def partK (kd : Nat → Int) (nm : Nat → Nat) : Nat → Nat → Nat → PS
  | 0 => dPart kd nm (fun i p => (i, p, none)) 0
  | k + 1 => dPart kd nm (sumAt kd nm k) (k + 1)
theorem sumAt_K (kd : Nat → Int) (nm : Nat → Nat) (k : Nat) : sumAt kd nm k = dChain kd addOp (dChain kd mulOp (partK kd nm k)) := by cases k <;> rfl
/-- what is read of a sum from token i and step s on -/
def SvY (tt : Nat → Nat) (N u i s : Nat) (c : Nat → Nat) (I' : mI) (j q : Nat) (v : SV) : Prop := ∃ (s' : Nat) (c' : Nat → Nat), XrM tt N I' u j q s' c' ∧ s ≤ s' ∧ s' + i ≤ j + s ∧ i < j ∧ (∀ t, t < s → c' t = c t) ∧ RealX c' s s' v
def TvY (tt : Nat → Nat) (N u i s : Nat) (c : Nat → Nat) (I' : mI) (j q : Nat) (v : TV) : Prop := ∃ (s' : Nat) (c' : Nat → Nat), XrM tt N I' u j q s' c' ∧ s ≤ s' ∧ s' + i ≤ j + s ∧ i < j ∧ (∀ t, t < s → c' t = c t) ∧ RealXT c' s s' v
def XrN (tt : Nat → Nat) (N u : Nat) (I' : mI) (j : Nat) : Prop := ∃ (p' s' : Nat) (c' : Nat → Nat), XrM tt N I' u j p' s' c'
def QV (T : mT) (n : Nat) (I : mI) (J : mJ) (F : mF) (u N i s : Nat) (tt : Nat → Nat) (c : Nat → Nat) (res : PS) : mQ := fun r' T' n' I' J' F' => T' = T ∧ n' = n ∧ J' = J ∧ F' = F ∧ XrF u I I' ∧ (∀ j q v, res = (j, q, some v) → r' = some (.int 1) ∧ SvY tt N u i s c I' j q v) ∧ ∀ j q, res = (j, q, none) → r' = some (.int 0) ∧ XrN tt N u I' j
def QT (T : mT) (n : Nat) (I : mI) (J : mJ) (F : mF) (u N i s : Nat) (tt : Nat → Nat) (c : Nat → Nat) (res : PT) : mQ := fun r' T' n' I' J' F' => T' = T ∧ n' = n ∧ J' = J ∧ F' = F ∧ XrF u I I' ∧ (∀ j q v, res = (j, q, some v) → r' = some (.int 1) ∧ TvY tt N u i s c I' j q v) ∧ ∀ j q, res = (j, q, none) → r' = some (.int 0) ∧ XrN tt N u I' j
def SumCt (k : Nat) : Prop := ∀ (g : gG) (d : Nat) (T : mT) (n : Nat) (I : mI) (J : mJ) (F : mF) (u N i p s : Nat) (tt : Nat → Nat) (c : Nat → Nat), 4 * k ≤ d → RrS T F u → TtM tt N → XrM tt N I u i p s c → Ct g mX4_readSum (d + 5) [.ref u, .int (nI (8 - k))] 0 0 T n I J F (QV T n I J F u N i s tt c (sumAt (kdT tt N) (nmT tt N) k i p))
section XR2
variable {tt : Nat → Nat} {N u i p s : Nat} {c : Nat → Nat} {I I' I'' : mI}
theorem XrM.nx (h : XrM tt N I u i p s c) (e1 : ∀ b, b ≠ u → I' b = I b) (e2 : ∀ t, t = 0 ∨ 4 < t → I' u t = I u t) (k : TkAt tt N I' u (i + 1)) (hi : i + 1 ≤ tkN tt N) : XrM tt N I' u (i + 1) p s c := by
  obtain ⟨-, b, ⟨d1, d2⟩, e, f, g, l, l2⟩ := h
  exact ⟨k, by rw [e2 5 (by omega)]; exact b, ⟨by rw [e2 7 (by omega)]; exact d1, fun j hj => by rw [e1 _ (by omega)]; exact d2 j hj⟩, e.keep (fun b h1 h2 => e1 b (by omega)), hi, by omega, l, l2⟩
theorem nxF (e1 : ∀ b, b ≠ u → I' b = I b) (e2 : ∀ t, t = 0 ∨ 4 < t → I' u t = I u t) : XrF u I I' := ⟨fun b h1 _ => e1 b h1, fun t ht => e2 t (by omega)⟩
theorem SvY.op {j q kd op : Nat} {v w : SV} {i1 s1 : Nat} {c1 : Nat → Nat} {I1 I2 : mI} (hx : XrM tt N I1 u i1 p s1 c1) (h1 : s ≤ s1) (h2 : s1 + i ≤ i1 + s) (h3 : i < i1) (h4 : ∀ t, t < s → c1 t = c t) (hv : RealX c1 s s1 v) (hw : SvY tt N u (i1 + 1) s1 c1 I2 j q w) (hk : 6 ≤ kd ∧ kd ≤ 10) (ho : arX kd = op) : ∃ (s2 : Nat) (c2 : Nat → Nat), XrM tt N I2 u j q s2 c2 ∧ s2 < j ∧ XrM tt N (up2 (up2 I2 (u + 5) s2 (nI (32 * 0 + kd))) u 7 (nI (s2 + 1))) u j q (s2 + 1) (fun t => if t = s2 then 32 * 0 + kd else c2 t) ∧ s ≤ s2 + 1 ∧ s2 + 1 + i ≤ j + s ∧ i < j ∧ (∀ t, t < s → (fun t => if t = s2 then 32 * 0 + kd else c2 t) t = c t) ∧ RealX (fun t => if t = s2 then 32 * 0 + kd else c2 t) s (s2 + 1) (sv2 op v w) := by
  obtain ⟨s2, c2, x1, x2, x3, x4, x5, x6⟩ := hw
  have hs := hx.2.2.2.2.2.1
  refine ⟨s2, c2, x1, by omega, x1.step (by omega) (by omega) (Nat.zero_le _) (by omega), by omega, by omega, by omega, fun t ht => ?_, ?_⟩
  · show (if t = s2 then _ else _) = _
    rw [if_neg (by omega), x5 t (by omega), h4 t ht]
  · rw [← ho]
    have e : ∀ t, t < s2 → (fun t => if t = s2 then 32 * 0 + kd else c2 t) t = c2 t := fun t ht => if_neg (by omega)
    exact X_ar ((hv.congr (fun t _ ht => x5 t ht)).congr (fun t _ ht => e t (by omega))) (x6.congr (fun t _ ht => e t ht)) h1 x2 hk (by show (if s2 = s2 then 32 * 0 + kd else _) = kd; rw [if_pos rfl]; omega)
end XR2
theorem x_sq0 {g : gG} {d : Nat} {T : mT} {n : Nat} {I : mI} {J : mJ} {F : mF} {u N i p s : Nat} {tt : Nat → Nat} {c : Nat → Nat} (hRd : RrS T F u) (hN : TtM tt N) (hX : XrM tt N I u i p s c) (q91 : kdT tt N i = 91) : Ct g mX4_readSquareBracket (d + 2) [.ref u, .int (nI (8 - 0))] 0 0 T n I J F (QV T n I J F u N i s tt c (partK (kdT tt N) (nmT tt N) 0 i p)) := by
  refine Ct.ofV (k := 0) (by decide) (Nat.le_of_ble_eq_true rfl) ?_
  show V g mX4_readSquareBracket (d + 2) _ 0 0 0 [some (.ref u), some (.int (nI (8 - 0)))] [] T n I J F
  have hE := hN.end
  have hE4 := hE.1
  have hiE : i ≤ tkN tt N := hX.2.2.2.2.1
  have hkl := hN.kd i
  have hkg := kdT_ge (tt := tt) (N := N) (i := i)
  have hnm := nmT_le (tt := tt) (N := N) (i := i)
  have e2 : I u 2 = iI (kdT tt N i) := hX.1.2.1
  have e3 : I u 3 = nI (nmT tt N i) := hX.1.2.2.1
  have e5 : I u 5 = nI p := hX.2.1
  have e7 : I u 7 = nI s := hX.2.2.1.1
  have hs : s ≤ i := hX.2.2.2.2.2.1
  have hp50 : p ≤ 50 := hX.2.2.2.2.2.2.2
  have eD : partK (kdT tt N) (nmT tt N) 0 i p = (i, p, none) := by rw [partK, dPart, if_pos q91, if_pos rfl]
  refine V.iload_n (pc := 0) dX4_readSquareBracket_0 rfl ?_
  refine V.bipush (v := 8) (pc := 1) dX4_readSquareBracket_1 (by decide) ?_
  refine V.icmp_lt 8 (pc := 3) dX4_readSquareBracket_3 (by decide) (fun h3 => absurd h3 (by decide)) (fun h3 => ?_)
  refine V.iconst (v := 0) (pc := 6) dX4_readSquareBracket_6 (by decide) ?_
  exact V.zret (pc := 7) dX4_readSquareBracket_7 rfl (by first | exact Or.inl rfl | exact Or.inr rfl | exact bi_or | assumption) ⟨rfl, rfl, rfl, rfl, XrF.rf, fun j q v e => (by rw [eD] at e; cases e), fun j q e => (by rw [eD] at e; cases e; exact ⟨rfl, p, s, c, hX⟩)⟩
theorem x_sqS {g : gG} {d : Nat} {T : mT} {n : Nat} {I : mI} {J : mJ} {F : mF} {k : Nat} {u N i p s : Nat} {tt : Nat → Nat} {c : Nat → Nat} (hS : SumCt k) (hk8 : k + 1 ≤ 8) (hd : 4 * (k + 1) ≤ d) (hRd : RrS T F u) (hN : TtM tt N) (hX : XrM tt N I u i p s c) (q91 : kdT tt N i = 91) : Ct g mX4_readSquareBracket (d + 2) [.ref u, .int (nI (8 - (k + 1)))] 0 0 T n I J F (QV T n I J F u N i s tt c (partK (kdT tt N) (nmT tt N) (k + 1) i p)) := by
  refine Ct.ofV (k := 0) (by decide) (Nat.le_of_ble_eq_true rfl) ?_
  show V g mX4_readSquareBracket (d + 2) _ 0 0 0 [some (.ref u), some (.int (nI (8 - (k + 1))))] [] T n I J F
  have hE := hN.end
  have hE4 := hE.1
  have hiE : i ≤ tkN tt N := hX.2.2.2.2.1
  have hkl := hN.kd i
  have hkg := kdT_ge (tt := tt) (N := N) (i := i)
  have hnm := nmT_le (tt := tt) (N := N) (i := i)
  have e2 : I u 2 = iI (kdT tt N i) := hX.1.2.1
  have e3 : I u 3 = nI (nmT tt N i) := hX.1.2.2.1
  have e5 : I u 5 = nI p := hX.2.1
  have e7 : I u 7 = nI s := hX.2.2.1.1
  have hs : s ≤ i := hX.2.2.2.2.2.1
  have hp50 : p ≤ 50 := hX.2.2.2.2.2.2.2
  have hi1 : i + 1 ≤ tkN tt N := nxt hE hiE (by rw [q91]; decide)
  refine V.iload_n (pc := 0) dX4_readSquareBracket_0 rfl ?_
  refine V.bipush (v := 8) (pc := 1) dX4_readSquareBracket_1 (by decide) ?_
  refine V.icmp_lt 8 (pc := 3) dX4_readSquareBracket_3 (by decide) (fun h3 => ?_) (fun h3 => absurd (nI_lt (show 8 - (k + 1) < 8 by omega) (by decide)) h3)
  refine V.aload_n (pc := 8) dX4_readSquareBracket_8 rfl ?_
  refine V.invV0 (as := []) (pc := 9) dX4_readSquareBracket_9 lX4_54 bX4_nextToken nX4_nextToken (ci := 4) rfl eX4_nextToken hRd.o (x_nextToken (d := d + 0) (N := N) (tt := tt) (i := i + 1) hRd hX.2.2.2.1 hi1 hE4 (by rw [hX.1.1, ← iI_nat]; congr 1; omega)) (by omega) rfl (Nat.le_of_ble_eq_true rfl) ?_
  rintro _ _ _ I1 _ _ ⟨rfl, rfl, rfl, rfl, rfl, n1, n2, n3⟩
  have hX1 := hX.nx n1 n2 n3 hi1
  refine V.aload_n (pc := 12) dX4_readSquareBracket_12 rfl ?_
  refine V.iload_n (pc := 13) dX4_readSquareBracket_13 rfl ?_
  refine V.iconst (v := 1) (pc := 14) dX4_readSquareBracket_14 (by decide) ?_
  refine V.iadd (pc := 15) dX4_readSquareBracket_15 ?_
  rw [nI_1, show 8 - (k + 1) + 1 = 8 - k by omega]
  refine V.invV0 (as := [_]) (pc := 16) dX4_readSquareBracket_16 lX4_87 bX4_readSum nX4_readSum (ci := 4) rfl eX4_readSum hRd.o (hS _ (d - 4) _ _ _ _ _ _ _ _ _ _ _ _ (by omega) hRd hN hX1) (by omega) rfl (Nat.le_of_ble_eq_true rfl) ?_
  rintro r2 _ _ I2 _ _ ⟨rfl, rfl, rfl, rfl, f2, hy2, hn2⟩
  rcases hp2 : sumAt (kdT tt N) (nmT tt N) k (i + 1) p with ⟨j2, q2, _ | v2⟩
  · obtain ⟨rfl, hN2⟩ := hn2 j2 q2 hp2
    have eD : partK (kdT tt N) (nmT tt N) (k + 1) i p = (j2, q2, none) := by rw [partK, dPart, if_pos q91, if_neg (by omega), hp2]
    refine V.if_eq 31 (pc := 19) dX4_readSquareBracket_19 (by decide) (fun h19 => ?_) (fun h19 => absurd rfl h19)
    refine V.iconst (v := 0) (pc := 31) dX4_readSquareBracket_31 (by decide) ?_
    exact V.zret (pc := 32) dX4_readSquareBracket_32 rfl (by first | exact Or.inl rfl | exact Or.inr rfl | exact bi_or | assumption) ⟨rfl, rfl, rfl, rfl, (nxF n1 n2).tr f2, fun j q v e => (by rw [eD] at e; cases e), fun j q e => (by rw [eD] at e; cases e; exact ⟨rfl, hN2⟩)⟩
  · obtain ⟨rfl, hV2⟩ := hy2 j2 q2 v2 hp2
    obtain ⟨s2, c2, x1, x2, x3, x4, x5, x6⟩ := hV2
    have hkl2 := hN.kd j2
    have hkg2 := kdT_ge (tt := tt) (N := N) (i := j2)
    have e22 : I2 u 2 = iI (kdT tt N j2) := x1.1.2.1
    refine V.if_eq 31 (pc := 19) dX4_readSquareBracket_19 (by decide) (fun h19 => absurd h19 (by decide)) (fun h19 => ?_)
    refine V.aload_n (pc := 22) dX4_readSquareBracket_22 rfl ?_
    refine V.getI (pc := 23) dX4_readSquareBracket_23 fX4_22_4 rfl hRd.o ?_
    rw [e22]
    refine V.bipush (v := 93) (pc := 26) dX4_readSquareBracket_26 (by decide) ?_
    refine V.icmp_eq 33 (pc := 28) dX4_readSquareBracket_28 (by decide) (fun h28 => ?_) (fun h28 => ?_)
    · have q93 := (iI_eqc (z := kdT tt N j2) (k := 93) (by omega) (by decide)).mp h28
      have hj1 : j2 + 1 ≤ tkN tt N := nxt hE x1.2.2.2.2.1 (by rw [q93]; decide)
      have eD : partK (kdT tt N) (nmT tt N) (k + 1) i p = (j2 + 1, q2, some v2) := by rw [partK, dPart, if_pos q91, if_neg (by omega), hp2]; simp only []; rw [if_pos q93]
      refine V.aload_n (pc := 33) dX4_readSquareBracket_33 rfl ?_
      refine V.invV0 (as := []) (pc := 34) dX4_readSquareBracket_34 lX4_54 bX4_nextToken nX4_nextToken (ci := 4) rfl eX4_nextToken hRd.o (x_nextToken (d := d + 0) (N := N) (tt := tt) (i := j2 + 1) hRd x1.2.2.2.1 hj1 hE4 (by rw [x1.1.1, ← iI_nat]; congr 1; omega)) (by omega) rfl (Nat.le_of_ble_eq_true rfl) ?_
      rintro _ _ _ I3 _ _ ⟨rfl, rfl, rfl, rfl, rfl, m1, m2, m3⟩
      refine V.iconst (v := 1) (pc := 37) dX4_readSquareBracket_37 (by decide) ?_
      exact V.zret (pc := 38) dX4_readSquareBracket_38 rfl (by first | exact Or.inl rfl | exact Or.inr rfl | exact bi_or | assumption) ⟨rfl, rfl, rfl, rfl, ((nxF n1 n2).tr f2).tr (nxF m1 m2), fun j q v e => (by rw [eD] at e; cases e; exact ⟨rfl, s2, c2, x1.nx m1 m2 m3 hj1, x2, by omega, by omega, x5, x6⟩), fun j q e => (by rw [eD] at e; cases e)⟩
    · have q93 : ¬ kdT tt N j2 = 93 := fun z => h28 ((iI_eqc (z := kdT tt N j2) (k := 93) (by omega) (by decide)).mpr z)
      have eD : partK (kdT tt N) (nmT tt N) (k + 1) i p = (j2, q2, none) := by rw [partK, dPart, if_pos q91, if_neg (by omega), hp2]; simp only []; rw [if_neg q93]
      refine V.iconst (v := 0) (pc := 31) dX4_readSquareBracket_31 (by decide) ?_
      exact V.zret (pc := 32) dX4_readSquareBracket_32 rfl (by first | exact Or.inl rfl | exact Or.inr rfl | exact bi_or | assumption) ⟨rfl, rfl, rfl, rfl, (nxF n1 n2).tr f2, fun j q v e => (by rw [eD] at e; cases e), fun j q e => (by rw [eD] at e; cases e; exact ⟨rfl, _, _, _, x1⟩)⟩
theorem x_sq {g : gG} {d : Nat} {T : mT} {n : Nat} {I : mI} {J : mJ} {F : mF} {k : Nat} {u N i p s : Nat} {tt : Nat → Nat} {c : Nat → Nat} (hS : k = 0 ∨ SumCt (k - 1)) (hk8 : k ≤ 8) (hd : 4 * k ≤ d) (hRd : RrS T F u) (hN : TtM tt N) (hX : XrM tt N I u i p s c) (q91 : kdT tt N i = 91) : Ct g mX4_readSquareBracket (d + 2) [.ref u, .int (nI (8 - k))] 0 0 T n I J F (QV T n I J F u N i s tt c (partK (kdT tt N) (nmT tt N) k i p)) := by
  cases k with
  | zero => exact x_sq0 hRd hN hX q91
  | succ k => exact x_sqS (hS.resolve_left (by omega)) hk8 hd hRd hN hX q91
theorem XrM.leaf {tt : Nat → Nat} {N u i p s kd v : Nat} {c : Nat → Nat} {I I' : mI} (h : XrM tt N I u i p s c) (hk : kd ≤ 5) (hv : v ≤ 10000) (hp : p < 50) (hi : i + 1 ≤ tkN tt N) (e1 : ∀ b, b ≠ u → I' b = up2 (up2 (up2 I u 5 (nI (p + 1))) (u + 5) s (nI (32 * v + kd))) u 7 (nI (s + 1)) b) (e2 : ∀ t, t = 0 ∨ 4 < t → I' u t = up2 (up2 (up2 I u 5 (nI (p + 1))) (u + 5) s (nI (32 * v + kd))) u 7 (nI (s + 1)) u t) (hk2 : TkAt tt N I' u (i + 1)) : SvY tt N u i s c I' (i + 1) (p + 1) (svLeaf kd v) := by
  obtain ⟨-, b, ⟨d1, d2⟩, e, f, g, l, l2⟩ := h
  refine ⟨s + 1, fun j => if j = s then 32 * v + kd else c j, ⟨hk2, ?_, ⟨?_, fun j hj => ?_⟩, e.keep (fun b h1 h2 => ?_), hi, by omega, ?_, by omega⟩, by omega, by omega, by omega, fun t ht => if_neg (by omega), X_leaf hk (if_pos rfl)⟩
  · rw [e2 5 (by omega), up2_ne (by omega), up2_off (by omega), up2_same]
  · rw [e2 7 (by omega), up2_same]
  · show _ = nI (if j = s then 32 * v + kd else c j) ∧ (if j = s then 32 * v + kd else c j) < 2 ^ 20
    rw [e1 _ (by omega)]
    by_cases z : j = s
    · rw [if_pos z, z, up2_off (by omega), up2_same]; exact ⟨rfl, by omega⟩
    · rw [if_neg z, up2_off (by omega), up2_ne (by omega), up2_off (by omega)]; exact d2 j (by omega)
  · rw [e1 _ (by omega), up2_off (by omega), up2_off (by omega), up2_off (by omega)]
  · show lcX (fun j => if j = s then 32 * v + kd else c j) s + _ = p + 1
    rw [lcX_congr (c := c) s (fun j hj => by rw [if_neg (by omega)])]
    have : (32 * v + kd) % 32 ≤ 5 := by omega
    simp only [if_true, this]
    omega
theorem x_part {g : gG} {d : Nat} {T : mT} {n : Nat} {I : mI} {J : mJ} {F : mF} {k : Nat} {u N i p s : Nat} {tt : Nat → Nat} {c : Nat → Nat} (hS : k = 0 ∨ SumCt (k - 1)) (hk8 : k ≤ 8) (hd : 4 * k ≤ d) (hRd : RrS T F u) (hN : TtM tt N) (hX : XrM tt N I u i p s c) : Ct g mX4_readPart (d + 3) [.ref u, .int (nI (8 - k))] 0 0 T n I J F (QV T n I J F u N i s tt c (partK (kdT tt N) (nmT tt N) k i p)) := by
  refine Ct.ofV (k := 0) (by decide) (Nat.le_of_ble_eq_true rfl) ?_
  show V g mX4_readPart (d + 3) _ 0 0 0 [some (.ref u), some (.int (nI (8 - k)))] [] T n I J F
  have hE := hN.end
  have hE4 := hE.1
  have hiE : i ≤ tkN tt N := hX.2.2.2.2.1
  have hkl := hN.kd i
  have hkg := kdT_ge (tt := tt) (N := N) (i := i)
  have hnm := nmT_le (tt := tt) (N := N) (i := i)
  have e2 : I u 2 = iI (kdT tt N i) := hX.1.2.1
  have e3 : I u 3 = nI (nmT tt N i) := hX.1.2.2.1
  have e5 : I u 5 = nI p := hX.2.1
  have e7 : I u 7 = nI s := hX.2.2.1.1
  have hs : s ≤ i := hX.2.2.2.2.2.1
  have hp50 : p ≤ 50 := hX.2.2.2.2.2.2.2
  by_cases q91 : kdT tt N i = 91
  · refine V.aload_n (pc := 0) dX4_readPart_0 rfl ?_
    refine V.getI (pc := 1) dX4_readPart_1 fX4_22_4 rfl hRd.o ?_
    rw [e2]
    refine V.bipush (v := 91) (pc := 4) dX4_readPart_4 (by decide) ?_
    refine V.icmp_ne 15 (pc := 6) dX4_readPart_6 (by decide) (fun h6 => absurd (by rw [q91]; rfl) h6) (fun h6 => ?_)
    refine V.aload_n (pc := 9) dX4_readPart_9 rfl ?_
    refine V.iload_n (pc := 10) dX4_readPart_10 rfl ?_
    refine V.invV0 (as := [_]) (pc := 11) dX4_readPart_11 lX4_126 bX4_readSquareBracket nX4_readSquareBracket (ci := 4) rfl eX4_readSquareBracket hRd.o (x_sq (d := d + 0) (k := k) hS hk8 hd hRd hN hX q91) (by omega) rfl (Nat.le_of_ble_eq_true rfl) ?_
    rintro r1 _ _ I1 _ _ hq1
    have hz : r1 = some (.int 0) ∨ r1 = some (.int 1) := by
      rcases hp1 : partK (kdT tt N) (nmT tt N) k i p with ⟨j1, q1, _ | v1⟩
      · exact Or.inl (hq1.2.2.2.2.2.2 j1 q1 hp1).1
      · exact Or.inr (hq1.2.2.2.2.2.1 j1 q1 v1 hp1).1
    rcases hz with rfl | rfl
    · exact V.zret (pc := 14) dX4_readPart_14 rfl (by first | exact Or.inl rfl | exact Or.inr rfl | exact bi_or | assumption) hq1
    · exact V.zret (pc := 14) dX4_readPart_14 rfl (by first | exact Or.inl rfl | exact Or.inr rfl | exact bi_or | assumption) hq1
  · have eN : ¬ (300 ≤ kdT tt N i ∧ p < 50 ∧ nmT tt N i ≤ 10000) → partK (kdT tt N) (nmT tt N) k i p = (i, p, none) := fun qn => by cases k <;> (rw [partK, dPart, if_neg q91, if_neg qn])
    have eY : (300 ≤ kdT tt N i ∧ p < 50 ∧ nmT tt N i ≤ 10000) → partK (kdT tt N) (nmT tt N) k i p = (i + 1, p + 1, some (svLeaf (kdT tt N i - 300).toNat (nmT tt N i))) := fun qn => by cases k <;> (rw [partK, dPart, if_neg q91, if_pos qn])
    refine V.aload_n (pc := 0) dX4_readPart_0 rfl ?_
    refine V.getI (pc := 1) dX4_readPart_1 fX4_22_4 rfl hRd.o ?_
    rw [e2]
    refine V.bipush (v := 91) (pc := 4) dX4_readPart_4 (by decide) ?_
    refine V.icmp_ne 15 (pc := 6) dX4_readPart_6 (by decide) (fun h6 => ?_) (fun h6 => absurd ((iI_eqc (z := kdT tt N i) (k := 91) (by omega) (by decide)).mp h6) q91)
    refine V.aload_n (pc := 15) dX4_readPart_15 rfl ?_
    refine V.getI (pc := 16) dX4_readPart_16 fX4_22_4 rfl hRd.o ?_
    rw [e2]
    refine V.sipush (v := 300) (pc := 19) dX4_readPart_19 (by decide) ?_
    refine V.icmp_lt 44 (pc := 22) dX4_readPart_22 (by decide) (fun h22 => ?_) (fun h22 => ?_)
    · rw [lt32, iI_toInt (by omega) (by omega), show (300 : Int32).toInt = 300 from rfl] at h22
      have eD := eN (by omega)
      refine V.iconst (v := 0) (pc := 44) dX4_readPart_44 (by decide) ?_
      exact V.zret (pc := 45) dX4_readPart_45 rfl (by first | exact Or.inl rfl | exact Or.inr rfl | exact bi_or | assumption) ⟨rfl, rfl, rfl, rfl, XrF.rf, fun j q v e => (by rw [eD] at e; cases e), fun j q e => (by rw [eD] at e; cases e; exact ⟨rfl, p, s, c, hX⟩)⟩
    · rw [lt32, iI_toInt (by omega) (by omega), show (300 : Int32).toInt = 300 from rfl] at h22
      refine V.aload_n (pc := 25) dX4_readPart_25 rfl ?_
      refine V.getI (pc := 26) dX4_readPart_26 fX4_31_4 rfl hRd.o ?_
      rw [e5]
      refine V.bipush (v := 50) (pc := 29) dX4_readPart_29 (by decide) ?_
      refine V.icmp_ge 44 (pc := 31) dX4_readPart_31 (by decide) (fun h31 => ?_) (fun h31 => ?_)
      · rw [show (50 : Int32) = nI 50 from rfl, nI_leI (by omega) (by omega)] at h31
        have eD := eN (by omega)
        refine V.iconst (v := 0) (pc := 44) dX4_readPart_44 (by decide) ?_
        exact V.zret (pc := 45) dX4_readPart_45 rfl (by first | exact Or.inl rfl | exact Or.inr rfl | exact bi_or | assumption) ⟨rfl, rfl, rfl, rfl, XrF.rf, fun j q v e => (by rw [eD] at e; cases e), fun j q e => (by rw [eD] at e; cases e; exact ⟨rfl, p, s, c, hX⟩)⟩
      · rw [show (50 : Int32) = nI 50 from rfl, nI_leI (by omega) (by omega)] at h31
        refine V.aload_n (pc := 34) dX4_readPart_34 rfl ?_
        refine V.getI (pc := 35) dX4_readPart_35 fX4_25_4 rfl hRd.o ?_
        rw [e3]
        refine V.sipush (v := 10000) (pc := 38) dX4_readPart_38 (by decide) ?_
        refine V.icmp_le 46 (pc := 41) dX4_readPart_41 (by decide) (fun h41 => ?_) (fun h41 => ?_)
        · rw [show (10000 : Int32) = nI 10000 from rfl, nI_leI (by omega) (by omega)] at h41
          have eD := eY ⟨by omega, by omega, h41⟩
          have hi1 : i + 1 ≤ tkN tt N := nxt hE hiE (by omega)
          refine V.aload_n (pc := 46) dX4_readPart_46 rfl ?_
          refine V.dup (pc := 47) dX4_readPart_47 rfl ?_
          refine V.getI (pc := 48) dX4_readPart_48 fX4_31_4 rfl hRd.o ?_
          rw [e5]
          refine V.iconst (v := 1) (pc := 51) dX4_readPart_51 (by decide) ?_
          refine V.iadd (pc := 52) dX4_readPart_52 ?_
          rw [nI_1]
          refine V.putI (pc := 53) dX4_readPart_53 fX4_31_4 (fun r h => by cases h; exact Or.inl rfl) rfl hRd.o ?_
          refine V.aload_n (pc := 56) dX4_readPart_56 rfl ?_
          refine V.aload_n (pc := 57) dX4_readPart_57 rfl ?_
          refine V.getI (pc := 58) dX4_readPart_58 fX4_22_4 rfl hRd.o ?_
          rw [up2_ne (by omega), e2]
          refine V.sipush (v := 300) (pc := 61) dX4_readPart_61 (by decide) ?_
          refine V.isub (pc := 64) dX4_readPart_64 ?_
          rw [show (300 : Int32) = iI 300 from rfl, iI_sub, show kdT tt N i - 300 = (((kdT tt N i - 300).toNat : Nat) : Int) by omega, iI_nat]
          refine V.aload_n (pc := 65) dX4_readPart_65 rfl ?_
          refine V.getI (pc := 66) dX4_readPart_66 fX4_25_4 rfl hRd.o ?_
          rw [up2_ne (by omega), e3]
          refine V.invV0 (as := [_, _]) (pc := 69) dX4_readPart_69 lX4_97 bX4_addStep nX4_addStep (ci := 4) rfl eX4_addStep hRd.o (x_addStep (d := d + 2) (s := s) (kd := (kdT tt N i - 300).toNat) (v := nmT tt N i) _ _ hRd (by rw [up2_ne (by omega)]; exact e7) (by omega) (by omega) (by omega) rfl rfl) (by omega) rfl (Nat.le_of_ble_eq_true rfl) ?_
          rintro _ _ _ _ _ _ ⟨rfl, rfl, rfl, rfl, rfl, rfl⟩
          refine V.aload_n (pc := 72) dX4_readPart_72 rfl ?_
          refine V.invV0 (as := []) (pc := 73) dX4_readPart_73 lX4_54 bX4_nextToken nX4_nextToken (ci := 4) rfl eX4_nextToken hRd.o (x_nextToken (d := d + 1) (N := N) (tt := tt) (i := i + 1) hRd (TkX.keep hX.2.2.2.1 (fun b h1 h2 => by rw [up2_off (by omega), up2_off (by omega), up2_off (by omega)])) hi1 hE4 (by rw [up2_ne (by omega), up2_off (by omega), up2_ne (by omega), hX.1.1, ← iI_nat]; congr 1; omega)) (by omega) rfl (Nat.le_of_ble_eq_true rfl) ?_
          rintro _ _ _ I1 _ _ ⟨rfl, rfl, rfl, rfl, rfl, n1, n2, n3⟩
          refine V.iconst (v := 1) (pc := 76) dX4_readPart_76 (by decide) ?_
          exact V.zret (pc := 77) dX4_readPart_77 rfl (by first | exact Or.inl rfl | exact Or.inr rfl | exact bi_or | assumption) ⟨rfl, rfl, rfl, rfl, ((((XrF.rf.up (by omega)).up (by omega)).up (by omega)).tr (nxF n1 n2)), fun j q v e => (by rw [eD] at e; cases e; exact ⟨rfl, hX.leaf (by omega) h41 (by omega) hi1 n1 n2 n3⟩), fun j q e => (by rw [eD] at e; cases e)⟩
        · rw [show (10000 : Int32) = nI 10000 from rfl, nI_leI (by omega) (by omega)] at h41
          have eD := eN (by omega)
          refine V.iconst (v := 0) (pc := 44) dX4_readPart_44 (by decide) ?_
          exact V.zret (pc := 45) dX4_readPart_45 rfl (by first | exact Or.inl rfl | exact Or.inr rfl | exact bi_or | assumption) ⟨rfl, rfl, rfl, rfl, XrF.rf, fun j q v e => (by rw [eD] at e; cases e), fun j q e => (by rw [eD] at e; cases e; exact ⟨rfl, p, s, c, hX⟩)⟩
theorem l_term {g : gG} {d : Nat} {T : mT} {n : Nat} {I : mI} {J : mJ} {F : mF} {Q : mQ} {k : Nat} {u N i p s : Nat} {tt : Nat → Nat} {c : Nat → Nat} {res : PS} (hS : k = 0 ∨ SumCt (k - 1)) (hk8 : k ≤ 8) (hd : 4 * k ≤ d) (hRd : RrS T F u) (hN : TtM tt N) (hQ : ∀ (r' : Option Value) (I' : mI), XrF u I I' → (∀ j q v, res = (j, q, some v) → r' = some (.int 1) ∧ SvY tt N u i s c I' j q v) → (∀ j q, res = (j, q, none) → r' = some (.int 0) ∧ XrN tt N u I' j) → Q r' T n I' J F) : ∀ (f it j q s1 : Nat) (c1 : Nat → Nat) (v : SV) (I' : mI), it + f = 400 → XrF u I I' → XrM tt N I' u j q s1 c1 → s ≤ s1 → s1 + i ≤ j + s → i < j → (∀ t, t < s → c1 t = c t) → RealX c1 s s1 v → res = dLoop (kdT tt N) mulOp (partK (kdT tt N) (nmT tt N) k) f j q v → V g mX4_readTerm (d + 4) Q 0 0 12 [some (.ref u), some (.int (nI (8 - k))), some (.int (nI it)), none] [] T n I' J F := by
  have hE := hN.end
  have hE4 := hE.1
  intro f
  induction f with
  | zero =>
    intro it j q s1 c1 v I' hit hf hX h1 h2 h3 h4 hv hres
    obtain rfl : it = 400 := by omega
    have eD : res = (j, q, some v) := hres
    refine V.iload_n (pc := 12) dX4_readTerm_12 rfl ?_
    refine V.sipush (v := 400) (pc := 13) dX4_readTerm_13 (by decide) ?_
    refine V.icmp_ge 64 (pc := 16) dX4_readTerm_16 (by decide) (fun h16 => ?_) (fun h16 => absurd (by decide) h16)
    refine V.iconst (v := 1) (pc := 64) dX4_readTerm_64 (by decide) ?_
    exact V.zret (pc := 65) dX4_readTerm_65 rfl (by first | exact Or.inl rfl | exact Or.inr rfl | exact bi_or | assumption) (hQ _ I' hf (fun j q v e => (by rw [eD] at e; cases e; exact ⟨rfl, s1, c1, hX, h1, h2, h3, h4, hv⟩)) (fun j q e => (by rw [eD] at e; cases e)))
  | succ f ih =>
    intro it j q s1 c1 v I' hit hf hX h1 h2 h3 h4 hv hres
    have hkl := hN.kd j
    have hkg := kdT_ge (tt := tt) (N := N) (i := j)
    have e2 : I' u 2 = iI (kdT tt N j) := hX.1.2.1
    rw [dLoop] at hres
    have hko := muK_op (k := kdT tt N j)
    refine V.iload_n (pc := 12) dX4_readTerm_12 rfl ?_
    refine V.sipush (v := 400) (pc := 13) dX4_readTerm_13 (by decide) ?_
    refine V.icmp_ge 64 (pc := 16) dX4_readTerm_16 (by decide) (fun h16 => absurd (show nI 400 ≤ nI it from h16) (nI_ge (by omega) (by omega))) (fun h16 => ?_)
    refine V.aload_n (pc := 19) dX4_readTerm_19 rfl ?_
    refine V.getI (pc := 20) dX4_readTerm_20 fX4_22_4 rfl hRd.o ?_
    rw [e2]
    refine V.pS (as := [_]) (pc := 23) dX4_readTerm_23 lX4_123 bX4_multiplierOf sX4_multiplierOf (x_multiplierOf (d := d + 3) (z := kdT tt N j) (by omega)) (by omega) rfl (Nat.le_of_ble_eq_true rfl) ?_
    refine V.iconst (v := (-1)) (pc := 26) dX4_readTerm_26 (by decide) ?_
    refine V.icmp_eq 64 (pc := 27) dX4_readTerm_27 (by decide) (fun h27 => ?_) (fun h27 => ?_)
    · have hz : muK (kdT tt N j) = 0 := by
        unfold kOr at h27
        split at h27
        · assumption
        · rw [show (-1 : Int32) = iI (-1) from rfl, iI_eqc (by have := hko.2 (by assumption); omega) (by decide)] at h27; omega
      have hk0 : mulOp (kdT tt N j) = 0 := hko.1.mpr hz
      rw [if_pos hk0] at hres
      have eD := hres
      refine V.iconst (v := 1) (pc := 64) dX4_readTerm_64 (by decide) ?_
      exact V.zret (pc := 65) dX4_readTerm_65 rfl (by first | exact Or.inl rfl | exact Or.inr rfl | exact bi_or | assumption) (hQ _ I' hf (fun j q v e => (by rw [eD] at e; cases e; exact ⟨rfl, s1, c1, hX, h1, h2, h3, h4, hv⟩)) (fun j q e => (by rw [eD] at e; cases e)))
    · have hz : ¬ muK (kdT tt N j) = 0 := fun z => h27 (by unfold kOr; rw [if_pos z]; rfl)
      have hk0 : ¬ mulOp (kdT tt N j) = 0 := fun z => hz (hko.1.mp z)
      rw [if_neg hk0] at hres
      obtain ⟨b1, b2, b3⟩ := hko.2 hz
      have hj1 : j + 1 ≤ tkN tt N := nxt hE hX.2.2.2.2.1 (by intro z; rw [z] at hz; exact hz (by decide))
      refine V.aload_n (pc := 30) dX4_readTerm_30 rfl ?_
      refine V.getI (pc := 31) dX4_readTerm_31 fX4_22_4 rfl hRd.o ?_
      rw [e2]
      refine V.pS (as := [_]) (pc := 34) dX4_readTerm_34 lX4_123 bX4_multiplierOf sX4_multiplierOf (x_multiplierOf (d := d + 3) (z := kdT tt N j) (by omega)) (by omega) rfl (Nat.le_of_ble_eq_true rfl) ?_
      refine V.isn (pc := 37) dX4_readTerm_37 (by decide) (st1_3 rfl) ?_
      refine V.aload_n (pc := 38) dX4_readTerm_38 rfl ?_
      refine V.invV0 (as := []) (pc := 39) dX4_readTerm_39 lX4_54 bX4_nextToken nX4_nextToken (ci := 4) rfl eX4_nextToken hRd.o (x_nextToken (d := d + 2) (N := N) (tt := tt) (i := j + 1) hRd hX.2.2.2.1 hj1 hE4 (by rw [hX.1.1, ← iI_nat]; congr 1; omega)) (by omega) rfl (Nat.le_of_ble_eq_true rfl) ?_
      rintro _ _ _ I1 _ _ ⟨rfl, rfl, rfl, rfl, rfl, n1, n2, n3⟩
      have hX1 := hX.nx n1 n2 n3 hj1
      refine V.aload_n (pc := 42) dX4_readTerm_42 rfl ?_
      refine V.iload_n (pc := 43) dX4_readTerm_43 rfl ?_
      refine V.invV0 (as := [_]) (pc := 44) dX4_readTerm_44 lX4_120 bX4_readPart nX4_readPart (ci := 4) rfl eX4_readPart hRd.o (x_part (d := d + 0) (k := k) hS hk8 hd hRd hN hX1) (by omega) rfl (Nat.le_of_ble_eq_true rfl) ?_
      rintro r2 _ _ I2 _ _ ⟨rfl, rfl, rfl, rfl, f2, hy2, hn2⟩
      rcases hp2 : partK (kdT tt N) (nmT tt N) k (j + 1) q with ⟨j2, q2, _ | v2⟩
      · obtain ⟨rfl, hN2⟩ := hn2 j2 q2 hp2
        rw [hp2] at hres
        have eD := hres
        refine V.if_ne 52 (pc := 47) dX4_readTerm_47 (by decide) (fun h47 => absurd rfl h47) (fun h47 => ?_)
        refine V.iconst (v := 0) (pc := 50) dX4_readTerm_50 (by decide) ?_
        exact V.zret (pc := 51) dX4_readTerm_51 rfl (by first | exact Or.inl rfl | exact Or.inr rfl | exact bi_or | assumption) (hQ _ I2 ((hf.tr (nxF n1 n2)).tr f2) (fun j q v e => (by rw [eD] at e; cases e)) (fun j q e => (by rw [eD] at e; cases e; exact ⟨rfl, hN2⟩)))
      · obtain ⟨rfl, hV2⟩ := hy2 j2 q2 v2 hp2
        rw [hp2] at hres
        obtain ⟨s2, c2, x1, x2, x3, x4, x5, x6, x7, x8⟩ := SvY.op hX h1 h2 h3 h4 hv hV2 (by omega) b3
        refine V.if_ne 52 (pc := 47) dX4_readTerm_47 (by decide) (fun h47 => ?_) (fun h47 => absurd h47 (by decide))
        refine V.aload_n (pc := 52) dX4_readTerm_52 rfl ?_
        refine V.iload_n (pc := 53) dX4_readTerm_53 rfl ?_
        refine V.iconst (v := 0) (pc := 54) dX4_readTerm_54 (by decide) ?_
        refine V.invV0 (as := [_, _]) (pc := 55) dX4_readTerm_55 lX4_97 bX4_addStep nX4_addStep (ci := 4) rfl eX4_addStep hRd.o (x_addStep (d := d + 3) (s := s2) (kd := muK (kdT tt N j)) (v := 0) _ _ hRd x1.2.2.1.1 (by have := x1.2.2.2.2.1; omega) (by omega) (by omega) (by unfold kOr; rw [if_neg hz, iI_nat]) rfl) (by omega) rfl (Nat.le_of_ble_eq_true rfl) ?_
        rintro _ _ _ _ _ _ ⟨rfl, rfl, rfl, rfl, rfl, rfl⟩
        refine V.iinc1 (pc := 58) dX4_readTerm_58 (by decide) rfl (st1_2 rfl) ?_
        refine V.goto 12 (pc := 61) dX4_readTerm_61 (by decide) ?_
        rw [nI_1]
        refine V.weak wk_3 ?_
        exact ih (it + 1) j2 q2 (s2 + 1) _ _ _ (by omega) ((((hf.tr (nxF n1 n2)).tr f2).up (by omega)).up (by omega)) x3 x4 x5 x6 x7 x8 hres
theorem x_term {g : gG} {d : Nat} {T : mT} {n : Nat} {I : mI} {J : mJ} {F : mF} {k : Nat} {u N i p s : Nat} {tt : Nat → Nat} {c : Nat → Nat} (hS : k = 0 ∨ SumCt (k - 1)) (hk8 : k ≤ 8) (hd : 4 * k ≤ d) (hRd : RrS T F u) (hN : TtM tt N) (hX : XrM tt N I u i p s c) : Ct g mX4_readTerm (d + 4) [.ref u, .int (nI (8 - k))] 0 0 T n I J F (QV T n I J F u N i s tt c (dChain (kdT tt N) mulOp (partK (kdT tt N) (nmT tt N) k) i p)) := by
  refine Ct.ofV (k := 2) (by decide) (Nat.le_of_ble_eq_true rfl) ?_
  show V g mX4_readTerm (d + 4) _ 0 0 0 [some (.ref u), some (.int (nI (8 - k))), none, none] [] T n I J F
  refine V.aload_n (pc := 0) dX4_readTerm_0 rfl ?_
  refine V.iload_n (pc := 1) dX4_readTerm_1 rfl ?_
  refine V.invV0 (as := [_]) (pc := 2) dX4_readTerm_2 lX4_120 bX4_readPart nX4_readPart (ci := 4) rfl eX4_readPart hRd.o (x_part (d := d + 0) (k := k) hS hk8 hd hRd hN hX) (by omega) rfl (Nat.le_of_ble_eq_true rfl) ?_
  rintro r1 _ _ I1 _ _ ⟨rfl, rfl, rfl, rfl, f1, hy1, hn1⟩
  rcases hp1 : partK (kdT tt N) (nmT tt N) k i p with ⟨j1, q1, _ | v1⟩
  · obtain ⟨rfl, hN1⟩ := hn1 j1 q1 hp1
    have eD : dChain (kdT tt N) mulOp (partK (kdT tt N) (nmT tt N) k) i p = (j1, q1, none) := by rw [dChain, hp1]
    refine V.if_ne 10 (pc := 5) dX4_readTerm_5 (by decide) (fun h5 => absurd rfl h5) (fun h5 => ?_)
    refine V.iconst (v := 0) (pc := 8) dX4_readTerm_8 (by decide) ?_
    exact V.zret (pc := 9) dX4_readTerm_9 rfl (by first | exact Or.inl rfl | exact Or.inr rfl | exact bi_or | assumption) ⟨rfl, rfl, rfl, rfl, f1, fun j q v e => (by rw [eD] at e; cases e), fun j q e => (by rw [eD] at e; cases e; exact ⟨rfl, hN1⟩)⟩
  · obtain ⟨rfl, hV1⟩ := hy1 j1 q1 v1 hp1
    obtain ⟨s1, c1, x1, x2, x3, x4, x5, x6⟩ := hV1
    refine V.if_ne 10 (pc := 5) dX4_readTerm_5 (by decide) (fun h5 => ?_) (fun h5 => absurd h5 (by decide))
    refine V.iconst (v := 0) (pc := 10) dX4_readTerm_10 (by decide) ?_
    refine V.isn (pc := 11) dX4_readTerm_11 (by decide) (st1_2 rfl) ?_
    exact l_term (p := p) hS hk8 hd hRd hN (res := dChain (kdT tt N) mulOp (partK (kdT tt N) (nmT tt N) k) i p) (fun r' I' h1 h2 h3 => ⟨rfl, rfl, rfl, rfl, h1, h2, h3⟩) 400 0 j1 q1 s1 c1 v1 I1 rfl f1 x1 x2 x3 x4 x5 x6 (by rw [dChain, hp1])
theorem l_sum_ {g : gG} {d : Nat} {T : mT} {n : Nat} {I : mI} {J : mJ} {F : mF} {Q : mQ} {k : Nat} {u N i p s : Nat} {tt : Nat → Nat} {c : Nat → Nat} {res : PS} (hS : k = 0 ∨ SumCt (k - 1)) (hk8 : k ≤ 8) (hd : 4 * k ≤ d) (hRd : RrS T F u) (hN : TtM tt N) (hQ : ∀ (r' : Option Value) (I' : mI), XrF u I I' → (∀ j q v, res = (j, q, some v) → r' = some (.int 1) ∧ SvY tt N u i s c I' j q v) → (∀ j q, res = (j, q, none) → r' = some (.int 0) ∧ XrN tt N u I' j) → Q r' T n I' J F) : ∀ (f it j q s1 : Nat) (c1 : Nat → Nat) (v : SV) (I' : mI), it + f = 400 → XrF u I I' → XrM tt N I' u j q s1 c1 → s ≤ s1 → s1 + i ≤ j + s → i < j → (∀ t, t < s → c1 t = c t) → RealX c1 s s1 v → res = dLoop (kdT tt N) addOp (dChain (kdT tt N) mulOp (partK (kdT tt N) (nmT tt N) k)) f j q v → V g mX4_readSum (d + 5) Q 0 0 12 [some (.ref u), some (.int (nI (8 - k))), some (.int (nI it)), none] [] T n I' J F := by
  have hE := hN.end
  have hE4 := hE.1
  intro f
  induction f with
  | zero =>
    intro it j q s1 c1 v I' hit hf hX h1 h2 h3 h4 hv hres
    obtain rfl : it = 400 := by omega
    have eD : res = (j, q, some v) := hres
    refine V.iload_n (pc := 12) dX4_readSum_12 rfl ?_
    refine V.sipush (v := 400) (pc := 13) dX4_readSum_13 (by decide) ?_
    refine V.icmp_ge 80 (pc := 16) dX4_readSum_16 (by decide) (fun h16 => ?_) (fun h16 => absurd (by decide) h16)
    refine V.iconst (v := 1) (pc := 80) dX4_readSum_80 (by decide) ?_
    exact V.zret (pc := 81) dX4_readSum_81 rfl (by first | exact Or.inl rfl | exact Or.inr rfl | exact bi_or | assumption) (hQ _ I' hf (fun j q v e => (by rw [eD] at e; cases e; exact ⟨rfl, s1, c1, hX, h1, h2, h3, h4, hv⟩)) (fun j q e => (by rw [eD] at e; cases e)))
  | succ f ih =>
    intro it j q s1 c1 v I' hit hf hX h1 h2 h3 h4 hv hres
    have hkl := hN.kd j
    have hkg := kdT_ge (tt := tt) (N := N) (i := j)
    have e2 : I' u 2 = iI (kdT tt N j) := hX.1.2.1
    rw [dLoop] at hres
    have hko := adK_op (k := kdT tt N j)
    by_cases q43 : kdT tt N j = 43
    · have ek : adK (kdT tt N j) = 6 := by rw [q43]; rfl
      have hz : ¬ adK (kdT tt N j) = 0 := by rw [ek]; decide
      have hk0 : ¬ addOp (kdT tt N j) = 0 := fun z => hz (hko.1.mp z)
      rw [if_neg hk0] at hres
      obtain ⟨b1, b2, b3⟩ := hko.2 hz
      have hj1 : j + 1 ≤ tkN tt N := nxt hE hX.2.2.2.2.1 (by intro z; rw [z] at hz; exact hz (by decide))
      refine V.iload_n (pc := 12) dX4_readSum_12 rfl ?_
      refine V.sipush (v := 400) (pc := 13) dX4_readSum_13 (by decide) ?_
      refine V.icmp_ge 80 (pc := 16) dX4_readSum_16 (by decide) (fun h16 => absurd (show nI 400 ≤ nI it from h16) (nI_ge (by omega) (by omega))) (fun h16 => ?_)
      refine V.aload_n (pc := 19) dX4_readSum_19 rfl ?_
      refine V.getI (pc := 20) dX4_readSum_20 fX4_22_4 rfl hRd.o ?_
      rw [e2]
      refine V.bipush (v := 43) (pc := 23) dX4_readSum_23 (by decide) ?_
      refine V.icmp_eq 37 (pc := 25) dX4_readSum_25 (by decide) (fun h25 => ?_) (fun h25 => absurd (by rw [q43]; rfl) h25)
      refine V.aload_n (pc := 37) dX4_readSum_37 rfl ?_
      refine V.getI (pc := 38) dX4_readSum_38 fX4_22_4 rfl hRd.o ?_
      rw [e2]
      refine V.bipush (v := 43) (pc := 41) dX4_readSum_41 (by decide) ?_
      refine V.icmp_ne 51 (pc := 43) dX4_readSum_43 (by decide) (fun h43 => absurd (by rw [q43]; rfl) h43) (fun h43 => ?_)
      refine V.bipush (v := 6) (pc := 46) dX4_readSum_46 (by decide) ?_
      refine V.goto 53 (pc := 48) dX4_readSum_48 (by decide) ?_
      refine V.isn (pc := 53) dX4_readSum_53 (by decide) (st1_3 rfl) ?_
      refine V.aload_n (pc := 54) dX4_readSum_54 rfl ?_
      refine V.invV0 (as := []) (pc := 55) dX4_readSum_55 lX4_54 bX4_nextToken nX4_nextToken (ci := 4) rfl eX4_nextToken hRd.o (x_nextToken (d := d + 3) (N := N) (tt := tt) (i := j + 1) hRd hX.2.2.2.1 hj1 hE4 (by rw [hX.1.1, ← iI_nat]; congr 1; omega)) (by omega) rfl (Nat.le_of_ble_eq_true rfl) ?_
      rintro _ _ _ I1 _ _ ⟨rfl, rfl, rfl, rfl, rfl, n1, n2, n3⟩
      have hX1 := hX.nx n1 n2 n3 hj1
      refine V.aload_n (pc := 58) dX4_readSum_58 rfl ?_
      refine V.iload_n (pc := 59) dX4_readSum_59 rfl ?_
      refine V.invV0 (as := [_]) (pc := 60) dX4_readSum_60 lX4_117 bX4_readTerm nX4_readTerm (ci := 4) rfl eX4_readTerm hRd.o (x_term (d := d + 0) (k := k) hS hk8 hd hRd hN hX1) (by omega) rfl (Nat.le_of_ble_eq_true rfl) ?_
      rintro r2 _ _ I2 _ _ ⟨rfl, rfl, rfl, rfl, f2, hy2, hn2⟩
      rcases hp2 : dChain (kdT tt N) mulOp (partK (kdT tt N) (nmT tt N) k) (j + 1) q with ⟨j2, q2, _ | v2⟩
      · obtain ⟨rfl, hN2⟩ := hn2 j2 q2 hp2
        rw [hp2] at hres
        have eD := hres
        refine V.if_ne 68 (pc := 63) dX4_readSum_63 (by decide) (fun h63 => absurd rfl h63) (fun h63 => ?_)
        refine V.iconst (v := 0) (pc := 66) dX4_readSum_66 (by decide) ?_
        exact V.zret (pc := 67) dX4_readSum_67 rfl (by first | exact Or.inl rfl | exact Or.inr rfl | exact bi_or | assumption) (hQ _ I2 ((hf.tr (nxF n1 n2)).tr f2) (fun j q v e => (by rw [eD] at e; cases e)) (fun j q e => (by rw [eD] at e; cases e; exact ⟨rfl, hN2⟩)))
      · obtain ⟨rfl, hV2⟩ := hy2 j2 q2 v2 hp2
        rw [hp2] at hres
        obtain ⟨s2, c2, x1, x2, x3, x4, x5, x6, x7, x8⟩ := SvY.op hX h1 h2 h3 h4 hv hV2 (by omega) b3
        refine V.if_ne 68 (pc := 63) dX4_readSum_63 (by decide) (fun h63 => ?_) (fun h63 => absurd h63 (by decide))
        refine V.aload_n (pc := 68) dX4_readSum_68 rfl ?_
        refine V.iload_n (pc := 69) dX4_readSum_69 rfl ?_
        refine V.iconst (v := 0) (pc := 70) dX4_readSum_70 (by decide) ?_
        refine V.invV0 (as := [_, _]) (pc := 71) dX4_readSum_71 lX4_97 bX4_addStep nX4_addStep (ci := 4) rfl eX4_addStep hRd.o (x_addStep (d := d + 4) (s := s2) (kd := adK (kdT tt N j)) (v := 0) _ _ hRd x1.2.2.1.1 (by have := x1.2.2.2.2.1; omega) (by omega) (by omega) (by rw [ek]; rfl) rfl) (by omega) rfl (Nat.le_of_ble_eq_true rfl) ?_
        rintro _ _ _ _ _ _ ⟨rfl, rfl, rfl, rfl, rfl, rfl⟩
        refine V.iinc1 (pc := 74) dX4_readSum_74 (by decide) rfl (st1_2 rfl) ?_
        refine V.goto 12 (pc := 77) dX4_readSum_77 (by decide) ?_
        rw [nI_1]
        refine V.weak wk_3 ?_
        exact ih (it + 1) j2 q2 (s2 + 1) _ _ _ (by omega) ((((hf.tr (nxF n1 n2)).tr f2).up (by omega)).up (by omega)) x3 x4 x5 x6 x7 x8 hres
    · by_cases q45 : kdT tt N j = 45
      · have ek : adK (kdT tt N j) = 7 := by rw [q45]; rfl
        have hz : ¬ adK (kdT tt N j) = 0 := by rw [ek]; decide
        have hk0 : ¬ addOp (kdT tt N j) = 0 := fun z => hz (hko.1.mp z)
        rw [if_neg hk0] at hres
        obtain ⟨b1, b2, b3⟩ := hko.2 hz
        have hj1 : j + 1 ≤ tkN tt N := nxt hE hX.2.2.2.2.1 (by intro z; rw [z] at hz; exact hz (by decide))
        refine V.iload_n (pc := 12) dX4_readSum_12 rfl ?_
        refine V.sipush (v := 400) (pc := 13) dX4_readSum_13 (by decide) ?_
        refine V.icmp_ge 80 (pc := 16) dX4_readSum_16 (by decide) (fun h16 => absurd (show nI 400 ≤ nI it from h16) (nI_ge (by omega) (by omega))) (fun h16 => ?_)
        refine V.aload_n (pc := 19) dX4_readSum_19 rfl ?_
        refine V.getI (pc := 20) dX4_readSum_20 fX4_22_4 rfl hRd.o ?_
        rw [e2]
        refine V.bipush (v := 43) (pc := 23) dX4_readSum_23 (by decide) ?_
        refine V.icmp_eq 37 (pc := 25) dX4_readSum_25 (by decide) (fun h25 => absurd ((iI_eqc (z := kdT tt N j) (k := 43) (by omega) (by decide)).mp h25) q43) (fun h25 => ?_)
        refine V.aload_n (pc := 28) dX4_readSum_28 rfl ?_
        refine V.getI (pc := 29) dX4_readSum_29 fX4_22_4 rfl hRd.o ?_
        rw [e2]
        refine V.bipush (v := 45) (pc := 32) dX4_readSum_32 (by decide) ?_
        refine V.icmp_ne 80 (pc := 34) dX4_readSum_34 (by decide) (fun h34 => absurd (by rw [q45]; rfl) h34) (fun h34 => ?_)
        refine V.aload_n (pc := 37) dX4_readSum_37 rfl ?_
        refine V.getI (pc := 38) dX4_readSum_38 fX4_22_4 rfl hRd.o ?_
        rw [e2]
        refine V.bipush (v := 43) (pc := 41) dX4_readSum_41 (by decide) ?_
        refine V.icmp_ne 51 (pc := 43) dX4_readSum_43 (by decide) (fun h43 => ?_) (fun h43 => absurd ((iI_eqc (z := kdT tt N j) (k := 43) (by omega) (by decide)).mp h43) q43)
        refine V.bipush (v := 7) (pc := 51) dX4_readSum_51 (by decide) ?_
        refine V.isn (pc := 53) dX4_readSum_53 (by decide) (st1_3 rfl) ?_
        refine V.aload_n (pc := 54) dX4_readSum_54 rfl ?_
        refine V.invV0 (as := []) (pc := 55) dX4_readSum_55 lX4_54 bX4_nextToken nX4_nextToken (ci := 4) rfl eX4_nextToken hRd.o (x_nextToken (d := d + 3) (N := N) (tt := tt) (i := j + 1) hRd hX.2.2.2.1 hj1 hE4 (by rw [hX.1.1, ← iI_nat]; congr 1; omega)) (by omega) rfl (Nat.le_of_ble_eq_true rfl) ?_
        rintro _ _ _ I1 _ _ ⟨rfl, rfl, rfl, rfl, rfl, n1, n2, n3⟩
        have hX1 := hX.nx n1 n2 n3 hj1
        refine V.aload_n (pc := 58) dX4_readSum_58 rfl ?_
        refine V.iload_n (pc := 59) dX4_readSum_59 rfl ?_
        refine V.invV0 (as := [_]) (pc := 60) dX4_readSum_60 lX4_117 bX4_readTerm nX4_readTerm (ci := 4) rfl eX4_readTerm hRd.o (x_term (d := d + 0) (k := k) hS hk8 hd hRd hN hX1) (by omega) rfl (Nat.le_of_ble_eq_true rfl) ?_
        rintro r2 _ _ I2 _ _ ⟨rfl, rfl, rfl, rfl, f2, hy2, hn2⟩
        rcases hp2 : dChain (kdT tt N) mulOp (partK (kdT tt N) (nmT tt N) k) (j + 1) q with ⟨j2, q2, _ | v2⟩
        · obtain ⟨rfl, hN2⟩ := hn2 j2 q2 hp2
          rw [hp2] at hres
          have eD := hres
          refine V.if_ne 68 (pc := 63) dX4_readSum_63 (by decide) (fun h63 => absurd rfl h63) (fun h63 => ?_)
          refine V.iconst (v := 0) (pc := 66) dX4_readSum_66 (by decide) ?_
          exact V.zret (pc := 67) dX4_readSum_67 rfl (by first | exact Or.inl rfl | exact Or.inr rfl | exact bi_or | assumption) (hQ _ I2 ((hf.tr (nxF n1 n2)).tr f2) (fun j q v e => (by rw [eD] at e; cases e)) (fun j q e => (by rw [eD] at e; cases e; exact ⟨rfl, hN2⟩)))
        · obtain ⟨rfl, hV2⟩ := hy2 j2 q2 v2 hp2
          rw [hp2] at hres
          obtain ⟨s2, c2, x1, x2, x3, x4, x5, x6, x7, x8⟩ := SvY.op hX h1 h2 h3 h4 hv hV2 (by omega) b3
          refine V.if_ne 68 (pc := 63) dX4_readSum_63 (by decide) (fun h63 => ?_) (fun h63 => absurd h63 (by decide))
          refine V.aload_n (pc := 68) dX4_readSum_68 rfl ?_
          refine V.iload_n (pc := 69) dX4_readSum_69 rfl ?_
          refine V.iconst (v := 0) (pc := 70) dX4_readSum_70 (by decide) ?_
          refine V.invV0 (as := [_, _]) (pc := 71) dX4_readSum_71 lX4_97 bX4_addStep nX4_addStep (ci := 4) rfl eX4_addStep hRd.o (x_addStep (d := d + 4) (s := s2) (kd := adK (kdT tt N j)) (v := 0) _ _ hRd x1.2.2.1.1 (by have := x1.2.2.2.2.1; omega) (by omega) (by omega) (by rw [ek]; rfl) rfl) (by omega) rfl (Nat.le_of_ble_eq_true rfl) ?_
          rintro _ _ _ _ _ _ ⟨rfl, rfl, rfl, rfl, rfl, rfl⟩
          refine V.iinc1 (pc := 74) dX4_readSum_74 (by decide) rfl (st1_2 rfl) ?_
          refine V.goto 12 (pc := 77) dX4_readSum_77 (by decide) ?_
          rw [nI_1]
          refine V.weak wk_3 ?_
          exact ih (it + 1) j2 q2 (s2 + 1) _ _ _ (by omega) ((((hf.tr (nxF n1 n2)).tr f2).up (by omega)).up (by omega)) x3 x4 x5 x6 x7 x8 hres
      · have hz : adK (kdT tt N j) = 0 := by unfold adK; rw [if_neg q43, if_neg q45]
        have hk0 : addOp (kdT tt N j) = 0 := hko.1.mpr hz
        rw [if_pos hk0] at hres
        have eD := hres
        refine V.iload_n (pc := 12) dX4_readSum_12 rfl ?_
        refine V.sipush (v := 400) (pc := 13) dX4_readSum_13 (by decide) ?_
        refine V.icmp_ge 80 (pc := 16) dX4_readSum_16 (by decide) (fun h16 => absurd (show nI 400 ≤ nI it from h16) (nI_ge (by omega) (by omega))) (fun h16 => ?_)
        refine V.aload_n (pc := 19) dX4_readSum_19 rfl ?_
        refine V.getI (pc := 20) dX4_readSum_20 fX4_22_4 rfl hRd.o ?_
        rw [e2]
        refine V.bipush (v := 43) (pc := 23) dX4_readSum_23 (by decide) ?_
        refine V.icmp_eq 37 (pc := 25) dX4_readSum_25 (by decide) (fun h25 => absurd ((iI_eqc (z := kdT tt N j) (k := 43) (by omega) (by decide)).mp h25) q43) (fun h25 => ?_)
        refine V.aload_n (pc := 28) dX4_readSum_28 rfl ?_
        refine V.getI (pc := 29) dX4_readSum_29 fX4_22_4 rfl hRd.o ?_
        rw [e2]
        refine V.bipush (v := 45) (pc := 32) dX4_readSum_32 (by decide) ?_
        refine V.icmp_ne 80 (pc := 34) dX4_readSum_34 (by decide) (fun h34 => ?_) (fun h34 => absurd ((iI_eqc (z := kdT tt N j) (k := 45) (by omega) (by decide)).mp h34) q45)
        refine V.iconst (v := 1) (pc := 80) dX4_readSum_80 (by decide) ?_
        exact V.zret (pc := 81) dX4_readSum_81 rfl (by first | exact Or.inl rfl | exact Or.inr rfl | exact bi_or | assumption) (hQ _ I' hf (fun j q v e => (by rw [eD] at e; cases e; exact ⟨rfl, s1, c1, hX, h1, h2, h3, h4, hv⟩)) (fun j q e => (by rw [eD] at e; cases e)))
theorem x_sum {g : gG} {d : Nat} {T : mT} {n : Nat} {I : mI} {J : mJ} {F : mF} {k : Nat} {u N i p s : Nat} {tt : Nat → Nat} {c : Nat → Nat} (hS : k = 0 ∨ SumCt (k - 1)) (hk8 : k ≤ 8) (hd : 4 * k ≤ d) (hRd : RrS T F u) (hN : TtM tt N) (hX : XrM tt N I u i p s c) : Ct g mX4_readSum (d + 5) [.ref u, .int (nI (8 - k))] 0 0 T n I J F (QV T n I J F u N i s tt c (dChain (kdT tt N) addOp (dChain (kdT tt N) mulOp (partK (kdT tt N) (nmT tt N) k)) i p)) := by
  refine Ct.ofV (k := 2) (by decide) (Nat.le_of_ble_eq_true rfl) ?_
  show V g mX4_readSum (d + 5) _ 0 0 0 [some (.ref u), some (.int (nI (8 - k))), none, none] [] T n I J F
  refine V.aload_n (pc := 0) dX4_readSum_0 rfl ?_
  refine V.iload_n (pc := 1) dX4_readSum_1 rfl ?_
  refine V.invV0 (as := [_]) (pc := 2) dX4_readSum_2 lX4_117 bX4_readTerm nX4_readTerm (ci := 4) rfl eX4_readTerm hRd.o (x_term (d := d + 0) (k := k) hS hk8 hd hRd hN hX) (by omega) rfl (Nat.le_of_ble_eq_true rfl) ?_
  rintro r1 _ _ I1 _ _ ⟨rfl, rfl, rfl, rfl, f1, hy1, hn1⟩
  rcases hp1 : dChain (kdT tt N) mulOp (partK (kdT tt N) (nmT tt N) k) i p with ⟨j1, q1, _ | v1⟩
  · obtain ⟨rfl, hN1⟩ := hn1 j1 q1 hp1
    have eD : dChain (kdT tt N) addOp (dChain (kdT tt N) mulOp (partK (kdT tt N) (nmT tt N) k)) i p = (j1, q1, none) := by rw [dChain, hp1]
    refine V.if_ne 10 (pc := 5) dX4_readSum_5 (by decide) (fun h5 => absurd rfl h5) (fun h5 => ?_)
    refine V.iconst (v := 0) (pc := 8) dX4_readSum_8 (by decide) ?_
    exact V.zret (pc := 9) dX4_readSum_9 rfl (by first | exact Or.inl rfl | exact Or.inr rfl | exact bi_or | assumption) ⟨rfl, rfl, rfl, rfl, f1, fun j q v e => (by rw [eD] at e; cases e), fun j q e => (by rw [eD] at e; cases e; exact ⟨rfl, hN1⟩)⟩
  · obtain ⟨rfl, hV1⟩ := hy1 j1 q1 v1 hp1
    obtain ⟨s1, c1, x1, x2, x3, x4, x5, x6⟩ := hV1
    refine V.if_ne 10 (pc := 5) dX4_readSum_5 (by decide) (fun h5 => ?_) (fun h5 => absurd h5 (by decide))
    refine V.iconst (v := 0) (pc := 10) dX4_readSum_10 (by decide) ?_
    refine V.isn (pc := 11) dX4_readSum_11 (by decide) (st1_2 rfl) ?_
    exact l_sum_ (p := p) hS hk8 hd hRd hN (res := dChain (kdT tt N) addOp (dChain (kdT tt N) mulOp (partK (kdT tt N) (nmT tt N) k)) i p) (fun r' I' h1 h2 h3 => ⟨rfl, rfl, rfl, rfl, h1, h2, h3⟩) 400 0 j1 q1 s1 c1 v1 I1 rfl f1 x1 x2 x3 x4 x5 x6 (by rw [dChain, hp1])
theorem SumCt.all : ∀ k, k ≤ 8 → SumCt k
  | 0, _ => fun g d T n I J F u N i p s tt c hd hRd hN hX => by
    rw [sumAt_K]
    exact x_sum (Or.inl rfl) (by decide) hd hRd hN hX
  | k + 1, hk => fun g d T n I J F u N i p s tt c hd hRd hN hX => by
    rw [sumAt_K]
    exact x_sum (Or.inr (SumCt.all k (by omega))) hk hd hRd hN hX
