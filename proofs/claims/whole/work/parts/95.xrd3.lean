-- tests
def plainK (kd : Nat → Int) (nm : Nat → Nat) : Nat → Nat → Nat → PT
  | 0 => dPlain kd (sumAt kd nm 0) (fun i p => (i, p, none)) 0
  | k + 1 => dPlain kd (sumAt kd nm (k + 1)) (testAt kd nm k) (k + 1)
theorem testAt_K (kd : Nat → Int) (nm : Nat → Nat) (k : Nat) : testAt kd nm k = dTChain kd 259 tvOr (dTChain kd 260 tvAnd (plainK kd nm k)) := by cases k <;> rfl
/-- a test in round brackets -/
def roundK (kd : Nat → Int) (nm : Nat → Nat) : Nat → Nat → Nat → PT
  | 0, i, p => (i, p, none)
  | k + 1, i, p => match testAt kd nm k (i + 1) p with
    | (j, q, some t) => if kd j = 41 then (j + 1, q, some t) else (j, q, none)
    | (j, q, none) => (j, q, none)
def bareK (kd : Nat → Int) (nm : Nat → Nat) (k i p : Nat) : PT := if kd i = 40 then roundK kd nm k i p else dComp kd (sumAt kd nm k) i p
theorem plainK_eq (kd : Nat → Int) (nm : Nat → Nat) (k i p : Nat) : plainK kd nm k i p = (match bareK kd nm k (dNots kd 400 i).2 p with
    | (j, q, some t) => (j, q, some (notN (dNots kd 400 i).1 t))
    | (j, q, none) => (j, q, none)) := by
  cases k with
  | zero =>
    rw [plainK, dPlain, bareK]
    by_cases h : kd (dNots kd 400 i).2 = 40
    · rw [if_pos h, if_pos h]; rfl
    · rw [if_neg h, if_neg h]
      rcases dComp kd (sumAt kd nm 0) (dNots kd 400 i).2 p with ⟨j, q, _ | t⟩ <;> rfl
  | succ k =>
    rw [plainK, dPlain, bareK]
    by_cases h : kd (dNots kd 400 i).2 = 40
    · rw [if_pos h, if_pos h, if_neg (by omega), roundK]
      rcases testAt kd nm k ((dNots kd 400 i).2 + 1) p with ⟨j, q, _ | t⟩
      · rfl
      · show (if kd j = 41 then _ else _) = _
        by_cases z : kd j = 41
        · rw [if_pos z]; simp only []; rw [if_pos z]
        · rw [if_neg z]; simp only []; rw [if_neg z]
    · rw [if_neg h, if_neg h]
      rcases dComp kd (sumAt kd nm (k + 1)) (dNots kd 400 i).2 p with ⟨j, q, _ | t⟩ <;> rfl
def TestCt (k : Nat) : Prop := ∀ (g : gG) (d : Nat) (T : mT) (n : Nat) (I : mI) (J : mJ) (F : mF) (u N i p s : Nat) (tt : Nat → Nat) (c : Nat → Nat), 4 * k ≤ d → RrS T F u → TtM tt N → XrM tt N I u i p s c → Ct g mX4_readTest (d + 9) [.ref u, .int (nI (8 - k))] 0 0 T n I J F (QT T n I J F u N i s tt c (testAt (kdT tt N) (nmT tt N) k i p))
section XR3
variable {tt : Nat → Nat} {N u i p s : Nat} {c : Nat → Nat} {I I' I'' : mI}
theorem TvY.cmp {j q kd op : Nat} {v w : SV} {i1 s1 : Nat} {c1 : Nat → Nat} {I1 I2 : mI} (hx : XrM tt N I1 u i1 p s1 c1) (h1 : s ≤ s1) (h2 : s1 + i ≤ i1 + s) (h3 : i < i1) (h4 : ∀ t, t < s → c1 t = c t) (hv : RealX c1 s s1 v) (hw : SvY tt N u (i1 + 1) s1 c1 I2 j q w) (hk : 11 ≤ kd ∧ kd ≤ 13) (ho : cmX kd = op) : ∃ (s2 : Nat) (c2 : Nat → Nat), XrM tt N I2 u j q s2 c2 ∧ s2 < j ∧ TvY tt N u i s c (up2 (up2 I2 (u + 5) s2 (nI (32 * 0 + kd))) u 7 (nI (s2 + 1))) j q (tv2 op v w) := by
  obtain ⟨s2, c2, x1, x2, x3, x4, x5, x6⟩ := hw
  have hs := hx.2.2.2.2.2.1
  refine ⟨s2, c2, x1, by omega, s2 + 1, _, x1.step (by omega) (by omega) (Nat.zero_le _) (by omega), by omega, by omega, by omega, fun t ht => ?_, ?_⟩
  · show (if t = s2 then _ else _) = _
    rw [if_neg (by omega), x5 t (by omega), h4 t ht]
  · rw [← ho]
    have e : ∀ t, t < s2 → (fun t => if t = s2 then 32 * 0 + kd else c2 t) t = c2 t := fun t ht => if_neg (by omega)
    exact X_cmp ((hv.congr (fun t _ ht => x5 t ht)).congr (fun t _ ht => e t (by omega))) (x6.congr (fun t _ ht => e t ht)) h1 x2 hk (by show (if s2 = s2 then 32 * 0 + kd else _) = kd; rw [if_pos rfl]; omega)
theorem XrM.aim {a kd : Nat} (h : XrM tt N I u i p s c) (ha : a < s) (hc : c a % 32 = kd) (hs : s ≤ 400) : XrM tt N (up2 I (u + 5) a (nI (32 * s + kd))) u i p s (fun j => if j = a then 32 * s + kd else c j) := by
  obtain ⟨⟨a1, a2, a3, a4⟩, b, ⟨d1, d2⟩, e, f, g, l, l2⟩ := h
  have hk : kd < 32 := by omega
  refine ⟨⟨?_, ?_, ?_, ?_⟩, ?_, ⟨?_, fun j hj => ?_⟩, e.keep (fun b h1 h2 => by rw [up2_off (by omega)]), f, g, ?_, l2⟩
  · rw [up2_off (by omega)]; exact a1
  · rw [up2_off (by omega)]; exact a2
  · rw [up2_off (by omega)]; exact a3
  · rw [up2_off (by omega)]; exact a4
  · rw [up2_off (by omega)]; exact b
  · rw [up2_off (by omega)]; exact d1
  · show _ = nI (if j = a then 32 * s + kd else c j) ∧ (if j = a then 32 * s + kd else c j) < 2 ^ 20
    by_cases z : j = a
    · rw [if_pos z, z, up2_same]; exact ⟨rfl, by omega⟩
    · rw [if_neg z, up2_ne (by omega)]; exact d2 j hj
  · rw [lcX_congr (c := c) s (fun j hj => ?_)]
    · exact l
    · show (if j = a then 32 * s + kd else c j) % 32 = _
      by_cases z : j = a
      · rw [if_pos z, z, hc]; omega
      · rw [if_neg z]
/-- 'and', 'or': a step to skip, the test behind it, and the aim -/
theorem TvY.op {j q kd : Nat} {v w : TV} {cb : TV → TV → TV} {i1 s1 : Nat} {c1 : Nat → Nat} {I2 : mI} (h1 : s ≤ s1) (h2 : s1 + i ≤ i1 + s) (h3 : i < i1) (h4 : ∀ t, t < s → c1 t = c t) (hv : RealXT c1 s s1 v) (hw : TvY tt N u (i1 + 1) (s1 + 1) (fun t => if t = s1 then 32 * 0 + kd else c1 t) I2 j q w) (hk : (kd = 15 ∧ cb = tvAnd) ∨ (kd = 16 ∧ cb = tvOr)) (hE : tkN tt N ≤ 400) : ∃ (s2 : Nat), I2 u 7 = nI s2 ∧ s1 < s2 ∧ s2 ≤ 400 ∧ ∃ c3 : Nat → Nat, XrM tt N (up2 I2 (u + 5) s1 (nI (32 * s2 + kd))) u j q s2 c3 ∧ s ≤ s2 ∧ s2 + i ≤ j + s ∧ i < j ∧ (∀ t, t < s → c3 t = c t) ∧ RealXT c3 s s2 (cb v w) := by
  obtain ⟨s2, c2, x1, x2, x3, x4, x5, x6⟩ := hw
  have hle := x1.2.2.2.2.1
  have hsj := x1.2.2.2.2.2.1
  have hk32 : kd < 32 := by omega
  have e1 : c2 s1 = 32 * 0 + kd := (x5 s1 (by omega)).trans (if_pos rfl)
  have e5 : ∀ t, t < s1 → c2 t = c1 t := fun t ht => (x5 t (by omega)).trans (if_neg (by omega))
  refine ⟨s2, x1.2.2.1.1, by omega, by omega, _, x1.aim (a := s1) (kd := kd) (by omega) (by rw [e1]; omega) (by omega), by omega, by omega, by omega, fun t ht => ?_, ?_⟩
  · show (if t = s1 then _ else _) = _
    rw [if_neg (by omega), e5 t (by omega), h4 t ht]
  · have f1 : RealXT (fun j => if j = s1 then 32 * s2 + kd else c2 j) s s1 v := (hv.congr (c' := c2) (fun t _ ht => e5 t ht)).congr (fun t _ ht => if_neg (by omega))
    have f2 : RealXT (fun j => if j = s1 then 32 * s2 + kd else c2 j) (s1 + 1) s2 w := x6.congr (fun t h _ => if_neg (by omega))
    rcases hk with ⟨rfl, rfl⟩ | ⟨rfl, rfl⟩
    · exact X_and f1 f2 h1 (by omega) (if_pos rfl)
    · exact X_or f1 f2 h1 (by omega) (if_pos rfl)
theorem dNots_s (kd : Nat → Int) (f i : Nat) (h : kd i = 261) : dNots kd (f + 1) i = ((dNots kd f (i + 1)).1 + 1, (dNots kd f (i + 1)).2) := by rw [dNots, if_pos h]
theorem dNots_n (kd : Nat → Int) (f i : Nat) (h : ¬ kd i = 261) : dNots kd (f + 1) i = (0, i) := by rw [dNots, if_neg h]
end XR3
theorem x_comp {g : gG} {d : Nat} {T : mT} {n : Nat} {I : mI} {J : mJ} {F : mF} {k : Nat} {u N i p s : Nat} {tt : Nat → Nat} {c : Nat → Nat} (hC : SumCt k) (hk8 : k ≤ 8) (hd : 4 * k ≤ d) (hRd : RrS T F u) (hN : TtM tt N) (hX : XrM tt N I u i p s c) : Ct g mX4_readComparison (d + 6) [.ref u, .int (nI (8 - k))] 0 0 T n I J F (QT T n I J F u N i s tt c (dComp (kdT tt N) (sumAt (kdT tt N) (nmT tt N) k) i p)) := by
  refine Ct.ofV (k := 1) (by decide) (Nat.le_of_ble_eq_true rfl) ?_
  show V g mX4_readComparison (d + 6) _ 0 0 0 [some (.ref u), some (.int (nI (8 - k))), none] [] T n I J F
  have hE := hN.end
  have hE4 := hE.1
  refine V.aload_n (pc := 0) dX4_readComparison_0 rfl ?_
  refine V.iload_n (pc := 1) dX4_readComparison_1 rfl ?_
  refine V.invV0 (as := [_]) (pc := 2) dX4_readComparison_2 lX4_87 bX4_readSum nX4_readSum (ci := 4) rfl eX4_readSum hRd.o (hC _ d _ _ _ _ _ _ _ _ _ _ _ _ hd hRd hN hX) (by omega) rfl (Nat.le_of_ble_eq_true rfl) ?_
  rintro r1 _ _ I1 _ _ ⟨rfl, rfl, rfl, rfl, f1, hy1, hn1⟩
  rcases hp1 : sumAt (kdT tt N) (nmT tt N) k i p with ⟨j1, q1, _ | v1⟩
  · obtain ⟨rfl, hN1⟩ := hn1 j1 q1 hp1
    have eD : dComp (kdT tt N) (sumAt (kdT tt N) (nmT tt N) k) i p = (j1, q1, none) := by rw [dComp, hp1]
    refine V.if_ne 10 (pc := 5) dX4_readComparison_5 (by decide) (fun h5 => absurd rfl h5) (fun h5 => ?_)
    refine V.iconst (v := 0) (pc := 8) dX4_readComparison_8 (by decide) ?_
    exact V.zret (pc := 9) dX4_readComparison_9 rfl (by first | exact Or.inl rfl | exact Or.inr rfl | exact bi_or | assumption) ⟨rfl, rfl, rfl, rfl, f1, fun j q v e => (by rw [eD] at e; cases e), fun j q e => (by rw [eD] at e; cases e; exact ⟨rfl, hN1⟩)⟩
  · obtain ⟨rfl, hV1⟩ := hy1 j1 q1 v1 hp1
    obtain ⟨s1, c1, x1, x2, x3, x4, x5, x6⟩ := hV1
    have hkl := hN.kd j1
    have hkg := kdT_ge (tt := tt) (N := N) (i := j1)
    have e2 : I1 u 2 = iI (kdT tt N j1) := x1.1.2.1
    have hko := cmK_op (k := kdT tt N j1)
    refine V.if_ne 10 (pc := 5) dX4_readComparison_5 (by decide) (fun h5 => ?_) (fun h5 => absurd h5 (by decide))
    refine V.aload_n (pc := 10) dX4_readComparison_10 rfl ?_
    refine V.getI (pc := 11) dX4_readComparison_11 fX4_22_4 rfl hRd.o ?_
    rw [e2]
    refine V.pS (as := [_]) (pc := 14) dX4_readComparison_14 lX4_113 bX4_comparisonOf sX4_comparisonOf (x_comparisonOf (d := d + 5) (z := kdT tt N j1) (by omega)) (by omega) rfl (Nat.le_of_ble_eq_true rfl) ?_
    refine V.isn (pc := 17) dX4_readComparison_17 (by decide) (st1_2 rfl) ?_
    refine V.iload_n (pc := 18) dX4_readComparison_18 rfl ?_
    refine V.iconst (v := (-1)) (pc := 19) dX4_readComparison_19 (by decide) ?_
    refine V.icmp_ne 25 (pc := 20) dX4_readComparison_20 (by decide) (fun h20 => ?_) (fun h20 => ?_)
    · have hz : ¬ cmK (kdT tt N j1) = 0 := fun z => h20 (by unfold kOr; rw [if_pos z]; rfl)
      obtain ⟨b1, b2, b3⟩ := hko.2 hz
      have hj1 : j1 + 1 ≤ tkN tt N := nxt hE x1.2.2.2.2.1 (by intro z; rw [z] at hz; exact hz (by decide))
      refine V.aload_n (pc := 25) dX4_readComparison_25 rfl ?_
      refine V.invV0 (as := []) (pc := 26) dX4_readComparison_26 lX4_54 bX4_nextToken nX4_nextToken (ci := 4) rfl eX4_nextToken hRd.o (x_nextToken (d := d + 4) (N := N) (tt := tt) (i := j1 + 1) hRd x1.2.2.2.1 hj1 hE4 (by rw [x1.1.1, ← iI_nat]; congr 1; omega)) (by omega) rfl (Nat.le_of_ble_eq_true rfl) ?_
      rintro _ _ _ I2 _ _ ⟨rfl, rfl, rfl, rfl, rfl, n1, n2, n3⟩
      have hX2 := x1.nx n1 n2 n3 hj1
      refine V.aload_n (pc := 29) dX4_readComparison_29 rfl ?_
      refine V.iload_n (pc := 30) dX4_readComparison_30 rfl ?_
      refine V.invV0 (as := [_]) (pc := 31) dX4_readComparison_31 lX4_87 bX4_readSum nX4_readSum (ci := 4) rfl eX4_readSum hRd.o (hC _ d _ _ _ _ _ _ _ _ _ _ _ _ hd hRd hN hX2) (by omega) rfl (Nat.le_of_ble_eq_true rfl) ?_
      rintro r3 _ _ I3 _ _ ⟨rfl, rfl, rfl, rfl, f3, hy3, hn3⟩
      rcases hp3 : sumAt (kdT tt N) (nmT tt N) k (j1 + 1) q1 with ⟨j3, q3, _ | v3⟩
      · obtain ⟨rfl, hN3⟩ := hn3 j3 q3 hp3
        have eD : dComp (kdT tt N) (sumAt (kdT tt N) (nmT tt N) k) i p = (j3, q3, none) := by rw [dComp, hp1]; simp only []; rw [if_neg (fun z => hz (hko.1.mp z)), hp3]
        refine V.if_ne 39 (pc := 34) dX4_readComparison_34 (by decide) (fun h34 => absurd rfl h34) (fun h34 => ?_)
        refine V.iconst (v := 0) (pc := 37) dX4_readComparison_37 (by decide) ?_
        exact V.zret (pc := 38) dX4_readComparison_38 rfl (by first | exact Or.inl rfl | exact Or.inr rfl | exact bi_or | assumption) ⟨rfl, rfl, rfl, rfl, (f1.tr (nxF n1 n2)).tr f3, fun j q v e => (by rw [eD] at e; cases e), fun j q e => (by rw [eD] at e; cases e; exact ⟨rfl, hN3⟩)⟩
      · obtain ⟨rfl, hV3⟩ := hy3 j3 q3 v3 hp3
        have eD : dComp (kdT tt N) (sumAt (kdT tt N) (nmT tt N) k) i p = (j3, q3, some (tv2 (cmpOp (kdT tt N j1)) v1 v3)) := by rw [dComp, hp1]; simp only []; rw [if_neg (fun z => hz (hko.1.mp z)), hp3]
        obtain ⟨s2, c2, y1, y2, y3⟩ := TvY.cmp x1 x2 x3 x4 x5 x6 hV3 (by omega) b3
        refine V.if_ne 39 (pc := 34) dX4_readComparison_34 (by decide) (fun h34 => ?_) (fun h34 => absurd h34 (by decide))
        refine V.aload_n (pc := 39) dX4_readComparison_39 rfl ?_
        refine V.iload_n (pc := 40) dX4_readComparison_40 rfl ?_
        refine V.iconst (v := 0) (pc := 41) dX4_readComparison_41 (by decide) ?_
        refine V.invV0 (as := [_, _]) (pc := 42) dX4_readComparison_42 lX4_97 bX4_addStep nX4_addStep (ci := 4) rfl eX4_addStep hRd.o (x_addStep (d := d + 5) (s := s2) (kd := cmK (kdT tt N j1)) (v := 0) _ _ hRd y1.2.2.1.1 (by have := y1.2.2.2.2.1; omega) (by omega) (by omega) (by unfold kOr; rw [if_neg hz, iI_nat]) rfl) (by omega) rfl (Nat.le_of_ble_eq_true rfl) ?_
        rintro _ _ _ _ _ _ ⟨rfl, rfl, rfl, rfl, rfl, rfl⟩
        refine V.iconst (v := 1) (pc := 45) dX4_readComparison_45 (by decide) ?_
        exact V.zret (pc := 46) dX4_readComparison_46 rfl (by first | exact Or.inl rfl | exact Or.inr rfl | exact bi_or | assumption) ⟨rfl, rfl, rfl, rfl, ((((f1.tr (nxF n1 n2)).tr f3).up (by omega)).up (by omega)), fun j q v e => (by rw [eD] at e; cases e; exact ⟨rfl, y3⟩), fun j q e => (by rw [eD] at e; cases e)⟩
    · have hz : cmK (kdT tt N j1) = 0 := by
        unfold kOr at h20
        split at h20
        · assumption
        · rw [show (-1 : Int32) = iI (-1) from rfl, iI_eqc (by have := hko.2 (by assumption); omega) (by decide)] at h20; omega
      have eD : dComp (kdT tt N) (sumAt (kdT tt N) (nmT tt N) k) i p = (j1, q1, none) := by rw [dComp, hp1]; simp only []; rw [if_pos (hko.1.mpr hz)]
      refine V.iconst (v := 0) (pc := 23) dX4_readComparison_23 (by decide) ?_
      exact V.zret (pc := 24) dX4_readComparison_24 rfl (by first | exact Or.inl rfl | exact Or.inr rfl | exact bi_or | assumption) ⟨rfl, rfl, rfl, rfl, f1, fun j q v e => (by rw [eD] at e; cases e), fun j q e => (by rw [eD] at e; cases e; exact ⟨rfl, _, _, _, x1⟩)⟩
theorem x_rd0 {g : gG} {d : Nat} {T : mT} {n : Nat} {I : mI} {J : mJ} {F : mF} {u N i p s : Nat} {tt : Nat → Nat} {c : Nat → Nat} (hRd : RrS T F u) (hN : TtM tt N) (hX : XrM tt N I u i p s c) (q40 : kdT tt N i = 40) : Ct g mX4_readRoundBracket (d + 6) [.ref u, .int (nI (8 - 0))] 0 0 T n I J F (QT T n I J F u N i s tt c (roundK (kdT tt N) (nmT tt N) 0 i p)) := by
  refine Ct.ofV (k := 0) (by decide) (Nat.le_of_ble_eq_true rfl) ?_
  show V g mX4_readRoundBracket (d + 6) _ 0 0 0 [some (.ref u), some (.int (nI (8 - 0)))] [] T n I J F
  have eD : roundK (kdT tt N) (nmT tt N) 0 i p = (i, p, none) := rfl
  refine V.iload_n (pc := 0) dX4_readRoundBracket_0 rfl ?_
  refine V.bipush (v := 8) (pc := 1) dX4_readRoundBracket_1 (by decide) ?_
  refine V.icmp_lt 8 (pc := 3) dX4_readRoundBracket_3 (by decide) (fun h3 => absurd h3 (by decide)) (fun h3 => ?_)
  refine V.iconst (v := 0) (pc := 6) dX4_readRoundBracket_6 (by decide) ?_
  exact V.zret (pc := 7) dX4_readRoundBracket_7 rfl (by first | exact Or.inl rfl | exact Or.inr rfl | exact bi_or | assumption) ⟨rfl, rfl, rfl, rfl, XrF.rf, fun j q v e => (by rw [eD] at e; cases e), fun j q e => (by rw [eD] at e; cases e; exact ⟨rfl, p, s, c, hX⟩)⟩
theorem x_rdS {g : gG} {d : Nat} {T : mT} {n : Nat} {I : mI} {J : mJ} {F : mF} {k : Nat} {u N i p s : Nat} {tt : Nat → Nat} {c : Nat → Nat} (hS : TestCt k) (hk8 : k + 1 ≤ 8) (hd : 4 * (k + 1) ≤ d) (hRd : RrS T F u) (hN : TtM tt N) (hX : XrM tt N I u i p s c) (q40 : kdT tt N i = 40) : Ct g mX4_readRoundBracket (d + 6) [.ref u, .int (nI (8 - (k + 1)))] 0 0 T n I J F (QT T n I J F u N i s tt c (roundK (kdT tt N) (nmT tt N) (k + 1) i p)) := by
  refine Ct.ofV (k := 0) (by decide) (Nat.le_of_ble_eq_true rfl) ?_
  show V g mX4_readRoundBracket (d + 6) _ 0 0 0 [some (.ref u), some (.int (nI (8 - (k + 1))))] [] T n I J F
  have hE := hN.end
  have hE4 := hE.1
  have hiE : i ≤ tkN tt N := hX.2.2.2.2.1
  have hkl := hN.kd i
  have hkg := kdT_ge (tt := tt) (N := N) (i := i)
  have hnm := nmT_le (tt := tt) (N := N) (i := i)
  have e2 : I u 2 = iI (kdT tt N i) := hX.1.2.1
  have e3 : I u 3 = nI (nmT tt N i) := hX.1.2.2.1
  have e5 : I u 5 = nI p := hX.2.1
  have e7 : I u 7 = nI s := hX.2.2.1.1
  have hs : s ≤ i := hX.2.2.2.2.2.1
  have hp50 : p ≤ 50 := hX.2.2.2.2.2.2.2
  have hi1 : i + 1 ≤ tkN tt N := nxt hE hiE (by rw [q40]; decide)
  refine V.iload_n (pc := 0) dX4_readRoundBracket_0 rfl ?_
  refine V.bipush (v := 8) (pc := 1) dX4_readRoundBracket_1 (by decide) ?_
  refine V.icmp_lt 8 (pc := 3) dX4_readRoundBracket_3 (by decide) (fun h3 => ?_) (fun h3 => absurd (nI_lt (show 8 - (k + 1) < 8 by omega) (by decide)) h3)
  refine V.aload_n (pc := 8) dX4_readRoundBracket_8 rfl ?_
  refine V.invV0 (as := []) (pc := 9) dX4_readRoundBracket_9 lX4_54 bX4_nextToken nX4_nextToken (ci := 4) rfl eX4_nextToken hRd.o (x_nextToken (d := d + 4) (N := N) (tt := tt) (i := i + 1) hRd hX.2.2.2.1 hi1 hE4 (by rw [hX.1.1, ← iI_nat]; congr 1; omega)) (by omega) rfl (Nat.le_of_ble_eq_true rfl) ?_
  rintro _ _ _ I1 _ _ ⟨rfl, rfl, rfl, rfl, rfl, n1, n2, n3⟩
  have hX1 := hX.nx n1 n2 n3 hi1
  refine V.aload_n (pc := 12) dX4_readRoundBracket_12 rfl ?_
  refine V.iload_n (pc := 13) dX4_readRoundBracket_13 rfl ?_
  refine V.iconst (v := 1) (pc := 14) dX4_readRoundBracket_14 (by decide) ?_
  refine V.iadd (pc := 15) dX4_readRoundBracket_15 ?_
  rw [nI_1, show 8 - (k + 1) + 1 = 8 - k by omega]
  refine V.invV0 (as := [_]) (pc := 16) dX4_readRoundBracket_16 lX4_91 bX4_readTest nX4_readTest (ci := 4) rfl eX4_readTest hRd.o (hS _ (d - 4) _ _ _ _ _ _ _ _ _ _ _ _ (by omega) hRd hN hX1) (by omega) rfl (Nat.le_of_ble_eq_true rfl) ?_
  rintro r2 _ _ I2 _ _ ⟨rfl, rfl, rfl, rfl, f2, hy2, hn2⟩
  rcases hp2 : testAt (kdT tt N) (nmT tt N) k (i + 1) p with ⟨j2, q2, _ | v2⟩
  · obtain ⟨rfl, hN2⟩ := hn2 j2 q2 hp2
    have eD : roundK (kdT tt N) (nmT tt N) (k + 1) i p = (j2, q2, none) := by rw [roundK, hp2]
    refine V.if_eq 31 (pc := 19) dX4_readRoundBracket_19 (by decide) (fun h19 => ?_) (fun h19 => absurd rfl h19)
    refine V.iconst (v := 0) (pc := 31) dX4_readRoundBracket_31 (by decide) ?_
    exact V.zret (pc := 32) dX4_readRoundBracket_32 rfl (by first | exact Or.inl rfl | exact Or.inr rfl | exact bi_or | assumption) ⟨rfl, rfl, rfl, rfl, (nxF n1 n2).tr f2, fun j q v e => (by rw [eD] at e; cases e), fun j q e => (by rw [eD] at e; cases e; exact ⟨rfl, hN2⟩)⟩
  · obtain ⟨rfl, hV2⟩ := hy2 j2 q2 v2 hp2
    obtain ⟨s2, c2, x1, x2, x3, x4, x5, x6⟩ := hV2
    have hkl2 := hN.kd j2
    have hkg2 := kdT_ge (tt := tt) (N := N) (i := j2)
    have e22 : I2 u 2 = iI (kdT tt N j2) := x1.1.2.1
    refine V.if_eq 31 (pc := 19) dX4_readRoundBracket_19 (by decide) (fun h19 => absurd h19 (by decide)) (fun h19 => ?_)
    refine V.aload_n (pc := 22) dX4_readRoundBracket_22 rfl ?_
    refine V.getI (pc := 23) dX4_readRoundBracket_23 fX4_22_4 rfl hRd.o ?_
    rw [e22]
    refine V.bipush (v := 41) (pc := 26) dX4_readRoundBracket_26 (by decide) ?_
    refine V.icmp_eq 33 (pc := 28) dX4_readRoundBracket_28 (by decide) (fun h28 => ?_) (fun h28 => ?_)
    · have q41 := (iI_eqc (z := kdT tt N j2) (k := 41) (by omega) (by decide)).mp h28
      have hj1 : j2 + 1 ≤ tkN tt N := nxt hE x1.2.2.2.2.1 (by rw [q41]; decide)
      have eD : roundK (kdT tt N) (nmT tt N) (k + 1) i p = (j2 + 1, q2, some v2) := by rw [roundK, hp2]; simp only []; rw [if_pos q41]
      refine V.aload_n (pc := 33) dX4_readRoundBracket_33 rfl ?_
      refine V.invV0 (as := []) (pc := 34) dX4_readRoundBracket_34 lX4_54 bX4_nextToken nX4_nextToken (ci := 4) rfl eX4_nextToken hRd.o (x_nextToken (d := d + 4) (N := N) (tt := tt) (i := j2 + 1) hRd x1.2.2.2.1 hj1 hE4 (by rw [x1.1.1, ← iI_nat]; congr 1; omega)) (by omega) rfl (Nat.le_of_ble_eq_true rfl) ?_
      rintro _ _ _ I3 _ _ ⟨rfl, rfl, rfl, rfl, rfl, m1, m2, m3⟩
      refine V.iconst (v := 1) (pc := 37) dX4_readRoundBracket_37 (by decide) ?_
      exact V.zret (pc := 38) dX4_readRoundBracket_38 rfl (by first | exact Or.inl rfl | exact Or.inr rfl | exact bi_or | assumption) ⟨rfl, rfl, rfl, rfl, ((nxF n1 n2).tr f2).tr (nxF m1 m2), fun j q v e => (by rw [eD] at e; cases e; exact ⟨rfl, s2, c2, x1.nx m1 m2 m3 hj1, x2, by omega, by omega, x5, x6⟩), fun j q e => (by rw [eD] at e; cases e)⟩
    · have q41 : ¬ kdT tt N j2 = 41 := fun z => h28 ((iI_eqc (z := kdT tt N j2) (k := 41) (by omega) (by decide)).mpr z)
      have eD : roundK (kdT tt N) (nmT tt N) (k + 1) i p = (j2, q2, none) := by rw [roundK, hp2]; simp only []; rw [if_neg q41]
      refine V.iconst (v := 0) (pc := 31) dX4_readRoundBracket_31 (by decide) ?_
      exact V.zret (pc := 32) dX4_readRoundBracket_32 rfl (by first | exact Or.inl rfl | exact Or.inr rfl | exact bi_or | assumption) ⟨rfl, rfl, rfl, rfl, (nxF n1 n2).tr f2, fun j q v e => (by rw [eD] at e; cases e), fun j q e => (by rw [eD] at e; cases e; exact ⟨rfl, _, _, _, x1⟩)⟩
theorem x_rd {g : gG} {d : Nat} {T : mT} {n : Nat} {I : mI} {J : mJ} {F : mF} {k : Nat} {u N i p s : Nat} {tt : Nat → Nat} {c : Nat → Nat} (hS : k = 0 ∨ TestCt (k - 1)) (hk8 : k ≤ 8) (hd : 4 * k ≤ d) (hRd : RrS T F u) (hN : TtM tt N) (hX : XrM tt N I u i p s c) (q40 : kdT tt N i = 40) : Ct g mX4_readRoundBracket (d + 6) [.ref u, .int (nI (8 - k))] 0 0 T n I J F (QT T n I J F u N i s tt c (roundK (kdT tt N) (nmT tt N) k i p)) := by
  cases k with
  | zero => exact x_rd0 hRd hN hX q40
  | succ k => exact x_rdS (hS.resolve_left (by omega)) hk8 hd hRd hN hX q40
theorem l_nots {g : gG} {d : Nat} {T : mT} {n : Nat} {I : mI} {J : mJ} {F : mF} {Q : mQ} {k : Nat} {u N i p s : Nat} {tt : Nat → Nat} {c : Nat → Nat} (hRd : RrS T F u) (hN : TtM tt N) (kk : ∀ (I' : mI) (it : Nat), XrF u I I' → XrM tt N I' u (dNots (kdT tt N) 400 i).2 p s c → i ≤ (dNots (kdT tt N) 400 i).2 → i + (dNots (kdT tt N) 400 i).1 = (dNots (kdT tt N) 400 i).2 → V g mX4_readPlain (d + 7) Q 0 0 34 [some (.ref u), some (.int (nI (8 - k))), some (.int (nI (dNots (kdT tt N) 400 i).1)), some (.int (nI it))] [] T n I' J F) : ∀ (f it j : Nat) (I' : mI), it + f = 400 → i + it = j → XrF u I I' → XrM tt N I' u j p s c → dNots (kdT tt N) 400 i = ((dNots (kdT tt N) f j).1 + it, (dNots (kdT tt N) f j).2) → V g mX4_readPlain (d + 7) Q 0 0 4 [some (.ref u), some (.int (nI (8 - k))), some (.int (nI it)), some (.int (nI it))] [] T n I' J F := by
  have hE := hN.end
  have hE4 := hE.1
  intro f
  induction f with
  | zero =>
    intro it j I' hit hij hf hX hd
    obtain rfl : it = 400 := by omega
    have hd1 : dNots (kdT tt N) 400 i = (400, j) := by rw [hd]; show (0 + 400, j) = _; rw [Nat.zero_add]
    refine V.iload_n (pc := 4) dX4_readPlain_4 rfl ?_
    refine V.sipush (v := 400) (pc := 5) dX4_readPlain_5 (by decide) ?_
    refine V.icmp_ge 34 (pc := 8) dX4_readPlain_8 (by decide) (fun h8 => ?_) (fun h8 => absurd (by decide) h8)
    have z := kk I' 400 hf (by rw [hd1]; exact hX) (by rw [hd1]; show i ≤ j; omega) (by rw [hd1]; exact hij)
    rw [hd1] at z
    exact z
  | succ f ih =>
    intro it j I' hit hij hf hX hd
    have hkl := hN.kd j
    have hkg := kdT_ge (tt := tt) (N := N) (i := j)
    have e2 : I' u 2 = iI (kdT tt N j) := hX.1.2.1
    refine V.iload_n (pc := 4) dX4_readPlain_4 rfl ?_
    refine V.sipush (v := 400) (pc := 5) dX4_readPlain_5 (by decide) ?_
    refine V.icmp_ge 34 (pc := 8) dX4_readPlain_8 (by decide) (fun h8 => absurd (show nI 400 ≤ nI it from h8) (nI_ge (by omega) (by omega))) (fun h8 => ?_)
    refine V.aload_n (pc := 11) dX4_readPlain_11 rfl ?_
    refine V.getI (pc := 12) dX4_readPlain_12 fX4_22_4 rfl hRd.o ?_
    rw [e2]
    refine V.sipush (v := 261) (pc := 15) dX4_readPlain_15 (by decide) ?_
    refine V.icmp_ne 34 (pc := 18) dX4_readPlain_18 (by decide) (fun h18 => ?_) (fun h18 => ?_)
    · have q : ¬ kdT tt N j = 261 := fun z => h18 ((iI_eqc (z := kdT tt N j) (k := 261) (by omega) (by decide)).mpr z)
      have hd1 : dNots (kdT tt N) 400 i = (it, j) := by rw [hd, dNots_n _ _ _ q]; show (0 + it, j) = _; rw [Nat.zero_add]
      have z := kk I' it hf (by rw [hd1]; exact hX) (by rw [hd1]; show i ≤ j; omega) (by rw [hd1]; exact hij)
      rw [hd1] at z
      exact z
    · have q := (iI_eqc (z := kdT tt N j) (k := 261) (by omega) (by decide)).mp h18
      have hj1 : j + 1 ≤ tkN tt N := nxt hE hX.2.2.2.2.1 (by rw [q]; decide)
      refine V.iinc1 (pc := 21) dX4_readPlain_21 (by decide) rfl (st1_2 rfl) ?_
      refine V.aload_n (pc := 24) dX4_readPlain_24 rfl ?_
      refine V.invV0 (as := []) (pc := 25) dX4_readPlain_25 lX4_54 bX4_nextToken nX4_nextToken (ci := 4) rfl eX4_nextToken hRd.o (x_nextToken (d := d + 5) (N := N) (tt := tt) (i := j + 1) hRd hX.2.2.2.1 hj1 hE4 (by rw [hX.1.1, ← iI_nat]; congr 1; omega)) (by omega) rfl (Nat.le_of_ble_eq_true rfl) ?_
      rintro _ _ _ I1 _ _ ⟨rfl, rfl, rfl, rfl, rfl, n1, n2, n3⟩
      have hX1 := hX.nx n1 n2 n3 hj1
      refine V.iinc1 (pc := 28) dX4_readPlain_28 (by decide) rfl (st1_3 rfl) ?_
      refine V.goto 4 (pc := 31) dX4_readPlain_31 (by decide) ?_
      rw [nI_1]
      exact ih (it + 1) (j + 1) _ (by omega) (by omega) (hf.tr (nxF n1 n2)) hX1 (by rw [hd, dNots_s _ _ _ q]; show ((dNots (kdT tt N) f (j + 1)).1 + 1 + it, _) = _; rw [Nat.add_assoc, Nat.add_comm 1 it])
theorem x_plain {g : gG} {d : Nat} {T : mT} {n : Nat} {I : mI} {J : mJ} {F : mF} {k : Nat} {u N i p s : Nat} {tt : Nat → Nat} {c : Nat → Nat} (hC : SumCt k) (hS : k = 0 ∨ TestCt (k - 1)) (hk8 : k ≤ 8) (hd : 4 * k ≤ d) (hRd : RrS T F u) (hN : TtM tt N) (hX : XrM tt N I u i p s c) : Ct g mX4_readPlain (d + 7) [.ref u, .int (nI (8 - k))] 0 0 T n I J F (QT T n I J F u N i s tt c (plainK (kdT tt N) (nmT tt N) k i p)) := by
  refine Ct.ofV (k := 2) (by decide) (Nat.le_of_ble_eq_true rfl) ?_
  show V g mX4_readPlain (d + 7) _ 0 0 0 [some (.ref u), some (.int (nI (8 - k))), none, none] [] T n I J F
  have hE := hN.end
  have hE4 := hE.1
  have eP := plainK_eq (kdT tt N) (nmT tt N) k i p
  have hs0 := hX.2.2.2.2.2.1
  refine V.iconst (v := 0) (pc := 0) dX4_readPlain_0 (by decide) ?_
  refine V.isn (pc := 1) dX4_readPlain_1 (by decide) (st1_2 rfl) ?_
  refine V.iconst (v := 0) (pc := 2) dX4_readPlain_2 (by decide) ?_
  refine V.isn (pc := 3) dX4_readPlain_3 (by decide) (st1_3 rfl) ?_
  refine l_nots (k := k) (i := i) (p := p) (s := s) (c := c) hRd hN (fun I0 it f0 hX0 hi0 hi0b => ?_) 400 0 i I rfl rfl XrF.rf hX (by rw [Nat.add_zero])
  generalize (dNots (kdT tt N) 400 i).2 = j0 at hX0 hi0 hi0b eP
  generalize (dNots (kdT tt N) 400 i).1 = nn at hi0b eP ⊢
  have hkl := hN.kd j0
  have hkg := kdT_ge (tt := tt) (N := N) (i := j0)
  have e2 : I0 u 2 = iI (kdT tt N j0) := hX0.1.2.1
  have hjE := hX0.2.2.2.2.1
  by_cases q40 : kdT tt N j0 = 40
  · have hb : bareK (kdT tt N) (nmT tt N) k j0 p = roundK (kdT tt N) (nmT tt N) k j0 p := by rw [bareK, if_pos q40]
    refine V.aload_n (pc := 34) dX4_readPlain_34 rfl ?_
    refine V.getI (pc := 35) dX4_readPlain_35 fX4_22_4 rfl hRd.o ?_
    rw [e2]
    refine V.bipush (v := 40) (pc := 38) dX4_readPlain_38 (by decide) ?_
    refine V.icmp_ne 51 (pc := 40) dX4_readPlain_40 (by decide) (fun h40 => absurd (by rw [q40]; rfl) h40) (fun h40 => ?_)
    refine V.aload_n (pc := 43) dX4_readPlain_43 rfl ?_
    refine V.iload_n (pc := 44) dX4_readPlain_44 rfl ?_
    refine V.invV0 (as := [_]) (pc := 45) dX4_readPlain_45 lX4_107 bX4_readRoundBracket nX4_readRoundBracket (ci := 4) rfl eX4_readRoundBracket hRd.o (x_rd (d := d + 0) (k := k) hS hk8 hd hRd hN hX0 q40) (by omega) rfl (Nat.le_of_ble_eq_true rfl) ?_
    rintro r1 _ _ I1 _ _ ⟨rfl, rfl, rfl, rfl, f1, hy1, hn1⟩
    rcases hp1 : roundK (kdT tt N) (nmT tt N) k j0 p with ⟨j1, q1, _ | v1⟩
    · obtain ⟨rfl, hN1⟩ := hn1 j1 q1 hp1
      refine V.goto 56 (pc := 48) dX4_readPlain_48 (by decide) ?_
      refine V.isn (pc := 56) dX4_readPlain_56 (by decide) (st1_3 rfl) ?_
      refine V.iload_n (pc := 57) dX4_readPlain_57 rfl ?_
      refine V.if_eq 75 (pc := 58) dX4_readPlain_58 (by decide) (fun h58 => ?_) (fun h58 => absurd rfl h58)
      refine V.iload_n (pc := 75) dX4_readPlain_75 rfl ?_
      exact V.zret (pc := 76) dX4_readPlain_76 rfl (by first | exact Or.inl rfl | exact Or.inr rfl | exact bi_or | assumption) ⟨rfl, rfl, rfl, rfl, f0.tr f1, fun j q v e => (by rw [eP, hb, hp1] at e; cases e), fun j q e => (by rw [eP, hb, hp1] at e; cases e; exact ⟨rfl, hN1⟩)⟩
    · obtain ⟨rfl, hV1⟩ := hy1 j1 q1 v1 hp1
      obtain ⟨s1, c1, x1, x2, x3, x4, x5, x6⟩ := hV1
      have hse := x1.2.2.2.2.2.1
      have hje := x1.2.2.2.2.1
      refine V.goto 56 (pc := 48) dX4_readPlain_48 (by decide) ?_
      refine V.isn (pc := 56) dX4_readPlain_56 (by decide) (st1_3 rfl) ?_
      refine V.iload_n (pc := 57) dX4_readPlain_57 rfl ?_
      refine V.if_eq 75 (pc := 58) dX4_readPlain_58 (by decide) (fun h58 => absurd h58 (by decide)) (fun h58 => ?_)
      refine V.iload_n (pc := 61) dX4_readPlain_61 rfl ?_
      refine V.iconst (v := 1) (pc := 62) dX4_readPlain_62 (by decide) ?_
      refine V.iand (pc := 63) dX4_readPlain_63 ?_
      rw [pk_andN (n := nn) (by omega) (m := 1) 1 (by decide), show (2 : Nat) ^ 1 = 2 from rfl]
      refine V.iconst (v := 1) (pc := 64) dX4_readPlain_64 (by decide) ?_
      refine V.icmp_ne 75 (pc := 65) dX4_readPlain_65 (by decide) (fun h65 => ?_) (fun h65 => ?_)
      · rw [show (1 : Int32) = nI 1 from rfl, nI_eq (by omega) (by decide)] at h65
        have hod : ¬ nn % 2 = 1 := h65
        refine V.iload_n (pc := 75) dX4_readPlain_75 rfl ?_
        exact V.zret (pc := 76) dX4_readPlain_76 rfl (by first | exact Or.inl rfl | exact Or.inr rfl | exact bi_or | assumption) ⟨rfl, rfl, rfl, rfl, f0.tr f1, fun j q v e => (by rw [eP, hb, hp1] at e; cases e; exact ⟨rfl, s1, c1, x1, x2, by omega, by omega, x5, by unfold notN; rw [if_neg hod]; exact x6⟩), fun j q e => (by rw [eP, hb, hp1] at e; cases e)⟩
      · rw [show (1 : Int32) = nI 1 from rfl, nI_eq (by omega) (by decide)] at h65
        have hod : nn % 2 = 1 := h65
        refine V.aload_n (pc := 68) dX4_readPlain_68 rfl ?_
        refine V.bipush (v := 14) (pc := 69) dX4_readPlain_69 (by decide) ?_
        refine V.iconst (v := 0) (pc := 71) dX4_readPlain_71 (by decide) ?_
        refine V.invV0 (as := [_, _]) (pc := 72) dX4_readPlain_72 lX4_97 bX4_addStep nX4_addStep (ci := 4) rfl eX4_addStep hRd.o (x_addStep (d := d + 6) (s := s1) (kd := 14) (v := 0) _ _ hRd x1.2.2.1.1 (by omega) (by decide) (by decide) rfl rfl) (by omega) rfl (Nat.le_of_ble_eq_true rfl) ?_
        rintro _ _ _ _ _ _ ⟨rfl, rfl, rfl, rfl, rfl, rfl⟩
        refine V.iload_n (pc := 75) dX4_readPlain_75 rfl ?_
        exact V.zret (pc := 76) dX4_readPlain_76 rfl (by first | exact Or.inl rfl | exact Or.inr rfl | exact bi_or | assumption) ⟨rfl, rfl, rfl, rfl, ((f0.tr f1).up (by omega)).up (by omega), fun j q v e => (by rw [eP, hb, hp1] at e; cases e; exact ⟨rfl, s1 + 1, _, x1.step (by decide) (by decide) (Nat.zero_le _) (by omega), by omega, by omega, by omega, fun t ht => by rw [if_neg (by omega)]; exact x5 t ht, by unfold notN; rw [if_pos hod]; exact X_not (x6.congr (fun t _ ht => if_neg (by omega))) x2 (by show (if s1 = s1 then 32 * 0 + 14 else _) = 14; rw [if_pos rfl])⟩), fun j q e => (by rw [eP, hb, hp1] at e; cases e)⟩
  · have hb : bareK (kdT tt N) (nmT tt N) k j0 p = dComp (kdT tt N) (sumAt (kdT tt N) (nmT tt N) k) j0 p := by rw [bareK, if_neg q40]
    refine V.aload_n (pc := 34) dX4_readPlain_34 rfl ?_
    refine V.getI (pc := 35) dX4_readPlain_35 fX4_22_4 rfl hRd.o ?_
    rw [e2]
    refine V.bipush (v := 40) (pc := 38) dX4_readPlain_38 (by decide) ?_
    refine V.icmp_ne 51 (pc := 40) dX4_readPlain_40 (by decide) (fun h40 => ?_) (fun h40 => absurd ((iI_eqc (z := kdT tt N j0) (k := 40) (by omega) (by decide)).mp h40) q40)
    refine V.aload_n (pc := 51) dX4_readPlain_51 rfl ?_
    refine V.iload_n (pc := 52) dX4_readPlain_52 rfl ?_
    refine V.invV0 (as := [_]) (pc := 53) dX4_readPlain_53 lX4_110 bX4_readComparison nX4_readComparison (ci := 4) rfl eX4_readComparison hRd.o (x_comp (d := d + 0) (k := k) hC hk8 hd hRd hN hX0) (by omega) rfl (Nat.le_of_ble_eq_true rfl) ?_
    rintro r1 _ _ I1 _ _ ⟨rfl, rfl, rfl, rfl, f1, hy1, hn1⟩
    rcases hp1 : dComp (kdT tt N) (sumAt (kdT tt N) (nmT tt N) k) j0 p with ⟨j1, q1, _ | v1⟩
    · obtain ⟨rfl, hN1⟩ := hn1 j1 q1 hp1
      refine V.isn (pc := 56) dX4_readPlain_56 (by decide) (st1_3 rfl) ?_
      refine V.iload_n (pc := 57) dX4_readPlain_57 rfl ?_
      refine V.if_eq 75 (pc := 58) dX4_readPlain_58 (by decide) (fun h58 => ?_) (fun h58 => absurd rfl h58)
      refine V.iload_n (pc := 75) dX4_readPlain_75 rfl ?_
      exact V.zret (pc := 76) dX4_readPlain_76 rfl (by first | exact Or.inl rfl | exact Or.inr rfl | exact bi_or | assumption) ⟨rfl, rfl, rfl, rfl, f0.tr f1, fun j q v e => (by rw [eP, hb, hp1] at e; cases e), fun j q e => (by rw [eP, hb, hp1] at e; cases e; exact ⟨rfl, hN1⟩)⟩
    · obtain ⟨rfl, hV1⟩ := hy1 j1 q1 v1 hp1
      obtain ⟨s1, c1, x1, x2, x3, x4, x5, x6⟩ := hV1
      have hse := x1.2.2.2.2.2.1
      have hje := x1.2.2.2.2.1
      refine V.isn (pc := 56) dX4_readPlain_56 (by decide) (st1_3 rfl) ?_
      refine V.iload_n (pc := 57) dX4_readPlain_57 rfl ?_
      refine V.if_eq 75 (pc := 58) dX4_readPlain_58 (by decide) (fun h58 => absurd h58 (by decide)) (fun h58 => ?_)
      refine V.iload_n (pc := 61) dX4_readPlain_61 rfl ?_
      refine V.iconst (v := 1) (pc := 62) dX4_readPlain_62 (by decide) ?_
      refine V.iand (pc := 63) dX4_readPlain_63 ?_
      rw [pk_andN (n := nn) (by omega) (m := 1) 1 (by decide), show (2 : Nat) ^ 1 = 2 from rfl]
      refine V.iconst (v := 1) (pc := 64) dX4_readPlain_64 (by decide) ?_
      refine V.icmp_ne 75 (pc := 65) dX4_readPlain_65 (by decide) (fun h65 => ?_) (fun h65 => ?_)
      · rw [show (1 : Int32) = nI 1 from rfl, nI_eq (by omega) (by decide)] at h65
        have hod : ¬ nn % 2 = 1 := h65
        refine V.iload_n (pc := 75) dX4_readPlain_75 rfl ?_
        exact V.zret (pc := 76) dX4_readPlain_76 rfl (by first | exact Or.inl rfl | exact Or.inr rfl | exact bi_or | assumption) ⟨rfl, rfl, rfl, rfl, f0.tr f1, fun j q v e => (by rw [eP, hb, hp1] at e; cases e; exact ⟨rfl, s1, c1, x1, x2, by omega, by omega, x5, by unfold notN; rw [if_neg hod]; exact x6⟩), fun j q e => (by rw [eP, hb, hp1] at e; cases e)⟩
      · rw [show (1 : Int32) = nI 1 from rfl, nI_eq (by omega) (by decide)] at h65
        have hod : nn % 2 = 1 := h65
        refine V.aload_n (pc := 68) dX4_readPlain_68 rfl ?_
        refine V.bipush (v := 14) (pc := 69) dX4_readPlain_69 (by decide) ?_
        refine V.iconst (v := 0) (pc := 71) dX4_readPlain_71 (by decide) ?_
        refine V.invV0 (as := [_, _]) (pc := 72) dX4_readPlain_72 lX4_97 bX4_addStep nX4_addStep (ci := 4) rfl eX4_addStep hRd.o (x_addStep (d := d + 6) (s := s1) (kd := 14) (v := 0) _ _ hRd x1.2.2.1.1 (by omega) (by decide) (by decide) rfl rfl) (by omega) rfl (Nat.le_of_ble_eq_true rfl) ?_
        rintro _ _ _ _ _ _ ⟨rfl, rfl, rfl, rfl, rfl, rfl⟩
        refine V.iload_n (pc := 75) dX4_readPlain_75 rfl ?_
        exact V.zret (pc := 76) dX4_readPlain_76 rfl (by first | exact Or.inl rfl | exact Or.inr rfl | exact bi_or | assumption) ⟨rfl, rfl, rfl, rfl, ((f0.tr f1).up (by omega)).up (by omega), fun j q v e => (by rw [eP, hb, hp1] at e; cases e; exact ⟨rfl, s1 + 1, _, x1.step (by decide) (by decide) (Nat.zero_le _) (by omega), by omega, by omega, by omega, fun t ht => by rw [if_neg (by omega)]; exact x5 t ht, by unfold notN; rw [if_pos hod]; exact X_not (x6.congr (fun t _ ht => if_neg (by omega))) x2 (by show (if s1 = s1 then 32 * 0 + 14 else _) = 14; rw [if_pos rfl])⟩), fun j q e => (by rw [eP, hb, hp1] at e; cases e)⟩
theorem XrM.nx2 {tt : Nat → Nat} {N u i p s kd : Nat} {c : Nat → Nat} {I I' : mI} (h : XrM tt N I u i p s c) (e1 : ∀ b, b ≠ u → I' b = up2 (up2 I (u + 5) s (nI (32 * 0 + kd))) u 7 (nI (s + 1)) b) (e2 : ∀ t, t = 0 ∨ 4 < t → I' u t = up2 (up2 I (u + 5) s (nI (32 * 0 + kd))) u 7 (nI (s + 1)) u t) (k : TkAt tt N I' u (i + 1)) (hi : i + 1 ≤ tkN tt N) (hk : 5 < kd ∧ kd < 32 := by decide) : XrM tt N I' u (i + 1) p (s + 1) (fun t => if t = s then 32 * 0 + kd else c t) := by
  obtain ⟨-, b, ⟨d1, d2⟩, e, f, g, l, l2⟩ := h
  refine ⟨k, ?_, ⟨?_, fun j hj => ?_⟩, e.keep (fun b h1 h2 => ?_), hi, by omega, ?_, l2⟩
  · rw [e2 5 (by omega), up2_ne (by omega), up2_off (by omega)]; exact b
  · rw [e2 7 (by omega), up2_same]
  · show _ = nI (if j = s then 32 * 0 + kd else c j) ∧ (if j = s then 32 * 0 + kd else c j) < 2 ^ 20
    rw [e1 _ (by omega)]
    by_cases z : j = s
    · rw [if_pos z, z, up2_off (by omega), up2_same]; exact ⟨rfl, by omega⟩
    · rw [if_neg z, up2_off (by omega), up2_ne (by omega)]; exact d2 j (by omega)
  · rw [e1 _ (by omega), up2_off (by omega), up2_off (by omega)]
  · show lcX (fun j => if j = s then 32 * 0 + kd else c j) s + _ = p
    rw [lcX_congr (c := c) s (fun j hj => by rw [if_neg (by omega)])]
    have : ¬ (32 * 0 + kd) % 32 ≤ 5 := by omega
    simp only [if_true, this, if_false]
    exact l
theorem l_both {g : gG} {d : Nat} {T : mT} {n : Nat} {I : mI} {J : mJ} {F : mF} {Q : mQ} {k : Nat} {u N i p s : Nat} {tt : Nat → Nat} {c : Nat → Nat} {res : PT} (hC : SumCt k) (hS : k = 0 ∨ TestCt (k - 1)) (hk8 : k ≤ 8) (hd : 4 * k ≤ d) (hRd : RrS T F u) (hN : TtM tt N) (hQ : ∀ (r' : Option Value) (I' : mI), XrF u I I' → (∀ j q v, res = (j, q, some v) → r' = some (.int 1) ∧ TvY tt N u i s c I' j q v) → (∀ j q, res = (j, q, none) → r' = some (.int 0) ∧ XrN tt N u I' j) → Q r' T n I' J F) : ∀ (f it j q s1 : Nat) (c1 : Nat → Nat) (v : TV) (I' : mI), it + f = 400 → XrF u I I' → XrM tt N I' u j q s1 c1 → s ≤ s1 → s1 + i ≤ j + s → i < j → (∀ t, t < s → c1 t = c t) → RealXT c1 s s1 v → res = dTLoop (kdT tt N) 260 tvAnd (plainK (kdT tt N) (nmT tt N) k) f j q v → V g mX4_readBoth (d + 8) Q 0 0 12 [some (.ref u), some (.int (nI (8 - k))), some (.int (nI it)), none] [] T n I' J F := by
  have hE := hN.end
  have hE4 := hE.1
  intro f
  induction f with
  | zero =>
    intro it j q s1 c1 v I' hit hf hX h1 h2 h3 h4 hv hres
    obtain rfl : it = 400 := by omega
    have eD : res = (j, q, some v) := hres
    refine V.iload_n (pc := 12) dX4_readBoth_12 rfl ?_
    refine V.sipush (v := 400) (pc := 13) dX4_readBoth_13 (by decide) ?_
    refine V.icmp_ge 68 (pc := 16) dX4_readBoth_16 (by decide) (fun h16 => ?_) (fun h16 => absurd (by decide) h16)
    refine V.iconst (v := 1) (pc := 68) dX4_readBoth_68 (by decide) ?_
    exact V.zret (pc := 69) dX4_readBoth_69 rfl (by first | exact Or.inl rfl | exact Or.inr rfl | exact bi_or | assumption) (hQ _ I' hf (fun j q v e => (by rw [eD] at e; cases e; exact ⟨rfl, s1, c1, hX, h1, h2, h3, h4, hv⟩)) (fun j q e => (by rw [eD] at e; cases e)))
  | succ f ih =>
    intro it j q s1 c1 v I' hit hf hX h1 h2 h3 h4 hv hres
    have hkl := hN.kd j
    have hkg := kdT_ge (tt := tt) (N := N) (i := j)
    have e2 : I' u 2 = iI (kdT tt N j) := hX.1.2.1
    have e7 : I' u 7 = nI s1 := hX.2.2.1.1
    have hs1 := hX.2.2.2.2.2.1
    have hjE := hX.2.2.2.2.1
    rw [dTLoop] at hres
    refine V.iload_n (pc := 12) dX4_readBoth_12 rfl ?_
    refine V.sipush (v := 400) (pc := 13) dX4_readBoth_13 (by decide) ?_
    refine V.icmp_ge 68 (pc := 16) dX4_readBoth_16 (by decide) (fun h16 => absurd (show nI 400 ≤ nI it from h16) (nI_ge (by omega) (by omega))) (fun h16 => ?_)
    refine V.aload_n (pc := 19) dX4_readBoth_19 rfl ?_
    refine V.getI (pc := 20) dX4_readBoth_20 fX4_22_4 rfl hRd.o ?_
    rw [e2]
    refine V.sipush (v := 260) (pc := 23) dX4_readBoth_23 (by decide) ?_
    refine V.icmp_ne 68 (pc := 26) dX4_readBoth_26 (by decide) (fun h26 => ?_) (fun h26 => ?_)
    · have qw : ¬ kdT tt N j = 260 := fun z => h26 ((iI_eqc (z := kdT tt N j) (k := 260) (by omega) (by decide)).mpr z)
      rw [if_neg qw] at hres
      have eD := hres
      refine V.iconst (v := 1) (pc := 68) dX4_readBoth_68 (by decide) ?_
      exact V.zret (pc := 69) dX4_readBoth_69 rfl (by first | exact Or.inl rfl | exact Or.inr rfl | exact bi_or | assumption) (hQ _ I' hf (fun j q v e => (by rw [eD] at e; cases e; exact ⟨rfl, s1, c1, hX, h1, h2, h3, h4, hv⟩)) (fun j q e => (by rw [eD] at e; cases e)))
    · have qw := (iI_eqc (z := kdT tt N j) (k := 260) (by omega) (by decide)).mp h26
      rw [if_pos qw] at hres
      have hj1 : j + 1 ≤ tkN tt N := nxt hE hjE (by rw [qw]; decide)
      refine V.aload_n (pc := 29) dX4_readBoth_29 rfl ?_
      refine V.getI (pc := 30) dX4_readBoth_30 fX4_37_4 rfl hRd.o ?_
      rw [e7]
      refine V.isn (pc := 33) dX4_readBoth_33 (by decide) (st1_3 rfl) ?_
      refine V.aload_n (pc := 34) dX4_readBoth_34 rfl ?_
      refine V.bipush (v := 15) (pc := 35) dX4_readBoth_35 (by decide) ?_
      refine V.iconst (v := 0) (pc := 37) dX4_readBoth_37 (by decide) ?_
      refine V.invV0 (as := [_, _]) (pc := 38) dX4_readBoth_38 lX4_97 bX4_addStep nX4_addStep (ci := 4) rfl eX4_addStep hRd.o (x_addStep (d := d + 7) (s := s1) (kd := 15) (v := 0) _ _ hRd e7 (by omega) (by decide) (by decide) rfl rfl) (by omega) rfl (Nat.le_of_ble_eq_true rfl) ?_
      rintro _ _ _ _ _ _ ⟨rfl, rfl, rfl, rfl, rfl, rfl⟩
      refine V.aload_n (pc := 41) dX4_readBoth_41 rfl ?_
      refine V.invV0 (as := []) (pc := 42) dX4_readBoth_42 lX4_54 bX4_nextToken nX4_nextToken (ci := 4) rfl eX4_nextToken hRd.o (x_nextToken (d := d + 6) (N := N) (tt := tt) (i := j + 1) hRd (TkX.keep hX.2.2.2.1 (fun b h1 h2 => by rw [up2_off (by omega), up2_off (by omega)])) hj1 hE4 (by rw [up2_ne (by omega), up2_off (by omega), hX.1.1, ← iI_nat]; congr 1; omega)) (by omega) rfl (Nat.le_of_ble_eq_true rfl) ?_
      rintro _ _ _ I1 _ _ ⟨rfl, rfl, rfl, rfl, rfl, n1, n2, n3⟩
      have hX1 : XrM tt N I1 u (j + 1) q (s1 + 1) (fun t => if t = s1 then 32 * 0 + 15 else c1 t) := XrM.nx2 hX n1 n2 n3 hj1
      refine V.aload_n (pc := 45) dX4_readBoth_45 rfl ?_
      refine V.iload_n (pc := 46) dX4_readBoth_46 rfl ?_
      refine V.invV0 (as := [_]) (pc := 47) dX4_readBoth_47 lX4_104 bX4_readPlain nX4_readPlain (ci := 4) rfl eX4_readPlain hRd.o (x_plain (d := d + 0) (k := k) hC hS hk8 hd hRd hN hX1) (by omega) rfl (Nat.le_of_ble_eq_true rfl) ?_
      rintro r2 _ _ I2 _ _ ⟨rfl, rfl, rfl, rfl, f2, hy2, hn2⟩
      rcases hp2 : plainK (kdT tt N) (nmT tt N) k (j + 1) q with ⟨j2, q2, _ | v2⟩
      · obtain ⟨rfl, hN2⟩ := hn2 j2 q2 hp2
        rw [hp2] at hres
        have eD := hres
        refine V.if_ne 55 (pc := 50) dX4_readBoth_50 (by decide) (fun h50 => absurd rfl h50) (fun h50 => ?_)
        refine V.iconst (v := 0) (pc := 53) dX4_readBoth_53 (by decide) ?_
        exact V.zret (pc := 54) dX4_readBoth_54 rfl (by first | exact Or.inl rfl | exact Or.inr rfl | exact bi_or | assumption) (hQ _ I2 ((((hf.up (by omega)).up (by omega)).tr (nxF n1 n2)).tr f2) (fun j q v e => (by rw [eD] at e; cases e)) (fun j q e => (by rw [eD] at e; cases e; exact ⟨rfl, hN2⟩)))
      · obtain ⟨rfl, hV2⟩ := hy2 j2 q2 v2 hp2
        rw [hp2] at hres
        obtain ⟨s2, y7, y1, y2, c3, x3, x4, x5, x6, x7, x8⟩ := TvY.op (kd := 15) (cb := tvAnd) h1 h2 h3 h4 hv hV2 (Or.inl ⟨rfl, rfl⟩) hE4
        refine V.if_ne 55 (pc := 50) dX4_readBoth_50 (by decide) (fun h50 => ?_) (fun h50 => absurd h50 (by decide))
        refine V.aload_n (pc := 55) dX4_readBoth_55 rfl ?_
        refine V.iload_n (pc := 56) dX4_readBoth_56 rfl ?_
        refine V.bipush (v := 15) (pc := 57) dX4_readBoth_57 (by decide) ?_
        refine V.invV0 (as := [_, _]) (pc := 59) dX4_readBoth_59 lX4_101 bX4_aimHere nX4_aimHere (ci := 4) rfl eX4_aimHere hRd.o (x_aimHere (d := d + 7) (s := s2) (at_ := s1) (kd := 15) _ _ hRd y7 y2 (by omega) (by decide) rfl rfl) (by omega) rfl (Nat.le_of_ble_eq_true rfl) ?_
        rintro _ _ _ _ _ _ ⟨rfl, rfl, rfl, rfl, rfl, rfl⟩
        refine V.iinc1 (pc := 62) dX4_readBoth_62 (by decide) rfl (st1_2 rfl) ?_
        refine V.goto 12 (pc := 65) dX4_readBoth_65 (by decide) ?_
        rw [nI_1]
        refine V.weak wk_3 ?_
        exact ih (it + 1) j2 q2 s2 c3 _ _ (by omega) (((((hf.up (by omega)).up (by omega)).tr (nxF n1 n2)).tr f2).up (by omega)) x3 x4 x5 x6 x7 x8 hres
theorem x_both {g : gG} {d : Nat} {T : mT} {n : Nat} {I : mI} {J : mJ} {F : mF} {k : Nat} {u N i p s : Nat} {tt : Nat → Nat} {c : Nat → Nat} (hC : SumCt k) (hS : k = 0 ∨ TestCt (k - 1)) (hk8 : k ≤ 8) (hd : 4 * k ≤ d) (hRd : RrS T F u) (hN : TtM tt N) (hX : XrM tt N I u i p s c) : Ct g mX4_readBoth (d + 8) [.ref u, .int (nI (8 - k))] 0 0 T n I J F (QT T n I J F u N i s tt c (dTChain (kdT tt N) 260 tvAnd (plainK (kdT tt N) (nmT tt N) k) i p)) := by
  refine Ct.ofV (k := 2) (by decide) (Nat.le_of_ble_eq_true rfl) ?_
  show V g mX4_readBoth (d + 8) _ 0 0 0 [some (.ref u), some (.int (nI (8 - k))), none, none] [] T n I J F
  refine V.aload_n (pc := 0) dX4_readBoth_0 rfl ?_
  refine V.iload_n (pc := 1) dX4_readBoth_1 rfl ?_
  refine V.invV0 (as := [_]) (pc := 2) dX4_readBoth_2 lX4_104 bX4_readPlain nX4_readPlain (ci := 4) rfl eX4_readPlain hRd.o (x_plain (d := d + 0) (k := k) hC hS hk8 hd hRd hN hX) (by omega) rfl (Nat.le_of_ble_eq_true rfl) ?_
  rintro r1 _ _ I1 _ _ ⟨rfl, rfl, rfl, rfl, f1, hy1, hn1⟩
  rcases hp1 : plainK (kdT tt N) (nmT tt N) k i p with ⟨j1, q1, _ | v1⟩
  · obtain ⟨rfl, hN1⟩ := hn1 j1 q1 hp1
    have eD : dTChain (kdT tt N) 260 tvAnd (plainK (kdT tt N) (nmT tt N) k) i p = (j1, q1, none) := by rw [dTChain, hp1]
    refine V.if_ne 10 (pc := 5) dX4_readBoth_5 (by decide) (fun h5 => absurd rfl h5) (fun h5 => ?_)
    refine V.iconst (v := 0) (pc := 8) dX4_readBoth_8 (by decide) ?_
    exact V.zret (pc := 9) dX4_readBoth_9 rfl (by first | exact Or.inl rfl | exact Or.inr rfl | exact bi_or | assumption) ⟨rfl, rfl, rfl, rfl, f1, fun j q v e => (by rw [eD] at e; cases e), fun j q e => (by rw [eD] at e; cases e; exact ⟨rfl, hN1⟩)⟩
  · obtain ⟨rfl, hV1⟩ := hy1 j1 q1 v1 hp1
    obtain ⟨s1, c1, x1, x2, x3, x4, x5, x6⟩ := hV1
    refine V.if_ne 10 (pc := 5) dX4_readBoth_5 (by decide) (fun h5 => ?_) (fun h5 => absurd h5 (by decide))
    refine V.iconst (v := 0) (pc := 10) dX4_readBoth_10 (by decide) ?_
    refine V.isn (pc := 11) dX4_readBoth_11 (by decide) (st1_2 rfl) ?_
    exact l_both (p := p) hC hS hk8 hd hRd hN (res := dTChain (kdT tt N) 260 tvAnd (plainK (kdT tt N) (nmT tt N) k) i p) (fun r' I' h1 h2 h3 => ⟨rfl, rfl, rfl, rfl, h1, h2, h3⟩) 400 0 j1 q1 s1 c1 v1 I1 rfl f1 x1 x2 x3 x4 x5 x6 (by rw [dTChain, hp1])
theorem l_test_ {g : gG} {d : Nat} {T : mT} {n : Nat} {I : mI} {J : mJ} {F : mF} {Q : mQ} {k : Nat} {u N i p s : Nat} {tt : Nat → Nat} {c : Nat → Nat} {res : PT} (hC : SumCt k) (hS : k = 0 ∨ TestCt (k - 1)) (hk8 : k ≤ 8) (hd : 4 * k ≤ d) (hRd : RrS T F u) (hN : TtM tt N) (hQ : ∀ (r' : Option Value) (I' : mI), XrF u I I' → (∀ j q v, res = (j, q, some v) → r' = some (.int 1) ∧ TvY tt N u i s c I' j q v) → (∀ j q, res = (j, q, none) → r' = some (.int 0) ∧ XrN tt N u I' j) → Q r' T n I' J F) : ∀ (f it j q s1 : Nat) (c1 : Nat → Nat) (v : TV) (I' : mI), it + f = 400 → XrF u I I' → XrM tt N I' u j q s1 c1 → s ≤ s1 → s1 + i ≤ j + s → i < j → (∀ t, t < s → c1 t = c t) → RealXT c1 s s1 v → res = dTLoop (kdT tt N) 259 tvOr (dTChain (kdT tt N) 260 tvAnd (plainK (kdT tt N) (nmT tt N) k)) f j q v → V g mX4_readTest (d + 9) Q 0 0 12 [some (.ref u), some (.int (nI (8 - k))), some (.int (nI it)), none] [] T n I' J F := by
  have hE := hN.end
  have hE4 := hE.1
  intro f
  induction f with
  | zero =>
    intro it j q s1 c1 v I' hit hf hX h1 h2 h3 h4 hv hres
    obtain rfl : it = 400 := by omega
    have eD : res = (j, q, some v) := hres
    refine V.iload_n (pc := 12) dX4_readTest_12 rfl ?_
    refine V.sipush (v := 400) (pc := 13) dX4_readTest_13 (by decide) ?_
    refine V.icmp_ge 68 (pc := 16) dX4_readTest_16 (by decide) (fun h16 => ?_) (fun h16 => absurd (by decide) h16)
    refine V.iconst (v := 1) (pc := 68) dX4_readTest_68 (by decide) ?_
    exact V.zret (pc := 69) dX4_readTest_69 rfl (by first | exact Or.inl rfl | exact Or.inr rfl | exact bi_or | assumption) (hQ _ I' hf (fun j q v e => (by rw [eD] at e; cases e; exact ⟨rfl, s1, c1, hX, h1, h2, h3, h4, hv⟩)) (fun j q e => (by rw [eD] at e; cases e)))
  | succ f ih =>
    intro it j q s1 c1 v I' hit hf hX h1 h2 h3 h4 hv hres
    have hkl := hN.kd j
    have hkg := kdT_ge (tt := tt) (N := N) (i := j)
    have e2 : I' u 2 = iI (kdT tt N j) := hX.1.2.1
    have e7 : I' u 7 = nI s1 := hX.2.2.1.1
    have hs1 := hX.2.2.2.2.2.1
    have hjE := hX.2.2.2.2.1
    rw [dTLoop] at hres
    refine V.iload_n (pc := 12) dX4_readTest_12 rfl ?_
    refine V.sipush (v := 400) (pc := 13) dX4_readTest_13 (by decide) ?_
    refine V.icmp_ge 68 (pc := 16) dX4_readTest_16 (by decide) (fun h16 => absurd (show nI 400 ≤ nI it from h16) (nI_ge (by omega) (by omega))) (fun h16 => ?_)
    refine V.aload_n (pc := 19) dX4_readTest_19 rfl ?_
    refine V.getI (pc := 20) dX4_readTest_20 fX4_22_4 rfl hRd.o ?_
    rw [e2]
    refine V.sipush (v := 259) (pc := 23) dX4_readTest_23 (by decide) ?_
    refine V.icmp_ne 68 (pc := 26) dX4_readTest_26 (by decide) (fun h26 => ?_) (fun h26 => ?_)
    · have qw : ¬ kdT tt N j = 259 := fun z => h26 ((iI_eqc (z := kdT tt N j) (k := 259) (by omega) (by decide)).mpr z)
      rw [if_neg qw] at hres
      have eD := hres
      refine V.iconst (v := 1) (pc := 68) dX4_readTest_68 (by decide) ?_
      exact V.zret (pc := 69) dX4_readTest_69 rfl (by first | exact Or.inl rfl | exact Or.inr rfl | exact bi_or | assumption) (hQ _ I' hf (fun j q v e => (by rw [eD] at e; cases e; exact ⟨rfl, s1, c1, hX, h1, h2, h3, h4, hv⟩)) (fun j q e => (by rw [eD] at e; cases e)))
    · have qw := (iI_eqc (z := kdT tt N j) (k := 259) (by omega) (by decide)).mp h26
      rw [if_pos qw] at hres
      have hj1 : j + 1 ≤ tkN tt N := nxt hE hjE (by rw [qw]; decide)
      refine V.aload_n (pc := 29) dX4_readTest_29 rfl ?_
      refine V.getI (pc := 30) dX4_readTest_30 fX4_37_4 rfl hRd.o ?_
      rw [e7]
      refine V.isn (pc := 33) dX4_readTest_33 (by decide) (st1_3 rfl) ?_
      refine V.aload_n (pc := 34) dX4_readTest_34 rfl ?_
      refine V.bipush (v := 16) (pc := 35) dX4_readTest_35 (by decide) ?_
      refine V.iconst (v := 0) (pc := 37) dX4_readTest_37 (by decide) ?_
      refine V.invV0 (as := [_, _]) (pc := 38) dX4_readTest_38 lX4_97 bX4_addStep nX4_addStep (ci := 4) rfl eX4_addStep hRd.o (x_addStep (d := d + 8) (s := s1) (kd := 16) (v := 0) _ _ hRd e7 (by omega) (by decide) (by decide) rfl rfl) (by omega) rfl (Nat.le_of_ble_eq_true rfl) ?_
      rintro _ _ _ _ _ _ ⟨rfl, rfl, rfl, rfl, rfl, rfl⟩
      refine V.aload_n (pc := 41) dX4_readTest_41 rfl ?_
      refine V.invV0 (as := []) (pc := 42) dX4_readTest_42 lX4_54 bX4_nextToken nX4_nextToken (ci := 4) rfl eX4_nextToken hRd.o (x_nextToken (d := d + 7) (N := N) (tt := tt) (i := j + 1) hRd (TkX.keep hX.2.2.2.1 (fun b h1 h2 => by rw [up2_off (by omega), up2_off (by omega)])) hj1 hE4 (by rw [up2_ne (by omega), up2_off (by omega), hX.1.1, ← iI_nat]; congr 1; omega)) (by omega) rfl (Nat.le_of_ble_eq_true rfl) ?_
      rintro _ _ _ I1 _ _ ⟨rfl, rfl, rfl, rfl, rfl, n1, n2, n3⟩
      have hX1 : XrM tt N I1 u (j + 1) q (s1 + 1) (fun t => if t = s1 then 32 * 0 + 16 else c1 t) := XrM.nx2 hX n1 n2 n3 hj1
      refine V.aload_n (pc := 45) dX4_readTest_45 rfl ?_
      refine V.iload_n (pc := 46) dX4_readTest_46 rfl ?_
      refine V.invV0 (as := [_]) (pc := 47) dX4_readTest_47 lX4_94 bX4_readBoth nX4_readBoth (ci := 4) rfl eX4_readBoth hRd.o (x_both (d := d + 0) (k := k) hC hS hk8 hd hRd hN hX1) (by omega) rfl (Nat.le_of_ble_eq_true rfl) ?_
      rintro r2 _ _ I2 _ _ ⟨rfl, rfl, rfl, rfl, f2, hy2, hn2⟩
      rcases hp2 : dTChain (kdT tt N) 260 tvAnd (plainK (kdT tt N) (nmT tt N) k) (j + 1) q with ⟨j2, q2, _ | v2⟩
      · obtain ⟨rfl, hN2⟩ := hn2 j2 q2 hp2
        rw [hp2] at hres
        have eD := hres
        refine V.if_ne 55 (pc := 50) dX4_readTest_50 (by decide) (fun h50 => absurd rfl h50) (fun h50 => ?_)
        refine V.iconst (v := 0) (pc := 53) dX4_readTest_53 (by decide) ?_
        exact V.zret (pc := 54) dX4_readTest_54 rfl (by first | exact Or.inl rfl | exact Or.inr rfl | exact bi_or | assumption) (hQ _ I2 ((((hf.up (by omega)).up (by omega)).tr (nxF n1 n2)).tr f2) (fun j q v e => (by rw [eD] at e; cases e)) (fun j q e => (by rw [eD] at e; cases e; exact ⟨rfl, hN2⟩)))
      · obtain ⟨rfl, hV2⟩ := hy2 j2 q2 v2 hp2
        rw [hp2] at hres
        obtain ⟨s2, y7, y1, y2, c3, x3, x4, x5, x6, x7, x8⟩ := TvY.op (kd := 16) (cb := tvOr) h1 h2 h3 h4 hv hV2 (Or.inr ⟨rfl, rfl⟩) hE4
        refine V.if_ne 55 (pc := 50) dX4_readTest_50 (by decide) (fun h50 => ?_) (fun h50 => absurd h50 (by decide))
        refine V.aload_n (pc := 55) dX4_readTest_55 rfl ?_
        refine V.iload_n (pc := 56) dX4_readTest_56 rfl ?_
        refine V.bipush (v := 16) (pc := 57) dX4_readTest_57 (by decide) ?_
        refine V.invV0 (as := [_, _]) (pc := 59) dX4_readTest_59 lX4_101 bX4_aimHere nX4_aimHere (ci := 4) rfl eX4_aimHere hRd.o (x_aimHere (d := d + 8) (s := s2) (at_ := s1) (kd := 16) _ _ hRd y7 y2 (by omega) (by decide) rfl rfl) (by omega) rfl (Nat.le_of_ble_eq_true rfl) ?_
        rintro _ _ _ _ _ _ ⟨rfl, rfl, rfl, rfl, rfl, rfl⟩
        refine V.iinc1 (pc := 62) dX4_readTest_62 (by decide) rfl (st1_2 rfl) ?_
        refine V.goto 12 (pc := 65) dX4_readTest_65 (by decide) ?_
        rw [nI_1]
        refine V.weak wk_3 ?_
        exact ih (it + 1) j2 q2 s2 c3 _ _ (by omega) (((((hf.up (by omega)).up (by omega)).tr (nxF n1 n2)).tr f2).up (by omega)) x3 x4 x5 x6 x7 x8 hres
theorem x_test {g : gG} {d : Nat} {T : mT} {n : Nat} {I : mI} {J : mJ} {F : mF} {k : Nat} {u N i p s : Nat} {tt : Nat → Nat} {c : Nat → Nat} (hC : SumCt k) (hS : k = 0 ∨ TestCt (k - 1)) (hk8 : k ≤ 8) (hd : 4 * k ≤ d) (hRd : RrS T F u) (hN : TtM tt N) (hX : XrM tt N I u i p s c) : Ct g mX4_readTest (d + 9) [.ref u, .int (nI (8 - k))] 0 0 T n I J F (QT T n I J F u N i s tt c (dTChain (kdT tt N) 259 tvOr (dTChain (kdT tt N) 260 tvAnd (plainK (kdT tt N) (nmT tt N) k)) i p)) := by
  refine Ct.ofV (k := 2) (by decide) (Nat.le_of_ble_eq_true rfl) ?_
  show V g mX4_readTest (d + 9) _ 0 0 0 [some (.ref u), some (.int (nI (8 - k))), none, none] [] T n I J F
  refine V.aload_n (pc := 0) dX4_readTest_0 rfl ?_
  refine V.iload_n (pc := 1) dX4_readTest_1 rfl ?_
  refine V.invV0 (as := [_]) (pc := 2) dX4_readTest_2 lX4_94 bX4_readBoth nX4_readBoth (ci := 4) rfl eX4_readBoth hRd.o (x_both (d := d + 0) (k := k) hC hS hk8 hd hRd hN hX) (by omega) rfl (Nat.le_of_ble_eq_true rfl) ?_
  rintro r1 _ _ I1 _ _ ⟨rfl, rfl, rfl, rfl, f1, hy1, hn1⟩
  rcases hp1 : dTChain (kdT tt N) 260 tvAnd (plainK (kdT tt N) (nmT tt N) k) i p with ⟨j1, q1, _ | v1⟩
  · obtain ⟨rfl, hN1⟩ := hn1 j1 q1 hp1
    have eD : dTChain (kdT tt N) 259 tvOr (dTChain (kdT tt N) 260 tvAnd (plainK (kdT tt N) (nmT tt N) k)) i p = (j1, q1, none) := by rw [dTChain, hp1]
    refine V.if_ne 10 (pc := 5) dX4_readTest_5 (by decide) (fun h5 => absurd rfl h5) (fun h5 => ?_)
    refine V.iconst (v := 0) (pc := 8) dX4_readTest_8 (by decide) ?_
    exact V.zret (pc := 9) dX4_readTest_9 rfl (by first | exact Or.inl rfl | exact Or.inr rfl | exact bi_or | assumption) ⟨rfl, rfl, rfl, rfl, f1, fun j q v e => (by rw [eD] at e; cases e), fun j q e => (by rw [eD] at e; cases e; exact ⟨rfl, hN1⟩)⟩
  · obtain ⟨rfl, hV1⟩ := hy1 j1 q1 v1 hp1
    obtain ⟨s1, c1, x1, x2, x3, x4, x5, x6⟩ := hV1
    refine V.if_ne 10 (pc := 5) dX4_readTest_5 (by decide) (fun h5 => ?_) (fun h5 => absurd h5 (by decide))
    refine V.iconst (v := 0) (pc := 10) dX4_readTest_10 (by decide) ?_
    refine V.isn (pc := 11) dX4_readTest_11 (by decide) (st1_2 rfl) ?_
    exact l_test_ (p := p) hC hS hk8 hd hRd hN (res := dTChain (kdT tt N) 259 tvOr (dTChain (kdT tt N) 260 tvAnd (plainK (kdT tt N) (nmT tt N) k)) i p) (fun r' I' h1 h2 h3 => ⟨rfl, rfl, rfl, rfl, h1, h2, h3⟩) 400 0 j1 q1 s1 c1 v1 I1 rfl f1 x1 x2 x3 x4 x5 x6 (by rw [dTChain, hp1])
theorem TestCt.all : ∀ k, k ≤ 8 → TestCt k
  | 0, _ => fun g d T n I J F u N i p s tt c hd hRd hN hX => by
    rw [testAt_K]
    exact x_test (SumCt.all 0 (by decide)) (Or.inl rfl) (by decide) hd hRd hN hX
  | k + 1, hk => fun g d T n I J F u N i p s tt c hd hRd hN hX => by
    rw [testAt_K]
    exact x_test (SumCt.all (k + 1) hk) (Or.inr (TestCt.all k (by omega))) hk hd hRd hN hX
