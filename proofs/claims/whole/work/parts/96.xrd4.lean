-- clauses
theorem V.dom {g : gG} {M : mD} {d : Nat} {Q : mQ} {bc bs pc : Nat} {L : List (Option Value)} {st : List Value} {T : mT} {n : Nat} {I : mI} {J : mJ} {F : mF} (kk : (∀ a sh, T a = some sh → a < n) → V g M d Q bc bs pc L st T n I J F) : V g M d Q bc bs pc L st T n I J F := fun p e R s m args below meth c H locs cells slots ls X => kk (fun a sh h => by have h2 := (X.hp.2.2.2 a sh h).2.lt; rw [X.hp.1] at h2; exact h2) p e R s m args below meth c H locs cells slots ls X
theorem V.room {g : gG} {M : mD} {d : Nat} {Q : mQ} {bc bs bc' bs' pc : Nat} {L : List (Option Value)} {st : List Value} {T : mT} {n : Nat} {I : mI} {J : mJ} {F : mF} (h1 : bc ≤ bc') (h2 : bs ≤ bs') (kk : V g M d Q bc bs pc L st T n I J F) : V g M d Q bc' bs' pc L st T n I J F := fun p e R s m args below meth c H locs cells slots ls X => kk p e R s m args below meth c H locs cells slots ls ⟨X.ex, X.cd, X.gl, X.ml, X.rt, X.lk, X.nm, X.own, X.wm, X.fr, X.lo, ⟨by have := X.rm.1; omega, by have := X.rm.2; omega⟩, X.sk, X.hp, X.lc⟩
/-- a clause's steps, from a on: its sum to b, its test to e -/
def ClX (c : Nat → Nat) (a e : Nat) (cl : ClA) : Prop := ∃ b, a ≤ b ∧ b ≤ e ∧ RealX c a b cl.1 ∧ (match cl.2 with
  | none => e = b
  | some t => RealXT c b e t)
theorem ClX.congr {c c' : Nat → Nat} {a e : Nat} {cl : ClA} (h : ClX c a e cl) (hc : ∀ j, j < e → c' j = c j) : ClX c' a e cl := by
  obtain ⟨b, h1, h2, h3, h4⟩ := h
  refine ⟨b, h1, h2, h3.congr (fun j _ hj => hc j (by omega)), ?_⟩
  cases ht : cl.2 with
  | none => rw [ht] at h4; exact h4
  | some t => rw [ht] at h4; exact RealXT.congr h4 (fun j _ hj => hc j hj)
def QCl (T : mT) (n : Nat) (I : mI) (J : mJ) (F : mF) (u N i s : Nat) (tt : Nat → Nat) (c : Nat → Nat) (res : Nat × Nat × Option ClA) : mQ := fun r' T' n' I' J' F' => T' = T ∧ n' = n ∧ J' = J ∧ F' = F ∧ XrF u I I' ∧ (∀ j q v, res = (j, q, some v) → r' = some (.int 1) ∧ ∃ (s' : Nat) (c' : Nat → Nat), XrM tt N I' u j q s' c' ∧ s ≤ s' ∧ (∀ t, t < s → c' t = c t) ∧ ClX c' s s' v) ∧ ∀ j q, res = (j, q, none) → r' = some (.int 0) ∧ XrN tt N u I' j
theorem x_clause {g : gG} {d : Nat} {T : mT} {n : Nat} {I : mI} {J : mJ} {F : mF} {u N i p s : Nat} {tt : Nat → Nat} {c : Nat → Nat} (hd : 32 ≤ d) (hRd : RrS T F u) (hN : TtM tt N) (hX : XrM tt N I u i p s c) : Ct g mX4_readClause (d + 10) [.ref u] 0 0 T n I J F (QCl T n I J F u N i s tt c (dClause (kdT tt N) (nmT tt N) i p)) := by
  refine Ct.ofV (k := 0) (by decide) (Nat.le_of_ble_eq_true rfl) ?_
  show V g mX4_readClause (d + 10) _ 0 0 0 [some (.ref u)] [] T n I J F
  have hE := hN.end
  have hE4 := hE.1
  have hiE : i ≤ tkN tt N := hX.2.2.2.2.1
  have hkl := hN.kd i
  have hkg := kdT_ge (tt := tt) (N := N) (i := i)
  have hnm := nmT_le (tt := tt) (N := N) (i := i)
  have e2 : I u 2 = iI (kdT tt N i) := hX.1.2.1
  have e3 : I u 3 = nI (nmT tt N i) := hX.1.2.2.1
  have e5 : I u 5 = nI p := hX.2.1
  have e7 : I u 7 = nI s := hX.2.2.1.1
  have hs : s ≤ i := hX.2.2.2.2.2.1
  have hp50 : p ≤ 50 := hX.2.2.2.2.2.2.2
  by_cases q257 : kdT tt N i = 257
  · have hi1 : i + 1 ≤ tkN tt N := nxt hE hiE (by rw [q257]; decide)
    refine V.aload_n (pc := 0) dX4_readClause_0 rfl ?_
    refine V.getI (pc := 1) dX4_readClause_1 fX4_22_4 rfl hRd.o ?_
    rw [e2]
    refine V.sipush (v := 257) (pc := 4) dX4_readClause_4 (by decide) ?_
    refine V.icmp_eq 12 (pc := 7) dX4_readClause_7 (by decide) (fun h7 => ?_) (fun h7 => absurd (by rw [q257]; rfl) h7)
    refine V.aload_n (pc := 12) dX4_readClause_12 rfl ?_
    refine V.invV0 (as := []) (pc := 13) dX4_readClause_13 lX4_54 bX4_nextToken nX4_nextToken (ci := 4) rfl eX4_nextToken hRd.o (x_nextToken (d := d + 8) (N := N) (tt := tt) (i := i + 1) hRd hX.2.2.2.1 hi1 hE4 (by rw [hX.1.1, ← iI_nat]; congr 1; omega)) (by omega) rfl (Nat.le_of_ble_eq_true rfl) ?_
    rintro _ _ _ I1 _ _ ⟨rfl, rfl, rfl, rfl, rfl, n1, n2, n3⟩
    have hX1 := hX.nx n1 n2 n3 hi1
    refine V.aload_n (pc := 16) dX4_readClause_16 rfl ?_
    refine V.iconst (v := 0) (pc := 17) dX4_readClause_17 (by decide) ?_
    refine V.invV0 (as := [_]) (pc := 18) dX4_readClause_18 lX4_87 bX4_readSum nX4_readSum (ci := 4) rfl eX4_readSum hRd.o (SumCt.all 8 (by decide) _ d _ _ _ _ _ _ _ _ _ _ _ _ (by omega) hRd hN hX1) (by omega) rfl (Nat.le_of_ble_eq_true rfl) ?_
    rintro r2 _ _ I2 _ _ ⟨rfl, rfl, rfl, rfl, f2, hy2, hn2⟩
    rcases hp2 : sumAt (kdT tt N) (nmT tt N) 8 (i + 1) p with ⟨j2, q2, _ | v2⟩
    · obtain ⟨rfl, hN2⟩ := hn2 j2 q2 hp2
      have eD : dClause (kdT tt N) (nmT tt N) i p = (j2, q2, none) := by rw [dClause, if_pos q257, hp2]
      refine V.if_ne 26 (pc := 21) dX4_readClause_21 (by decide) (fun h21 => absurd rfl h21) (fun h21 => ?_)
      refine V.iconst (v := 0) (pc := 24) dX4_readClause_24 (by decide) ?_
      exact V.zret (pc := 25) dX4_readClause_25 rfl (by first | exact Or.inl rfl | exact Or.inr rfl | exact bi_or | assumption) ⟨rfl, rfl, rfl, rfl, (nxF n1 n2).tr f2, fun j q v e => (by rw [eD] at e; cases e), fun j q e => (by rw [eD] at e; cases e; exact ⟨rfl, hN2⟩)⟩
    · obtain ⟨rfl, hV2⟩ := hy2 j2 q2 v2 hp2
      obtain ⟨s2, c2, x1, x2, x3, x4, x5, x6⟩ := hV2
      have hkl2 := hN.kd j2
      have hkg2 := kdT_ge (tt := tt) (N := N) (i := j2)
      have e22 : I2 u 2 = iI (kdT tt N j2) := x1.1.2.1
      refine V.if_ne 26 (pc := 21) dX4_readClause_21 (by decide) (fun h21 => ?_) (fun h21 => absurd h21 (by decide))
      refine V.aload_n (pc := 26) dX4_readClause_26 rfl ?_
      refine V.getI (pc := 27) dX4_readClause_27 fX4_22_4 rfl hRd.o ?_
      rw [e22]
      refine V.sipush (v := 258) (pc := 30) dX4_readClause_30 (by decide) ?_
      refine V.icmp_eq 38 (pc := 33) dX4_readClause_33 (by decide) (fun h33 => ?_) (fun h33 => ?_)
      · have q258 := (iI_eqc (z := kdT tt N j2) (k := 258) (by omega) (by decide)).mp h33
        have hj1 : j2 + 1 ≤ tkN tt N := nxt hE x1.2.2.2.2.1 (by rw [q258]; decide)
        refine V.aload_n (pc := 38) dX4_readClause_38 rfl ?_
        refine V.invV0 (as := []) (pc := 39) dX4_readClause_39 lX4_54 bX4_nextToken nX4_nextToken (ci := 4) rfl eX4_nextToken hRd.o (x_nextToken (d := d + 8) (N := N) (tt := tt) (i := j2 + 1) hRd x1.2.2.2.1 hj1 hE4 (by rw [x1.1.1, ← iI_nat]; congr 1; omega)) (by omega) rfl (Nat.le_of_ble_eq_true rfl) ?_
        rintro _ _ _ I3 _ _ ⟨rfl, rfl, rfl, rfl, rfl, m1, m2, m3⟩
        have hX3 := x1.nx m1 m2 m3 hj1
        refine V.aload_n (pc := 42) dX4_readClause_42 rfl ?_
        refine V.iconst (v := 0) (pc := 43) dX4_readClause_43 (by decide) ?_
        refine V.invV0 (as := [_]) (pc := 44) dX4_readClause_44 lX4_91 bX4_readTest nX4_readTest (ci := 4) rfl eX4_readTest hRd.o (TestCt.all 8 (by decide) _ d _ _ _ _ _ _ _ _ _ _ _ _ (by omega) hRd hN hX3) (by omega) rfl (Nat.le_of_ble_eq_true rfl) ?_
        rintro r4 _ _ I4 _ _ ⟨rfl, rfl, rfl, rfl, f4, hy4, hn4⟩
        rcases hp4 : testAt (kdT tt N) (nmT tt N) 8 (j2 + 1) q2 with ⟨j4, q4, _ | v4⟩
        · obtain ⟨rfl, hN4⟩ := hn4 j4 q4 hp4
          have eD : dClause (kdT tt N) (nmT tt N) i p = (j4, q4, none) := by rw [dClause, if_pos q257, hp2]; simp only []; rw [if_pos q258, hp4]
          exact V.zret (pc := 47) dX4_readClause_47 rfl (by first | exact Or.inl rfl | exact Or.inr rfl | exact bi_or | assumption) ⟨rfl, rfl, rfl, rfl, (((nxF n1 n2).tr f2).tr (nxF m1 m2)).tr f4, fun j q v e => (by rw [eD] at e; cases e), fun j q e => (by rw [eD] at e; cases e; exact ⟨rfl, hN4⟩)⟩
        · obtain ⟨rfl, hV4⟩ := hy4 j4 q4 v4 hp4
          have eD : dClause (kdT tt N) (nmT tt N) i p = (j4, q4, some (v2, some v4)) := by rw [dClause, if_pos q257, hp2]; simp only []; rw [if_pos q258, hp4]
          obtain ⟨s4, c4, y1, y2, y3, y4, y5, y6⟩ := hV4
          exact V.zret (pc := 47) dX4_readClause_47 rfl (by first | exact Or.inl rfl | exact Or.inr rfl | exact bi_or | assumption) ⟨rfl, rfl, rfl, rfl, (((nxF n1 n2).tr f2).tr (nxF m1 m2)).tr f4, fun j q v e => (by rw [eD] at e; cases e; exact ⟨rfl, s4, c4, y1, by omega, fun t ht => (y5 t (by omega)).trans (x5 t ht), s2, x2, y2, x6.congr (fun t _ ht => y5 t ht), y6⟩), fun j q e => (by rw [eD] at e; cases e)⟩
      · have q258 : ¬ kdT tt N j2 = 258 := fun z => h33 ((iI_eqc (z := kdT tt N j2) (k := 258) (by omega) (by decide)).mpr z)
        have eD : dClause (kdT tt N) (nmT tt N) i p = (j2, q2, some (v2, none)) := by rw [dClause, if_pos q257, hp2]; simp only []; rw [if_neg q258]
        refine V.iconst (v := 1) (pc := 36) dX4_readClause_36 (by decide) ?_
        exact V.zret (pc := 37) dX4_readClause_37 rfl (by first | exact Or.inl rfl | exact Or.inr rfl | exact bi_or | assumption) ⟨rfl, rfl, rfl, rfl, (nxF n1 n2).tr f2, fun j q v e => (by rw [eD] at e; cases e; exact ⟨rfl, s2, c2, x1, x2, x5, s2, x2, Nat.le_refl _, x6, rfl⟩), fun j q e => (by rw [eD] at e; cases e)⟩
  · have eD : dClause (kdT tt N) (nmT tt N) i p = (i, p, none) := by rw [dClause, if_neg q257]
    refine V.aload_n (pc := 0) dX4_readClause_0 rfl ?_
    refine V.getI (pc := 1) dX4_readClause_1 fX4_22_4 rfl hRd.o ?_
    rw [e2]
    refine V.sipush (v := 257) (pc := 4) dX4_readClause_4 (by decide) ?_
    refine V.icmp_eq 12 (pc := 7) dX4_readClause_7 (by decide) (fun h7 => absurd ((iI_eqc (z := kdT tt N i) (k := 257) (by omega) (by decide)).mp h7) q257) (fun h7 => ?_)
    refine V.iconst (v := 0) (pc := 10) dX4_readClause_10 (by decide) ?_
    exact V.zret (pc := 11) dX4_readClause_11 rfl (by first | exact Or.inl rfl | exact Or.inr rfl | exact bi_or | assumption) ⟨rfl, rfl, rfl, rfl, XrF.rf, fun j q v e => (by rw [eD] at e; cases e), fun j q e => (by rw [eD] at e; cases e; exact ⟨rfl, _, _, _, hX⟩)⟩
theorem x_mark {g : gG} {d : Nat} {T : mT} {n : Nat} {I : mI} {J : mJ} {F : mF} {u s k : Nat} (hRd : RrS T F u) (h6 : I u 6 = nI k) (hk : k ≤ 12) (h7 : I u 7 = nI s) : Ct g mX4_markClause (d + 0) [.ref u] 0 0 T n I J F (fun r' T' n' I' J' F' => r' = none ∧ T' = T ∧ n' = n ∧ I' = up2 I (u + 6) k (nI s) ∧ J' = J ∧ F' = F) := by
  refine Ct.ofV (k := 0) (by decide) (Nat.le_of_ble_eq_true rfl) ?_
  show V g mX4_markClause (d + 0) _ 0 0 0 [some (.ref u)] [] T n I J F
  refine V.aload_n (pc := 0) dX4_markClause_0 rfl ?_
  refine V.getI (pc := 1) dX4_markClause_1 fX4_34_4 rfl hRd.o ?_
  rw [h6]
  refine V.if_lt 32 (pc := 4) dX4_markClause_4 (by decide) (fun h4 => absurd h4 (nI_pos (by omega))) (fun h4 => ?_)
  refine V.aload_n (pc := 7) dX4_markClause_7 rfl ?_
  refine V.getI (pc := 8) dX4_markClause_8 fX4_34_4 rfl hRd.o ?_
  rw [h6]
  refine V.aload_n (pc := 11) dX4_markClause_11 rfl ?_
  refine V.getR (pc := 12) dX4_markClause_12 fX4_44_4 rfl hRd.o hRd.f9 ?_
  refine V.alen (pc := 15) dX4_markClause_15 hRd.t9 ty_i (by rfl) ?_
  refine V.icmp_ge 32 (pc := 16) dX4_markClause_16 (by decide) (fun h16 => absurd (show nI 13 ≤ nI k from h16) (nI_ge (by omega) (by omega))) (fun h16 => ?_)
  refine V.aload_n (pc := 19) dX4_markClause_19 rfl ?_
  refine V.getR (pc := 20) dX4_markClause_20 fX4_44_4 rfl hRd.o hRd.f9 ?_
  refine V.aload_n (pc := 23) dX4_markClause_23 rfl ?_
  refine V.getI (pc := 24) dX4_markClause_24 fX4_34_4 rfl hRd.o ?_
  rw [h6]
  refine V.aload_n (pc := 27) dX4_markClause_27 rfl ?_
  refine V.getI (pc := 28) dX4_markClause_28 fX4_37_4 rfl hRd.o ?_
  rw [h7]
  refine V.iast' (k := k) (pc := 31) dX4_markClause_31 hRd.t9 rfl (by omega) (by decide) ?_
  exact V.vret (pc := 32) dX4_markClause_32 rfl ⟨rfl, rfl, rfl, rfl, rfl, rfl⟩
def LwS (I : mI) (u : Nat) (c st : Nat → Nat) (s : Nat) (l : List ClA) : Prop := (∀ t, t < l.length → I (u + 6) t = nI (st t)) ∧ st l.length = s ∧ (∀ t, t < l.length → st (t + 1) ≤ s) ∧ ∀ (t : Nat) (q : ClA), l[t]? = some q → ClX c (st t) (st (t + 1)) q
theorem LwS.add {I I' : mI} {u s s' : Nat} {c c' st : Nat → Nat} {l : List ClA} {q : ClA} (h : LwS I u c st s l) (e : ∀ t, t < l.length → I' (u + 6) t = I (u + 6) t) (e2 : I' (u + 6) l.length = nI s) (hs : s ≤ s') (hc : ∀ t, t < s → c' t = c t) (hq : ClX c' s s' q) : LwS I' u c' (fun t => if t = l.length + 1 then s' else st t) s' (l ++ [q]) := by
  obtain ⟨h1, h2, h3, h4⟩ := h
  refine ⟨fun t ht => ?_, ?_, fun t ht => ?_, fun t x hx => ?_⟩
  · rw [List.length_append, List.length_singleton] at ht
    show _ = nI (if t = l.length + 1 then s' else st t)
    rw [if_neg (by omega)]
    by_cases z : t = l.length
    · rw [z, e2, h2]
    · rw [e t (by omega), h1 t (by omega)]
  · rw [List.length_append, List.length_singleton]; exact if_pos rfl
  · rw [List.length_append, List.length_singleton] at ht
    show (if t + 1 = l.length + 1 then s' else st (t + 1)) ≤ s'
    by_cases z : t + 1 = l.length + 1
    · rw [if_pos z]; exact Nat.le_refl _
    · rw [if_neg z]; exact Nat.le_trans (h3 t (by omega)) hs
  · show ClX c' (if t = l.length + 1 then s' else st t) (if t + 1 = l.length + 1 then s' else st (t + 1)) x
    have hl := (List.getElem?_eq_some_iff.mp hx).1
    rw [List.length_append, List.length_singleton] at hl
    rw [if_neg (by omega)]
    by_cases z : t = l.length
    · rw [if_pos (by omega)]
      rw [z, List.getElem?_append_right (Nat.le_refl _), Nat.sub_self] at hx
      cases hx
      rw [z, h2]
      exact hq
    · rw [if_neg (by omega)]
      rw [List.getElem?_append_left (by omega)] at hx
      exact (h4 t x hx).congr (fun j hj => hc j (Nat.lt_of_lt_of_le hj (h3 t (by omega))))
theorem XrM.keep {tt : Nat → Nat} {N u i p s : Nat} {c : Nat → Nat} {I I' : mI} (h : XrM tt N I u i p s c) (e1 : ∀ b, b ≠ u → b ≠ u + 6 → I' b = I b) (e2 : ∀ t, t ≠ 6 → I' u t = I u t) : XrM tt N I' u i p s c := by
  obtain ⟨⟨a1, a2, a3, a4⟩, b, ⟨d1, d2⟩, e, f⟩ := h
  exact ⟨⟨by rw [e2 1 (by decide)]; exact a1, by rw [e2 2 (by decide)]; exact a2, by rw [e2 3 (by decide)]; exact a3, by rw [e2 4 (by decide)]; exact a4⟩, by rw [e2 5 (by decide)]; exact b, ⟨by rw [e2 7 (by decide)]; exact d1, fun j hj => by rw [e1 _ (by omega) (by omega)]; exact d2 j hj⟩, e.keep (fun b h1 h2 => e1 b (by omega) (by omega)), f⟩
def XqF (u : Nat) (I I' : mI) : Prop := (∀ b, b ≠ u → b ≠ u + 5 → b ≠ u + 6 → I' b = I b) ∧ ∀ t, t = 0 ∨ 7 < t → I' u t = I u t
theorem XqF.rf {u : Nat} {I : mI} : XqF u I I := ⟨fun _ _ _ _ => rfl, fun _ _ => rfl⟩
theorem XqF.tr {u : Nat} {I I' I'' : mI} (h : XqF u I I') (h2 : XqF u I' I'') : XqF u I I'' := ⟨fun b a e f => (h2.1 b a e f).trans (h.1 b a e f), fun t e => (h2.2 t e).trans (h.2 t e)⟩
theorem XrF.q {u : Nat} {I I' : mI} (h : XrF u I I') : XqF u I I' := ⟨fun b a e _ => h.1 b a e, fun t e => h.2 t (by omega)⟩
theorem XqF.up {u a t : Nat} {I I' : mI} {v : Int32} (h : XqF u I I') (ha : (a = u ∧ t ≠ 0 ∧ t ≤ 7) ∨ a = u + 5 ∨ a = u + 6) : XqF u I (up2 I' a t v) := ⟨fun b h1 h2 h3 => by rw [up2_off (by omega)]; exact h.1 b h1 h2 h3, fun t h1 => by rw [up2_ne (by omega)]; exact h.2 t h1⟩
def QCs (T : mT) (n : Nat) (I : mI) (J : mJ) (F : mF) (u N : Nat) (tt : Nat → Nat) (res : Nat × Option (List ClA)) : mQ := fun r' T' n' I' J' F' => T' = T ∧ n' = n ∧ J' = J ∧ F' = F ∧ XqF u I I' ∧ (∀ j l, res = (j, some l) → r' = some (.int 1) ∧ l.length ≤ 12 ∧ I' u 6 = nI l.length ∧ ∃ (q s : Nat) (c st : Nat → Nat), XrM tt N I' u j q s c ∧ LwS I' u c st s l ∧ I' (u + 6) l.length = nI s) ∧ ∀ j, res = (j, none) → r' = some (.int 0) ∧ XrN tt N u I' j
theorem l_clauses {g : gG} {d : Nat} {T : mT} {n : Nat} {I : mI} {J : mJ} {F : mF} {Q : mQ} {u N : Nat} {tt : Nat → Nat} {res : Nat × Option (List ClA)} (hd : 32 ≤ d) (hRd : RrS T F u) (hN : TtM tt N) (hQ : ∀ (r' : Option Value) (I' : mI), XqF u I I' → (∀ j l, res = (j, some l) → r' = some (.int 1) ∧ l.length ≤ 12 ∧ I' u 6 = nI l.length ∧ ∃ (q s : Nat) (c st : Nat → Nat), XrM tt N I' u j q s c ∧ LwS I' u c st s l ∧ I' (u + 6) l.length = nI s) → (∀ j, res = (j, none) → r' = some (.int 0) ∧ XrN tt N u I' j) → Q r' T n I' J F) : ∀ (f i p s : Nat) (c st : Nat → Nat) (l : List ClA) (I' : mI), f + l.length = 12 → XqF u I I' → XrM tt N I' u i p s c → LwS I' u c st s l → I' u 6 = nI l.length → res = dClauses (kdT tt N) (nmT tt N) f i p l → V g mX4_readClauses (d + 11) Q 0 0 2 [some (.ref u), some (.int (nI l.length))] [] T n I' J F := by
  have hE := hN.end
  have hE4 := hE.1
  intro f
  induction f with
  | zero =>
    intro i p s c st l I' hfl hf hX hl h6 hres
    have h12 : l.length = 12 := by omega
    have eD : res = (i, none) := hres
    refine V.iload_n (pc := 2) dX4_readClauses_2 rfl ?_
    refine V.bipush (v := 12) (pc := 3) dX4_readClauses_3 (by decide) ?_
    refine V.icmp_ge 66 (pc := 5) dX4_readClauses_5 (by decide) (fun h5 => ?_) (fun h5 => absurd (show nI 12 ≤ nI l.length by rw [h12]; exact Int32.le_refl _) h5)
    refine V.iconst (v := 0) (pc := 66) dX4_readClauses_66 (by decide) ?_
    exact V.zret (pc := 67) dX4_readClauses_67 rfl (by first | exact Or.inl rfl | exact Or.inr rfl | exact bi_or | assumption) (hQ _ I' hf (fun j l e => (by rw [eD] at e; cases e)) (fun j e => (by rw [eD] at e; cases e; exact ⟨rfl, ⟨_, _, _, hX⟩⟩)))
  | succ f ih =>
    intro i p s c st l I' hfl hf hX hl h6 hres
    rw [dClauses] at hres
    have h7 : I' u 7 = nI s := hX.2.2.1.1
    refine V.iload_n (pc := 2) dX4_readClauses_2 rfl ?_
    refine V.bipush (v := 12) (pc := 3) dX4_readClauses_3 (by decide) ?_
    refine V.icmp_ge 66 (pc := 5) dX4_readClauses_5 (by decide) (fun h5 => absurd (show nI 12 ≤ nI l.length from h5) (nI_ge (by omega) (by omega))) (fun h5 => ?_)
    refine V.aload_n (pc := 8) dX4_readClauses_8 rfl ?_
    refine V.invV0 (as := []) (pc := 9) dX4_readClauses_9 lX4_81 bX4_markClause nX4_markClause (ci := 4) rfl eX4_markClause hRd.o (x_mark (d := d + 10) (k := l.length) (s := s) hRd h6 (by omega) h7) (by omega) rfl (Nat.le_of_ble_eq_true rfl) ?_
    rintro _ _ _ _ _ _ ⟨rfl, rfl, rfl, rfl, rfl, rfl⟩
    refine V.aload_n (pc := 12) dX4_readClauses_12 rfl ?_
    refine V.dup (pc := 13) dX4_readClauses_13 rfl ?_
    refine V.getI (pc := 14) dX4_readClauses_14 fX4_34_4 rfl hRd.o ?_
    rw [up2_off (by omega), h6]
    refine V.iconst (v := 1) (pc := 17) dX4_readClauses_17 (by decide) ?_
    refine V.iadd (pc := 18) dX4_readClauses_18 ?_
    rw [nI_1]
    refine V.putI (pc := 19) dX4_readClauses_19 fX4_34_4 (fun r h => by cases h; exact Or.inl rfl) rfl hRd.o ?_
    refine V.aload_n (pc := 22) dX4_readClauses_22 rfl ?_
    refine V.invV0 (as := []) (pc := 23) dX4_readClauses_23 lX4_84 bX4_readClause nX4_readClause (ci := 4) rfl eX4_readClause hRd.o (x_clause (d := d + 0) (i := i) (p := p) (s := s) (c := c) (tt := tt) (N := N) hd hRd hN (hX.keep (fun b h1 h2 => by rw [up2_off h1, up2_off h2]) (fun t ht => by rw [up2_ne (by omega), up2_off (by omega)]))) (by omega) rfl (Nat.le_of_ble_eq_true rfl) ?_
    rintro r1 _ _ I1 _ _ ⟨rfl, rfl, rfl, rfl, f1, hy1, hn1⟩
    rcases hp1 : dClause (kdT tt N) (nmT tt N) i p with ⟨j1, q1, _ | v1⟩
    · obtain ⟨rfl, hN1⟩ := hn1 j1 q1 hp1
      rw [hp1] at hres
      have eD := hres
      refine V.if_ne 31 (pc := 26) dX4_readClauses_26 (by decide) (fun h26 => absurd rfl h26) (fun h26 => ?_)
      refine V.iconst (v := 0) (pc := 29) dX4_readClauses_29 (by decide) ?_
      exact V.zret (pc := 30) dX4_readClauses_30 rfl (by first | exact Or.inl rfl | exact Or.inr rfl | exact bi_or | assumption) (hQ _ I1 (((hf.up (by omega)).up (by omega)).tr f1.q) (fun j l e => (by rw [eD] at e; cases e)) (fun j e => (by rw [eD] at e; cases e; exact ⟨rfl, hN1⟩)))
    · obtain ⟨rfl, hV1⟩ := hy1 j1 q1 v1 hp1
      rw [hp1] at hres
      obtain ⟨s1, c1, x1, x2, x3, x4⟩ := hV1
      have hkl := hN.kd j1
      have hkg := kdT_ge (tt := tt) (N := N) (i := j1)
      have e2 : I1 u 2 = iI (kdT tt N j1) := x1.1.2.1
      have e6 : I1 u 6 = nI (l.length + 1) := by rw [f1.2 6 (by omega), up2_same]
      have e7 : I1 u 7 = nI s1 := x1.2.2.1.1
      have es6 : I1 (u + 6) = up2 I' (u + 6) l.length (nI s) (u + 6) := by rw [f1.1 (u + 6) (by omega) (by omega), up2_off (by omega)]
      have hl1 : LwS I1 u c1 (fun t => if t = l.length + 1 then s1 else st t) s1 (l ++ [v1]) := hl.add (fun t ht => by rw [es6, up2_ne (by omega)]) (by rw [es6, up2_same]) x2 x3 x4
      have hlen : (l ++ [v1]).length = l.length + 1 := by rw [List.length_append]; rfl
      refine V.if_ne 31 (pc := 26) dX4_readClauses_26 (by decide) (fun h26 => ?_) (fun h26 => absurd h26 (by decide))
      refine V.aload_n (pc := 31) dX4_readClauses_31 rfl ?_
      refine V.getI (pc := 32) dX4_readClauses_32 fX4_22_4 rfl hRd.o ?_
      rw [e2]
      refine V.iconst (v := (-1)) (pc := 35) dX4_readClauses_35 (by decide) ?_
      refine V.icmp_ne 45 (pc := 36) dX4_readClauses_36 (by decide) (fun h36 => ?_) (fun h36 => ?_)
      · have qe : ¬ kdT tt N j1 = -1 := fun z => h36 (((iI_eqc (z := kdT tt N j1) (k := -1) (by omega) (by decide)).mpr z).trans (show iI (-1) = (-1 : Int32) from rfl))
        simp only [] at hres
        rw [if_neg qe] at hres
        refine V.aload_n (pc := 45) dX4_readClauses_45 rfl ?_
        refine V.getI (pc := 46) dX4_readClauses_46 fX4_22_4 rfl hRd.o ?_
        rw [e2]
        refine V.bipush (v := 59) (pc := 49) dX4_readClauses_49 (by decide) ?_
        refine V.icmp_eq 56 (pc := 51) dX4_readClauses_51 (by decide) (fun h51 => ?_) (fun h51 => ?_)
        · have q59 := (iI_eqc (z := kdT tt N j1) (k := 59) (by omega) (by decide)).mp h51
          rw [if_pos q59] at hres
          have hj1 : j1 + 1 ≤ tkN tt N := nxt hE x1.2.2.2.2.1 (by rw [q59]; decide)
          refine V.aload_n (pc := 56) dX4_readClauses_56 rfl ?_
          refine V.invV0 (as := []) (pc := 57) dX4_readClauses_57 lX4_54 bX4_nextToken nX4_nextToken (ci := 4) rfl eX4_nextToken hRd.o (x_nextToken (d := d + 9) (N := N) (tt := tt) (i := j1 + 1) hRd x1.2.2.2.1 hj1 hE4 (by rw [x1.1.1, ← iI_nat]; congr 1; omega)) (by omega) rfl (Nat.le_of_ble_eq_true rfl) ?_
          rintro _ _ _ I2 _ _ ⟨rfl, rfl, rfl, rfl, rfl, n1, n2, n3⟩
          have hX2 := x1.nx n1 n2 n3 hj1
          refine V.iinc1 (pc := 60) dX4_readClauses_60 (by decide) rfl (st1_1 rfl) ?_
          refine V.goto 2 (pc := 63) dX4_readClauses_63 (by decide) ?_
          rw [nI_1, ← hlen]
          exact ih (j1 + 1) q1 s1 c1 _ (l ++ [v1]) I2 (by rw [hlen]; omega) ((((hf.up (by omega)).up (by omega)).tr f1.q).tr (nxF n1 n2).q) hX2 ⟨fun t ht => by rw [n1 _ (by omega)]; exact hl1.1 t ht, hl1.2⟩ (by rw [n2 6 (by omega), e6, hlen]) hres
        · have q59 : ¬ kdT tt N j1 = 59 := fun z => h51 ((iI_eqc (z := kdT tt N j1) (k := 59) (by omega) (by decide)).mpr z)
          rw [if_neg q59] at hres
          have eD := hres
          refine V.iconst (v := 0) (pc := 54) dX4_readClauses_54 (by decide) ?_
          exact V.zret (pc := 55) dX4_readClauses_55 rfl (by first | exact Or.inl rfl | exact Or.inr rfl | exact bi_or | assumption) (hQ _ I1 (((hf.up (by omega)).up (by omega)).tr f1.q) (fun j l e => (by rw [eD] at e; cases e)) (fun j e => (by rw [eD] at e; cases e; exact ⟨rfl, ⟨_, _, _, x1⟩⟩)))
      · have qe := (iI_eqc (z := kdT tt N j1) (k := -1) (by omega) (by decide)).mp (h36.trans (show (-1 : Int32) = iI (-1) from rfl))
        simp only [] at hres
        rw [if_pos qe] at hres
        have eD := hres
        refine V.aload_n (pc := 39) dX4_readClauses_39 rfl ?_
        refine V.invV0 (as := []) (pc := 40) dX4_readClauses_40 lX4_81 bX4_markClause nX4_markClause (ci := 4) rfl eX4_markClause hRd.o (x_mark (d := d + 10) (k := l.length + 1) (s := s1) hRd e6 (by omega) e7) (by omega) rfl (Nat.le_of_ble_eq_true rfl) ?_
        rintro _ _ _ _ _ _ ⟨rfl, rfl, rfl, rfl, rfl, rfl⟩
        refine V.iconst (v := 1) (pc := 43) dX4_readClauses_43 (by decide) ?_
        exact V.zret (pc := 44) dX4_readClauses_44 rfl (by first | exact Or.inl rfl | exact Or.inr rfl | exact bi_or | assumption) (hQ _ _ ((((hf.up (by omega)).up (by omega)).tr f1.q).up (by omega)) (fun j l' e => (by rw [eD] at e; cases e; exact ⟨rfl, by rw [hlen]; omega, by rw [up2_off (by omega), hlen]; exact e6, q1, s1, c1, _, x1.keep (fun b h1 h2 => by rw [up2_off h2]) (fun t ht => by rw [up2_off (by omega)]), ⟨fun t ht => by rw [hlen] at ht; rw [up2_ne (by omega)]; exact hl1.1 t (by rw [hlen]; exact ht), hl1.2⟩, by rw [hlen, up2_same]⟩)) (fun j e => (by rw [eD] at e; cases e)))
theorem x_clauses {g : gG} {d : Nat} {T : mT} {n : Nat} {I : mI} {J : mJ} {F : mF} {u N : Nat} {tt : Nat → Nat} (hd : 32 ≤ d) (hRd : RrS T F u) (hN : TtM tt N) (hX : XrM tt N I u 0 0 0 (fun _ => 0)) (h6 : I u 6 = 0) : Ct g mX4_readClauses (d + 11) [.ref u] 0 0 T n I J F (QCs T n I J F u N tt (dClauses (kdT tt N) (nmT tt N) 12 0 0 [])) := by
  refine Ct.ofV (k := 1) (by decide) (Nat.le_of_ble_eq_true rfl) ?_
  show V g mX4_readClauses (d + 11) _ 0 0 0 [some (.ref u), none] [] T n I J F
  refine V.iconst (v := 0) (pc := 0) dX4_readClauses_0 (by decide) ?_
  refine V.isn (pc := 1) dX4_readClauses_1 (by decide) (st1_1 rfl) ?_
  exact l_clauses hd hRd hN (res := dClauses (kdT tt N) (nmT tt N) 12 0 0 []) (fun r' I' h1 h2 h3 => ⟨rfl, rfl, rfl, rfl, h1, h2, h3⟩) 12 0 0 0 (fun _ => 0) (fun _ => 0) [] I rfl XqF.rf hX ⟨fun t ht => absurd ht (Nat.not_lt_zero t), rfl, fun t ht => absurd ht (Nat.not_lt_zero t), fun t q hq => by simp at hq⟩ h6 rfl
