-- a clause; the whole text
abbrev C3 : Type := Nat × Nat × Nat
def NcM (I : mI) (m : Nat) (l : List C3) : Prop := I m 15 = nI l.length ∧ ∀ (k : Nat) (q : C3), l[k]? = some q → I (m + 6) (8 * k + 3) = nI q.1 ∧ I (m + 6) (8 * k + 4) = nI q.2.1 ∧ I (m + 6) (8 * k + 5) = nI q.2.1 ∧ I (m + 6) (8 * k + 6) = nI q.2.2
/-- a clause's code: its sum from a to b, its test from b to e -/
def ClF (c : Nat → Nat × Nat) (q : C3) (cl : ClA) : Prop := q.1 ≤ q.2.1 ∧ q.2.1 ≤ q.2.2 ∧ RealR (cI c) q.1 q.2.1 cl.1 ∧ (match cl.2 with
  | none => q.2.2 = q.2.1
  | some t => q.2.1 < q.2.2 ∧ RealRT (cI c) q.2.1 q.2.2 t)
theorem ClF.ext {C D : Cd} {q : C3} {cl : ClA} (h : ClF C.2 q cl) (hq : q.2.2 ≤ C.1) (e : Ext C D) : ClF D.2 q cl := by
  obtain ⟨h1, h2, h3, h4⟩ := h
  refine ⟨h1, h2, h3.congr (fun j _ hj => by unfold cI; rw [e.2 j (by omega)]), ?_⟩
  cases ht : cl.2 with
  | none => rw [ht] at h4; exact h4
  | some t => rw [ht] at h4; exact ⟨h4.1, RealR.congr h4.2 (fun j _ hj => by unfold cI; rw [e.2 j (by omega)])⟩
theorem RealRT.ne {c : Nat → Int × Int} {a : Nat} {t : TV} (h : RealRT c a a t) : False := by
  have z := h.use (fun _ => 0) (fun _ S => S ≠ []) True ⟨fun k S k' S' h1 h2 => absurd h2 (by omega), fun k S h1 h2 => absurd h2 (by omega)⟩ [] (fun z _ => by simp) (fun _ => trivial)
  exact z rfl
def PrG (m : Nat) (I : mI) (J : mJ) (I' : mI) (J' : mJ) : Prop := (∀ b, b ≠ m → b < m + 6 ∨ m + 10 < b → I' b = I b) ∧ (∀ k, k < 9 ∨ k = 12 ∨ k = 16 ∨ k = 18 ∨ k = 19 ∨ k = 21 ∨ k = 22 ∨ 24 < k → I' m k = I m k) ∧ (∀ b, b ≠ m → J' b = J b) ∧ (∀ k, k ≠ 12 → J' m k = J m k)
section PRG
variable {tt : Nat → Nat} {N m : Nat} {r : RS} {I I' I'' : mI} {J J' J'' : mJ}
theorem PrG.rf : PrG m I J I J := ⟨fun _ _ _ => rfl, fun _ _ => rfl, fun _ _ => rfl, fun _ _ => rfl⟩
theorem PrG.tr (h : PrG m I J I' J') (h2 : PrG m I' J' I'' J'') : PrG m I J I'' J'' := ⟨fun b a c => (h2.1 b a c).trans (h.1 b a c), fun k a => (h2.2.1 k a).trans (h.2.1 k a), fun b a => (h2.2.2.1 b a).trans (h.2.2.1 b a), fun k a => (h2.2.2.2 k a).trans (h.2.2.2 k a)⟩
theorem PrF.g (h : PrF m I J I' J') : PrG m I J I' J' := ⟨fun b a c => h.1 b a (by omega), fun k a => h.2.1 k (by omega), h.2.2.1, h.2.2.2⟩
theorem PrG.up {a k : Nat} {v : Int32} (h : PrG m I J I' J') (hk : (a = m ∧ (k = 9 ∨ k = 10 ∨ k = 11 ∨ k = 13 ∨ k = 14 ∨ k = 15 ∨ k = 17 ∨ k = 20 ∨ k = 23 ∨ k = 24)) ∨ (m + 6 ≤ a ∧ a ≤ m + 10)) : PrG m I J (up2 I' a k v) J' := ⟨fun b h1 h2 => by rw [up2_off (by omega)]; exact h.1 b h1 h2, fun j hj => by rw [up2_ne (by omega)]; exact h.2.1 j hj, h.2.2.1, h.2.2.2⟩
theorem PrG.tp (h : PrG m I J I' J') (hT : TpM tt N I m) : TpM tt N I' m := ⟨hT.1, hT.2.1, by rw [h.2.1 8 (by omega)]; exact hT.2.2.1, fun i hi => by rw [h.1 _ (by omega) (by omega)]; exact hT.2.2.2 i hi⟩
theorem PrG.wd (h : PrG m I J I' J') (hW : WdM J m) : WdM J' m := by unfold WdM; rw [h.2.2.1 _ (by omega)]; exact hW
theorem RdM.keep (h : RdM tt N r I J m) (hm : ∀ k, k ≠ 15 → I' m k = I m k) (hb : ∀ b, m + 7 ≤ b → b ≤ m + 10 → I' b = I b) : RdM tt N r I' J m := by
  obtain ⟨⟨h0, h1, h2, h3⟩, h4, h5, ⟨h6, h7⟩, h8, h9, h10, h11⟩ := h
  exact ⟨⟨by rw [hm _ (by decide)]; exact h0, by rw [hm _ (by decide)]; exact h1, by rw [hm _ (by decide)]; exact h2, h3⟩, by rw [hm _ (by decide)]; exact h4, by rw [hm _ (by decide)]; exact h5, ⟨by rw [hm _ (by decide)]; exact h6, fun k hk => by rw [hb _ (by omega) (by omega), hb _ (by omega) (by omega)]; exact h7 k hk⟩, by rw [hm _ (by decide)]; exact h8, by rw [hm _ (by decide)]; exact h9, PlM.congr _ h10 (fun k _ => ⟨by rw [hb _ (by omega) (by omega)], by rw [hb _ (by omega) (by omega)]⟩), by rw [hm _ (by decide)]; exact h11⟩
theorem NcM.congr {l : List C3} (h : NcM I m l) (h1 : I' m 15 = I m 15) (h2 : I' (m + 6) = I (m + 6)) : NcM I' m l := by unfold NcM; rw [h1, h2]; exact h
theorem NcM.add {l : List C3} {a b e : Nat} (h : NcM I m l) (h15 : I' m 15 = nI (l.length + 1)) (hk : ∀ k, k < 8 * l.length → I' (m + 6) k = I (m + 6) k) (h3 : I' (m + 6) (8 * l.length + 3) = nI a) (h4 : I' (m + 6) (8 * l.length + 4) = nI b) (h5 : I' (m + 6) (8 * l.length + 5) = nI b) (h6 : I' (m + 6) (8 * l.length + 6) = nI e) : NcM I' m (l ++ [(a, b, e)]) := by
  refine ⟨by rw [h15, List.length_append]; rfl, fun k q hq => ?_⟩
  by_cases z : k < l.length
  · rw [List.getElem?_append_left z] at hq
    have := h.2 k q hq
    rw [hk _ (by omega), hk _ (by omega), hk _ (by omega), hk _ (by omega)]
    exact this
  · have hl := (List.getElem?_eq_some_iff.mp hq).1
    rw [List.length_append, List.length_singleton] at hl
    obtain rfl : k = l.length := by omega
    rw [List.getElem?_append_right (Nat.le_refl _), Nat.sub_self] at hq
    cases hq
    exact ⟨h3, h4, h5, h6⟩
end PRG
theorem c_clauseF {g : gG} {d : Nat} {T : mT} {n : Nat} {I : mI} {J : mJ} {F : mF} {m N : Nat} {tt : Nat → Nat} {r : RS} {l : List C3} (hM : MS T F m) (hT : TpM tt N I m) (hr : RdM tt N r I J m) (hW : WdM J m) (hok : RdK (tkN tt N) r) (hb : r_b r = false) (hl : NcM I m l) (h12 : l.length = 12) : Ct g mX12_readClause (d + 7) [.ref m] 0 0 T n I J F (fun r' T' n' I' J' F' => r' = none ∧ T' = T ∧ n' = n ∧ F' = F ∧ PrG m I J I' J' ∧ RdM tt N (badR r) I' J' m) := by
  refine Ct.ofV (k := 2) (by decide) (Nat.le_of_ble_eq_true rfl) ?_
  show V g mX12_readClause (d + 7) _ 0 0 0 [some (.ref m), none, none] [] T n I J F
  obtain ⟨i, b, C, v, P, oo⟩ := r
  have hb2 : b = false := hb
  subst hb2
  have e15 := hl.1
  rw [h12] at e15
  by_cases qa : kdT tt N i = 257
  · refine V.aload_n (pc := 0) dX12_readClause_0 rfl ?_
    refine V.aload_n (pc := 1) dX12_readClause_1 rfl ?_
    refine V.ldc2 (pc := 2) dX12_readClause_2 qX12_267 ?_
    refine V.pV (as := [_]) (pc := 5) dX12_readClause_5 lX12_209 bX12_isWord nX12_isWord (ci := 11) rfl eX12_isWord hM.o (c_isWord (d := d + 6) (N := N) (i := i) (tt := tt) (w := 20201203) _ hM hr.1 hT.2.1 (by decide) rfl) (by omega) rfl (Nat.le_of_ble_eq_true rfl) ?_
    rw [bi_c (wn_257 (fun i _ => hT.2.1 i)), bi_t qa]
    refine V.if_eq 24 (pc := 8) dX12_readClause_8 (by decide) (fun h8 => absurd h8 (by decide)) (fun h8 => ?_)
    refine V.aload_n (pc := 11) dX12_readClause_11 rfl ?_
    refine V.getI (pc := 12) dX12_readClause_12 fX12_269_11 rfl hM.o ?_
    rw [e15]
    refine V.bipush (v := 12) (pc := 15) dX12_readClause_15 (by decide) ?_
    refine V.icmp_ge 24 (pc := 17) dX12_readClause_17 (by decide) (fun h17 => ?_) (fun h17 => absurd (by decide) h17)
    refine V.iconst (v := 0) (pc := 24) dX12_readClause_24 (by decide) ?_
    refine V.invV0 (as := [_]) (pc := 25) dX12_readClause_25 lX12_184 bX12_must nX12_must (ci := 11) rfl eX12_must hM.o (c_mustN (d := d + 4) (N := N) (tt := tt) hM hT hr rfl) (by omega) rfl (Nat.le_of_ble_eq_true rfl) ?_
    rintro _ _ _ I1 J1 _ ⟨rfl, rfl, rfl, rfl, f1, hr1⟩
    refine V.aload_n (pc := 28) dX12_readClause_28 rfl ?_
    refine V.getI (pc := 29) dX12_readClause_29 fX12_151_11 rfl hM.o ?_
    rw [show I1 m 14 = 1 from hr1.2.1]
    refine V.if_eq 36 (pc := 32) dX12_readClause_32 (by decide) (fun h32 => absurd h32 (by decide)) (fun h32 => ?_)
    exact V.vret (pc := 35) dX12_readClause_35 rfl ⟨rfl, rfl, rfl, rfl, f1.g, hr1⟩
  · refine V.aload_n (pc := 0) dX12_readClause_0 rfl ?_
    refine V.aload_n (pc := 1) dX12_readClause_1 rfl ?_
    refine V.ldc2 (pc := 2) dX12_readClause_2 qX12_267 ?_
    refine V.pV (as := [_]) (pc := 5) dX12_readClause_5 lX12_209 bX12_isWord nX12_isWord (ci := 11) rfl eX12_isWord hM.o (c_isWord (d := d + 6) (N := N) (i := i) (tt := tt) (w := 20201203) _ hM hr.1 hT.2.1 (by decide) rfl) (by omega) rfl (Nat.le_of_ble_eq_true rfl) ?_
    rw [bi_c (wn_257 (fun i _ => hT.2.1 i)), bi_f qa]
    refine V.if_eq 24 (pc := 8) dX12_readClause_8 (by decide) (fun h8 => ?_) (fun h8 => absurd rfl h8)
    refine V.iconst (v := 0) (pc := 24) dX12_readClause_24 (by decide) ?_
    refine V.invV0 (as := [_]) (pc := 25) dX12_readClause_25 lX12_184 bX12_must nX12_must (ci := 11) rfl eX12_must hM.o (c_mustN (d := d + 4) (N := N) (tt := tt) hM hT hr rfl) (by omega) rfl (Nat.le_of_ble_eq_true rfl) ?_
    rintro _ _ _ I1 J1 _ ⟨rfl, rfl, rfl, rfl, f1, hr1⟩
    refine V.aload_n (pc := 28) dX12_readClause_28 rfl ?_
    refine V.getI (pc := 29) dX12_readClause_29 fX12_151_11 rfl hM.o ?_
    rw [show I1 m 14 = 1 from hr1.2.1]
    refine V.if_eq 36 (pc := 32) dX12_readClause_32 (by decide) (fun h32 => absurd h32 (by decide)) (fun h32 => ?_)
    exact V.vret (pc := 35) dX12_readClause_35 rfl ⟨rfl, rfl, rfl, rfl, f1.g, hr1⟩
set_option maxHeartbeats 4000000 in
theorem c_clause {g : gG} {d : Nat} {T : mT} {n : Nat} {I : mI} {J : mJ} {F : mF} {m N : Nat} {tt : Nat → Nat} {r : RS} {l : List C3} (hM : MS T F m) (hT : TpM tt N I m) (hr : RdM tt N r I J m) (hW : WdM J m) (hok : RdK (tkN tt N) r) (hb : r_b r = false) (hl : NcM I m l) (h12 : l.length < 12) : Ct g mX12_readClause (d + 7) [.ref m] 0 0 T n I J F (fun r' T' n' I' J' F' => r' = none ∧ T' = T ∧ n' = n ∧ F' = F ∧ PrG m I J I' J' ∧ (∀ j q cl, dClause (kdT tt N) (nmT tt N) (r_i r) (r_v r) = (j, q, some cl) → l.length < 12 ∧ ∃ (C' : Cd) (b : Nat), RdM tt N (j, false, C', q, [], 0) I' J' m ∧ RdOK (tkN tt N) (j, false, C', q, [], 0) ∧ Ext (r_C r) C' ∧ ClF C'.2 ((r_C r).1, b, C'.1) cl ∧ NcM I' m (l ++ [((r_C r).1, b, C'.1)])) ∧ (∀ j q, dClause (kdT tt N) (nmT tt N) (r_i r) (r_v r) = (j, q, none) → ∃ (C' : Cd) (q' : Nat) (P' : Pl) (o' : Nat), RdM tt N (j, true, C', q', P', o') I' J' m)) := by
  refine Ct.ofV (k := 2) (by decide) (Nat.le_of_ble_eq_true rfl) ?_
  show V g mX12_readClause (d + 7) _ 0 0 0 [some (.ref m), none, none] [] T n I J F
  obtain ⟨i, b, C, v, P, oo⟩ := r
  have hb2 : b = false := hb
  subst hb2
  have h305 := kdT_le (t := tt) (n := N) (fun i _ => hT.2.1 i)
  have hE : EndT (kdT tt N) (tkN tt N) := EndT.of hT.1
  have hiE : i ≤ tkN tt N := hok.1
  have e15 := hl.1
  by_cases qa : kdT tt N i = 257
  · have hi1 : i + 1 ≤ tkN tt N := nxt hE hiE (by rw [qa]; decide)
    have hES := exprS (nm := nmT tt N) (lv := v) (C := C) hE h305 hi1
    obtain ⟨hy, hn⟩ := hES
    cases hp : sumAt (kdT tt N) (nmT tt N) 8 (i + 1) v with
    | mk j0 r0 =>
      obtain ⟨q0, w0⟩ := r0
      cases w0 with
      | none =>
        obtain ⟨t3, C3_, q3, P3, o3, g1, g2, g3⟩ := hn j0 q0 hp
        have eD : dClause (kdT tt N) (nmT tt N) i v = (j0, q0, none) := by rw [dClause, if_pos qa, hp]
        refine V.aload_n (pc := 0) dX12_readClause_0 rfl ?_
        refine V.aload_n (pc := 1) dX12_readClause_1 rfl ?_
        refine V.ldc2 (pc := 2) dX12_readClause_2 qX12_267 ?_
        refine V.pV (as := [_]) (pc := 5) dX12_readClause_5 lX12_209 bX12_isWord nX12_isWord (ci := 11) rfl eX12_isWord hM.o (c_isWord (d := d + 6) (N := N) (i := i) (tt := tt) (w := 20201203) _ hM hr.1 hT.2.1 (by decide) rfl) (by omega) rfl (Nat.le_of_ble_eq_true rfl) ?_
        rw [bi_c (wn_257 (fun i _ => hT.2.1 i)), bi_t qa]
        refine V.if_eq 24 (pc := 8) dX12_readClause_8 (by decide) (fun h8 => absurd h8 (by decide)) (fun h8 => ?_)
        refine V.aload_n (pc := 11) dX12_readClause_11 rfl ?_
        refine V.getI (pc := 12) dX12_readClause_12 fX12_269_11 rfl hM.o ?_
        rw [e15]
        refine V.bipush (v := 12) (pc := 15) dX12_readClause_15 (by decide) ?_
        refine V.icmp_ge 24 (pc := 17) dX12_readClause_17 (by decide) (fun h17 => absurd (show nI 12 ≤ nI l.length from h17) (nI_ge h12 (by omega))) (fun h17 => ?_)
        refine V.iconst (v := 1) (pc := 20) dX12_readClause_20 (by decide) ?_
        refine V.goto 25 (pc := 21) dX12_readClause_21 (by decide) ?_
        refine V.invV0 (as := [_]) (pc := 25) dX12_readClause_25 lX12_184 bX12_must nX12_must (ci := 11) rfl eX12_must hM.o (c_mustY (d := d + 4) (N := N) (tt := tt) _ hM hT hr rfl (by decide)) (by omega) rfl (Nat.le_of_ble_eq_true rfl) ?_
        rintro _ _ _ I1 J1 _ ⟨rfl, rfl, rfl, rfl, f1, hr1⟩
        refine V.aload_n (pc := 28) dX12_readClause_28 rfl ?_
        refine V.getI (pc := 29) dX12_readClause_29 fX12_151_11 rfl hM.o ?_
        rw [show I1 m 14 = 0 from hr1.2.1]
        refine V.if_eq 36 (pc := 32) dX12_readClause_32 (by decide) (fun h32 => ?_) (fun h32 => absurd rfl h32)
        refine V.bipush (v := 8) (pc := 36) dX12_readClause_36 (by decide) ?_
        refine V.aload_n (pc := 38) dX12_readClause_38 rfl ?_
        refine V.getI (pc := 39) dX12_readClause_39 fX12_269_11 rfl hM.o ?_
        have e151 : I1 m 15 = nI l.length := by rw [f1.2.1 15 (by omega)]; exact e15
        rw [e151]
        refine V.imul (pc := 42) dX12_readClause_42 ?_
        rw [L8, pk_mul]
        refine V.isn (pc := 43) dX12_readClause_43 (by decide) (st1_1 rfl) ?_
        refine V.iconst (v := 0) (pc := 44) dX12_readClause_44 (by decide) ?_
        refine V.isn (pc := 45) dX12_readClause_45 (by decide) (st1_2 rfl) ?_
        refine V.iload_n (pc := 46) dX12_readClause_46 rfl ?_
        refine V.bipush (v := 8) (pc := 47) dX12_readClause_47 (by decide) ?_
        refine V.icmp_ge 67 (pc := 49) dX12_readClause_49 (by decide) (fun h49 => absurd h49 (by decide)) (fun h49 => ?_)
        refine V.aload_n (pc := 52) dX12_readClause_52 rfl ?_
        refine V.getR (pc := 53) dX12_readClause_53 fX12_30_11 rfl hM.o hM.f16 ?_
        refine V.iload_n (pc := 56) dX12_readClause_56 rfl ?_
        refine V.iload_n (pc := 57) dX12_readClause_57 rfl ?_
        refine V.iadd (pc := 58) dX12_readClause_58 ?_
        rw [show (0 : Int32) = nI 0 from rfl, nI_add]
        refine V.iconst (v := 0) (pc := 59) dX12_readClause_59 (by decide) ?_
        refine V.iast' (k := 8 * l.length + 0) (pc := 60) dX12_readClause_60 hM.t16 rfl (by omega) (by decide) ?_
        refine V.iinc (v := 1) (pc := 61) dX12_readClause_61 (by decide) rfl (by decide) (st1_2 rfl) ?_
        refine V.goto 46 (pc := 64) dX12_readClause_64 (by decide) ?_
        refine V.iload_n (pc := 46) dX12_readClause_46 rfl ?_
        refine V.bipush (v := 8) (pc := 47) dX12_readClause_47 (by decide) ?_
        refine V.icmp_ge 67 (pc := 49) dX12_readClause_49 (by decide) (fun h49 => absurd h49 (by decide)) (fun h49 => ?_)
        refine V.aload_n (pc := 52) dX12_readClause_52 rfl ?_
        refine V.getR (pc := 53) dX12_readClause_53 fX12_30_11 rfl hM.o hM.f16 ?_
        refine V.iload_n (pc := 56) dX12_readClause_56 rfl ?_
        refine V.iload_n (pc := 57) dX12_readClause_57 rfl ?_
        refine V.iadd (pc := 58) dX12_readClause_58 ?_
        rw [show (1 : Int32) = nI 1 from rfl, nI_add]
        refine V.iconst (v := 0) (pc := 59) dX12_readClause_59 (by decide) ?_
        refine V.iast' (k := 8 * l.length + 1) (pc := 60) dX12_readClause_60 hM.t16 rfl (by omega) (by decide) ?_
        refine V.iinc (v := 2) (pc := 61) dX12_readClause_61 (by decide) rfl (by decide) (st1_2 rfl) ?_
        refine V.goto 46 (pc := 64) dX12_readClause_64 (by decide) ?_
        refine V.iload_n (pc := 46) dX12_readClause_46 rfl ?_
        refine V.bipush (v := 8) (pc := 47) dX12_readClause_47 (by decide) ?_
        refine V.icmp_ge 67 (pc := 49) dX12_readClause_49 (by decide) (fun h49 => absurd h49 (by decide)) (fun h49 => ?_)
        refine V.aload_n (pc := 52) dX12_readClause_52 rfl ?_
        refine V.getR (pc := 53) dX12_readClause_53 fX12_30_11 rfl hM.o hM.f16 ?_
        refine V.iload_n (pc := 56) dX12_readClause_56 rfl ?_
        refine V.iload_n (pc := 57) dX12_readClause_57 rfl ?_
        refine V.iadd (pc := 58) dX12_readClause_58 ?_
        rw [show (2 : Int32) = nI 2 from rfl, nI_add]
        refine V.iconst (v := 0) (pc := 59) dX12_readClause_59 (by decide) ?_
        refine V.iast' (k := 8 * l.length + 2) (pc := 60) dX12_readClause_60 hM.t16 rfl (by omega) (by decide) ?_
        refine V.iinc (v := 3) (pc := 61) dX12_readClause_61 (by decide) rfl (by decide) (st1_2 rfl) ?_
        refine V.goto 46 (pc := 64) dX12_readClause_64 (by decide) ?_
        refine V.iload_n (pc := 46) dX12_readClause_46 rfl ?_
        refine V.bipush (v := 8) (pc := 47) dX12_readClause_47 (by decide) ?_
        refine V.icmp_ge 67 (pc := 49) dX12_readClause_49 (by decide) (fun h49 => absurd h49 (by decide)) (fun h49 => ?_)
        refine V.aload_n (pc := 52) dX12_readClause_52 rfl ?_
        refine V.getR (pc := 53) dX12_readClause_53 fX12_30_11 rfl hM.o hM.f16 ?_
        refine V.iload_n (pc := 56) dX12_readClause_56 rfl ?_
        refine V.iload_n (pc := 57) dX12_readClause_57 rfl ?_
        refine V.iadd (pc := 58) dX12_readClause_58 ?_
        rw [show (3 : Int32) = nI 3 from rfl, nI_add]
        refine V.iconst (v := 0) (pc := 59) dX12_readClause_59 (by decide) ?_
        refine V.iast' (k := 8 * l.length + 3) (pc := 60) dX12_readClause_60 hM.t16 rfl (by omega) (by decide) ?_
        refine V.iinc (v := 4) (pc := 61) dX12_readClause_61 (by decide) rfl (by decide) (st1_2 rfl) ?_
        refine V.goto 46 (pc := 64) dX12_readClause_64 (by decide) ?_
        refine V.iload_n (pc := 46) dX12_readClause_46 rfl ?_
        refine V.bipush (v := 8) (pc := 47) dX12_readClause_47 (by decide) ?_
        refine V.icmp_ge 67 (pc := 49) dX12_readClause_49 (by decide) (fun h49 => absurd h49 (by decide)) (fun h49 => ?_)
        refine V.aload_n (pc := 52) dX12_readClause_52 rfl ?_
        refine V.getR (pc := 53) dX12_readClause_53 fX12_30_11 rfl hM.o hM.f16 ?_
        refine V.iload_n (pc := 56) dX12_readClause_56 rfl ?_
        refine V.iload_n (pc := 57) dX12_readClause_57 rfl ?_
        refine V.iadd (pc := 58) dX12_readClause_58 ?_
        rw [show (4 : Int32) = nI 4 from rfl, nI_add]
        refine V.iconst (v := 0) (pc := 59) dX12_readClause_59 (by decide) ?_
        refine V.iast' (k := 8 * l.length + 4) (pc := 60) dX12_readClause_60 hM.t16 rfl (by omega) (by decide) ?_
        refine V.iinc (v := 5) (pc := 61) dX12_readClause_61 (by decide) rfl (by decide) (st1_2 rfl) ?_
        refine V.goto 46 (pc := 64) dX12_readClause_64 (by decide) ?_
        refine V.iload_n (pc := 46) dX12_readClause_46 rfl ?_
        refine V.bipush (v := 8) (pc := 47) dX12_readClause_47 (by decide) ?_
        refine V.icmp_ge 67 (pc := 49) dX12_readClause_49 (by decide) (fun h49 => absurd h49 (by decide)) (fun h49 => ?_)
        refine V.aload_n (pc := 52) dX12_readClause_52 rfl ?_
        refine V.getR (pc := 53) dX12_readClause_53 fX12_30_11 rfl hM.o hM.f16 ?_
        refine V.iload_n (pc := 56) dX12_readClause_56 rfl ?_
        refine V.iload_n (pc := 57) dX12_readClause_57 rfl ?_
        refine V.iadd (pc := 58) dX12_readClause_58 ?_
        rw [show (5 : Int32) = nI 5 from rfl, nI_add]
        refine V.iconst (v := 0) (pc := 59) dX12_readClause_59 (by decide) ?_
        refine V.iast' (k := 8 * l.length + 5) (pc := 60) dX12_readClause_60 hM.t16 rfl (by omega) (by decide) ?_
        refine V.iinc (v := 6) (pc := 61) dX12_readClause_61 (by decide) rfl (by decide) (st1_2 rfl) ?_
        refine V.goto 46 (pc := 64) dX12_readClause_64 (by decide) ?_
        refine V.iload_n (pc := 46) dX12_readClause_46 rfl ?_
        refine V.bipush (v := 8) (pc := 47) dX12_readClause_47 (by decide) ?_
        refine V.icmp_ge 67 (pc := 49) dX12_readClause_49 (by decide) (fun h49 => absurd h49 (by decide)) (fun h49 => ?_)
        refine V.aload_n (pc := 52) dX12_readClause_52 rfl ?_
        refine V.getR (pc := 53) dX12_readClause_53 fX12_30_11 rfl hM.o hM.f16 ?_
        refine V.iload_n (pc := 56) dX12_readClause_56 rfl ?_
        refine V.iload_n (pc := 57) dX12_readClause_57 rfl ?_
        refine V.iadd (pc := 58) dX12_readClause_58 ?_
        rw [show (6 : Int32) = nI 6 from rfl, nI_add]
        refine V.iconst (v := 0) (pc := 59) dX12_readClause_59 (by decide) ?_
        refine V.iast' (k := 8 * l.length + 6) (pc := 60) dX12_readClause_60 hM.t16 rfl (by omega) (by decide) ?_
        refine V.iinc (v := 7) (pc := 61) dX12_readClause_61 (by decide) rfl (by decide) (st1_2 rfl) ?_
        refine V.goto 46 (pc := 64) dX12_readClause_64 (by decide) ?_
        refine V.iload_n (pc := 46) dX12_readClause_46 rfl ?_
        refine V.bipush (v := 8) (pc := 47) dX12_readClause_47 (by decide) ?_
        refine V.icmp_ge 67 (pc := 49) dX12_readClause_49 (by decide) (fun h49 => absurd h49 (by decide)) (fun h49 => ?_)
        refine V.aload_n (pc := 52) dX12_readClause_52 rfl ?_
        refine V.getR (pc := 53) dX12_readClause_53 fX12_30_11 rfl hM.o hM.f16 ?_
        refine V.iload_n (pc := 56) dX12_readClause_56 rfl ?_
        refine V.iload_n (pc := 57) dX12_readClause_57 rfl ?_
        refine V.iadd (pc := 58) dX12_readClause_58 ?_
        rw [show (7 : Int32) = nI 7 from rfl, nI_add]
        refine V.iconst (v := 0) (pc := 59) dX12_readClause_59 (by decide) ?_
        refine V.iast' (k := 8 * l.length + 7) (pc := 60) dX12_readClause_60 hM.t16 rfl (by omega) (by decide) ?_
        refine V.iinc (v := 8) (pc := 61) dX12_readClause_61 (by decide) rfl (by decide) (st1_2 rfl) ?_
        refine V.goto 46 (pc := 64) dX12_readClause_64 (by decide) ?_
        refine V.iload_n (pc := 46) dX12_readClause_46 rfl ?_
        refine V.bipush (v := 8) (pc := 47) dX12_readClause_47 (by decide) ?_
        refine V.icmp_ge 67 (pc := 49) dX12_readClause_49 (by decide) (fun h49 => ?_) (fun h49 => absurd (by decide) h49)
        generalize hZ : (up2 _ (m + 6) (8 * l.length + 7) 0 : mI) = IZ
        have z1 : ∀ b, b ≠ m + 6 → IZ b = I1 b := fun b hb => by rw [← hZ, up2_off hb, up2_off hb, up2_off hb, up2_off hb, up2_off hb, up2_off hb, up2_off hb, up2_off hb]
        have z2 : ∀ k, k < 8 * l.length → IZ (m + 6) k = I1 (m + 6) k := fun k hk => by rw [← hZ, up2_ne (by omega), up2_ne (by omega), up2_ne (by omega), up2_ne (by omega), up2_ne (by omega), up2_ne (by omega), up2_ne (by omega), up2_ne (by omega)]
        clear hZ
        have zl : ∀ k, k < 8 * l.length → IZ (m + 6) k = I (m + 6) k := fun k hk => by rw [z2 k hk, f1.1 (m + 6) (by omega) (by omega)]
        have z15 : IZ m 15 = nI l.length := by rw [z1 m (by omega)]; exact e151
        have zr : RdM tt N (i + 1, false, C, v, P, oo) IZ J1 m := hr1.keep (fun k _ => by rw [z1 m (by omega)]) (fun b _ _ => z1 b (by omega))
        have zf : PrG m I J IZ J1 := ⟨fun b h1 h2 => by rw [z1 b (by omega)]; exact f1.g.1 b h1 h2, fun k hk => by rw [z1 m (by omega)]; exact f1.g.2.1 k hk, f1.2.2⟩
        refine V.aload_n (pc := 67) dX12_readClause_67 rfl ?_
        refine V.dup (pc := 68) dX12_readClause_68 rfl ?_
        refine V.getI (pc := 69) dX12_readClause_69 fX12_269_11 rfl hM.o ?_
        rw [z15]
        refine V.iconst (v := 1) (pc := 72) dX12_readClause_72 (by decide) ?_
        refine V.iadd (pc := 73) dX12_readClause_73 ?_
        rw [nI_1]
        refine V.putI (pc := 74) dX12_readClause_74 fX12_269_11 (fun r h => by cases h; exact Or.inl rfl) rfl hM.o ?_
        refine V.aload_n (pc := 77) dX12_readClause_77 rfl ?_
        refine V.getR (pc := 78) dX12_readClause_78 fX12_30_11 rfl hM.o hM.f16 ?_
        refine V.iload_n (pc := 81) dX12_readClause_81 rfl ?_
        refine V.iconst (v := 3) (pc := 82) dX12_readClause_82 (by decide) ?_
        refine V.iadd (pc := 83) dX12_readClause_83 ?_
        rw [show (3 : Int32) = nI 3 from rfl, nI_add]
        refine V.aload_n (pc := 84) dX12_readClause_84 rfl ?_
        refine V.getI (pc := 85) dX12_readClause_85 fX12_188_11 rfl hM.o ?_
        rw [up2_ne (by omega), show IZ m 17 = nI C.1 from zr.2.2.2.1.1]
        refine V.iast' (k := 8 * l.length + 3) (pc := 88) dX12_readClause_88 hM.t16 rfl (by omega) (by decide) ?_
        have zf2 : PrG m I J (up2 (up2 IZ m 15 (nI (l.length + 1))) (m + 6) (8 * l.length + 3) (nI C.1)) J1 := (zf.up (by omega)).up (by omega)
        have zr2 : RdM tt N (i + 1, false, C, v, P, oo) (up2 (up2 IZ m 15 (nI (l.length + 1))) (m + 6) (8 * l.length + 3) (nI C.1)) J1 m := zr.keep (fun k hk => by rw [up2_ne (by omega), up2_ne (by omega)]) (fun b _ _ => by rw [up2_off (by omega), up2_off (by omega)])
        have hok1 : RdK (tkN tt N) (i + 1, false, C, v, P, oo) := ⟨hi1, Nat.le_succ_of_le hok.2.1, hok.2.2⟩
        refine V.aload_n (pc := 89) dX12_readClause_89 rfl ?_
        refine V.iconst (v := 0) (pc := 90) dX12_readClause_90 (by decide) ?_
        refine V.invV0 (as := [_]) (pc := 91) dX12_readClause_91 lX12_272 bX12_readExpression nX12_readExpression (ci := 11) rfl eX12_readExpression hM.o (c_exprS (d := d + 0) (N := N) (tt := tt) (r := (i + 1, false, C, v, P, oo)) hM (zf2.tp hT) zr2 (zf2.wd hW) hok1 rfl g3 (Or.inl rfl)) (by omega) rfl (Nat.le_of_ble_eq_true rfl) ?_
        rintro _ _ _ I2 J2 _ ⟨rfl, rfl, rfl, rfl, f2, hr2, ho2⟩
        refine V.aload_n (pc := 94) dX12_readClause_94 rfl ?_
        refine V.getR (pc := 95) dX12_readClause_95 fX12_30_11 rfl hM.o hM.f16 ?_
        refine V.iload_n (pc := 98) dX12_readClause_98 rfl ?_
        refine V.iconst (v := 4) (pc := 99) dX12_readClause_99 (by decide) ?_
        refine V.iadd (pc := 100) dX12_readClause_100 ?_
        rw [show (4 : Int32) = nI 4 from rfl, nI_add]
        refine V.aload_n (pc := 101) dX12_readClause_101 rfl ?_
        refine V.getI (pc := 102) dX12_readClause_102 fX12_188_11 rfl hM.o ?_
        rw [show I2 m 17 = _ from hr2.2.2.2.1.1]
        refine V.iast' (k := 8 * l.length + 4) (pc := 105) dX12_readClause_105 hM.t16 rfl (by omega) (by decide) ?_
        refine V.aload_n (pc := 106) dX12_readClause_106 rfl ?_
        refine V.getR (pc := 107) dX12_readClause_107 fX12_30_11 rfl hM.o hM.f16 ?_
        refine V.iload_n (pc := 110) dX12_readClause_110 rfl ?_
        refine V.iconst (v := 5) (pc := 111) dX12_readClause_111 (by decide) ?_
        refine V.iadd (pc := 112) dX12_readClause_112 ?_
        rw [show (5 : Int32) = nI 5 from rfl, nI_add]
        refine V.aload_n (pc := 113) dX12_readClause_113 rfl ?_
        refine V.getI (pc := 114) dX12_readClause_114 fX12_188_11 rfl hM.o ?_
        rw [up2_off (by omega), show I2 m 17 = _ from hr2.2.2.2.1.1]
        refine V.iast' (k := 8 * l.length + 5) (pc := 117) dX12_readClause_117 hM.t16 rfl (by omega) (by decide) ?_
        refine V.aload_n (pc := 118) dX12_readClause_118 rfl ?_
        refine V.getI (pc := 119) dX12_readClause_119 fX12_151_11 rfl hM.o ?_
        rw [up2_off (by omega), up2_off (by omega), show I2 m 14 = 1 from hr2.2.1]
        refine V.if_ne 144 (pc := 122) dX12_readClause_122 (by decide) (fun h122 => ?_) (fun h122 => absurd h122 (by decide))
        refine V.aload_n (pc := 144) dX12_readClause_144 rfl ?_
        refine V.getR (pc := 145) dX12_readClause_145 fX12_30_11 rfl hM.o hM.f16 ?_
        refine V.iload_n (pc := 148) dX12_readClause_148 rfl ?_
        refine V.bipush (v := 6) (pc := 149) dX12_readClause_149 (by decide) ?_
        refine V.iadd (pc := 151) dX12_readClause_151 ?_
        rw [show (6 : Int32) = nI 6 from rfl, nI_add]
        refine V.aload_n (pc := 152) dX12_readClause_152 rfl ?_
        refine V.getI (pc := 153) dX12_readClause_153 fX12_188_11 rfl hM.o ?_
        rw [up2_off (by omega), up2_off (by omega), show I2 m 17 = _ from hr2.2.2.2.1.1]
        refine V.iast' (k := 8 * l.length + 6) (pc := 156) dX12_readClause_156 hM.t16 rfl (by omega) (by decide) ?_
        exact V.vret (pc := 157) dX12_readClause_157 rfl ⟨rfl, rfl, rfl, rfl, (((zf2.tr f2.g).up (by omega)).up (by omega)).up (by omega), fun j q cl e => (by rw [eD] at e; cases e), fun j q e => (by rw [eD] at e; cases e; exact ⟨_, _, _, _, hr2.keep (fun k hk => by rw [up2_off (by omega), up2_off (by omega), up2_off (by omega)]) (fun b _ _ => by rw [up2_off (by omega), up2_off (by omega), up2_off (by omega)])⟩)⟩
      | some w =>
        obtain ⟨C1, C2, X, g1, g2, g3, g4, g5, g6⟩ := hy j0 q0 w hp
        by_cases q258 : kdT tt N j0 = 258
        · have hj1 : j0 + 1 ≤ tkN tt N := nxt hE g2 (by rw [q258]; decide)
          have hET := exprT (nm := nmT tt N) (lv := q0) (C := C2) hE h305 hj1
          obtain ⟨hy2, hn2⟩ := hET
          cases hp2 : testAt (kdT tt N) (nmT tt N) 8 (j0 + 1) q0 with
          | mk j1 r1 =>
            obtain ⟨q1, w1⟩ := r1
            cases w1 with
            | none =>
              obtain ⟨t5, C5_, q5, P5, o5, k1, k2, k3⟩ := hn2 j1 q1 hp2
              have eD : dClause (kdT tt N) (nmT tt N) i v = (j1, q1, none) := by rw [dClause, if_pos qa, hp]; simp only []; rw [if_pos q258, hp2]
              refine V.aload_n (pc := 0) dX12_readClause_0 rfl ?_
              refine V.aload_n (pc := 1) dX12_readClause_1 rfl ?_
              refine V.ldc2 (pc := 2) dX12_readClause_2 qX12_267 ?_
              refine V.pV (as := [_]) (pc := 5) dX12_readClause_5 lX12_209 bX12_isWord nX12_isWord (ci := 11) rfl eX12_isWord hM.o (c_isWord (d := d + 6) (N := N) (i := i) (tt := tt) (w := 20201203) _ hM hr.1 hT.2.1 (by decide) rfl) (by omega) rfl (Nat.le_of_ble_eq_true rfl) ?_
              rw [bi_c (wn_257 (fun i _ => hT.2.1 i)), bi_t qa]
              refine V.if_eq 24 (pc := 8) dX12_readClause_8 (by decide) (fun h8 => absurd h8 (by decide)) (fun h8 => ?_)
              refine V.aload_n (pc := 11) dX12_readClause_11 rfl ?_
              refine V.getI (pc := 12) dX12_readClause_12 fX12_269_11 rfl hM.o ?_
              rw [e15]
              refine V.bipush (v := 12) (pc := 15) dX12_readClause_15 (by decide) ?_
              refine V.icmp_ge 24 (pc := 17) dX12_readClause_17 (by decide) (fun h17 => absurd (show nI 12 ≤ nI l.length from h17) (nI_ge h12 (by omega))) (fun h17 => ?_)
              refine V.iconst (v := 1) (pc := 20) dX12_readClause_20 (by decide) ?_
              refine V.goto 25 (pc := 21) dX12_readClause_21 (by decide) ?_
              refine V.invV0 (as := [_]) (pc := 25) dX12_readClause_25 lX12_184 bX12_must nX12_must (ci := 11) rfl eX12_must hM.o (c_mustY (d := d + 4) (N := N) (tt := tt) _ hM hT hr rfl (by decide)) (by omega) rfl (Nat.le_of_ble_eq_true rfl) ?_
              rintro _ _ _ I1 J1 _ ⟨rfl, rfl, rfl, rfl, f1, hr1⟩
              refine V.aload_n (pc := 28) dX12_readClause_28 rfl ?_
              refine V.getI (pc := 29) dX12_readClause_29 fX12_151_11 rfl hM.o ?_
              rw [show I1 m 14 = 0 from hr1.2.1]
              refine V.if_eq 36 (pc := 32) dX12_readClause_32 (by decide) (fun h32 => ?_) (fun h32 => absurd rfl h32)
              refine V.bipush (v := 8) (pc := 36) dX12_readClause_36 (by decide) ?_
              refine V.aload_n (pc := 38) dX12_readClause_38 rfl ?_
              refine V.getI (pc := 39) dX12_readClause_39 fX12_269_11 rfl hM.o ?_
              have e151 : I1 m 15 = nI l.length := by rw [f1.2.1 15 (by omega)]; exact e15
              rw [e151]
              refine V.imul (pc := 42) dX12_readClause_42 ?_
              rw [L8, pk_mul]
              refine V.isn (pc := 43) dX12_readClause_43 (by decide) (st1_1 rfl) ?_
              refine V.iconst (v := 0) (pc := 44) dX12_readClause_44 (by decide) ?_
              refine V.isn (pc := 45) dX12_readClause_45 (by decide) (st1_2 rfl) ?_
              refine V.iload_n (pc := 46) dX12_readClause_46 rfl ?_
              refine V.bipush (v := 8) (pc := 47) dX12_readClause_47 (by decide) ?_
              refine V.icmp_ge 67 (pc := 49) dX12_readClause_49 (by decide) (fun h49 => absurd h49 (by decide)) (fun h49 => ?_)
              refine V.aload_n (pc := 52) dX12_readClause_52 rfl ?_
              refine V.getR (pc := 53) dX12_readClause_53 fX12_30_11 rfl hM.o hM.f16 ?_
              refine V.iload_n (pc := 56) dX12_readClause_56 rfl ?_
              refine V.iload_n (pc := 57) dX12_readClause_57 rfl ?_
              refine V.iadd (pc := 58) dX12_readClause_58 ?_
              rw [show (0 : Int32) = nI 0 from rfl, nI_add]
              refine V.iconst (v := 0) (pc := 59) dX12_readClause_59 (by decide) ?_
              refine V.iast' (k := 8 * l.length + 0) (pc := 60) dX12_readClause_60 hM.t16 rfl (by omega) (by decide) ?_
              refine V.iinc (v := 1) (pc := 61) dX12_readClause_61 (by decide) rfl (by decide) (st1_2 rfl) ?_
              refine V.goto 46 (pc := 64) dX12_readClause_64 (by decide) ?_
              refine V.iload_n (pc := 46) dX12_readClause_46 rfl ?_
              refine V.bipush (v := 8) (pc := 47) dX12_readClause_47 (by decide) ?_
              refine V.icmp_ge 67 (pc := 49) dX12_readClause_49 (by decide) (fun h49 => absurd h49 (by decide)) (fun h49 => ?_)
              refine V.aload_n (pc := 52) dX12_readClause_52 rfl ?_
              refine V.getR (pc := 53) dX12_readClause_53 fX12_30_11 rfl hM.o hM.f16 ?_
              refine V.iload_n (pc := 56) dX12_readClause_56 rfl ?_
              refine V.iload_n (pc := 57) dX12_readClause_57 rfl ?_
              refine V.iadd (pc := 58) dX12_readClause_58 ?_
              rw [show (1 : Int32) = nI 1 from rfl, nI_add]
              refine V.iconst (v := 0) (pc := 59) dX12_readClause_59 (by decide) ?_
              refine V.iast' (k := 8 * l.length + 1) (pc := 60) dX12_readClause_60 hM.t16 rfl (by omega) (by decide) ?_
              refine V.iinc (v := 2) (pc := 61) dX12_readClause_61 (by decide) rfl (by decide) (st1_2 rfl) ?_
              refine V.goto 46 (pc := 64) dX12_readClause_64 (by decide) ?_
              refine V.iload_n (pc := 46) dX12_readClause_46 rfl ?_
              refine V.bipush (v := 8) (pc := 47) dX12_readClause_47 (by decide) ?_
              refine V.icmp_ge 67 (pc := 49) dX12_readClause_49 (by decide) (fun h49 => absurd h49 (by decide)) (fun h49 => ?_)
              refine V.aload_n (pc := 52) dX12_readClause_52 rfl ?_
              refine V.getR (pc := 53) dX12_readClause_53 fX12_30_11 rfl hM.o hM.f16 ?_
              refine V.iload_n (pc := 56) dX12_readClause_56 rfl ?_
              refine V.iload_n (pc := 57) dX12_readClause_57 rfl ?_
              refine V.iadd (pc := 58) dX12_readClause_58 ?_
              rw [show (2 : Int32) = nI 2 from rfl, nI_add]
              refine V.iconst (v := 0) (pc := 59) dX12_readClause_59 (by decide) ?_
              refine V.iast' (k := 8 * l.length + 2) (pc := 60) dX12_readClause_60 hM.t16 rfl (by omega) (by decide) ?_
              refine V.iinc (v := 3) (pc := 61) dX12_readClause_61 (by decide) rfl (by decide) (st1_2 rfl) ?_
              refine V.goto 46 (pc := 64) dX12_readClause_64 (by decide) ?_
              refine V.iload_n (pc := 46) dX12_readClause_46 rfl ?_
              refine V.bipush (v := 8) (pc := 47) dX12_readClause_47 (by decide) ?_
              refine V.icmp_ge 67 (pc := 49) dX12_readClause_49 (by decide) (fun h49 => absurd h49 (by decide)) (fun h49 => ?_)
              refine V.aload_n (pc := 52) dX12_readClause_52 rfl ?_
              refine V.getR (pc := 53) dX12_readClause_53 fX12_30_11 rfl hM.o hM.f16 ?_
              refine V.iload_n (pc := 56) dX12_readClause_56 rfl ?_
              refine V.iload_n (pc := 57) dX12_readClause_57 rfl ?_
              refine V.iadd (pc := 58) dX12_readClause_58 ?_
              rw [show (3 : Int32) = nI 3 from rfl, nI_add]
              refine V.iconst (v := 0) (pc := 59) dX12_readClause_59 (by decide) ?_
              refine V.iast' (k := 8 * l.length + 3) (pc := 60) dX12_readClause_60 hM.t16 rfl (by omega) (by decide) ?_
              refine V.iinc (v := 4) (pc := 61) dX12_readClause_61 (by decide) rfl (by decide) (st1_2 rfl) ?_
              refine V.goto 46 (pc := 64) dX12_readClause_64 (by decide) ?_
              refine V.iload_n (pc := 46) dX12_readClause_46 rfl ?_
              refine V.bipush (v := 8) (pc := 47) dX12_readClause_47 (by decide) ?_
              refine V.icmp_ge 67 (pc := 49) dX12_readClause_49 (by decide) (fun h49 => absurd h49 (by decide)) (fun h49 => ?_)
              refine V.aload_n (pc := 52) dX12_readClause_52 rfl ?_
              refine V.getR (pc := 53) dX12_readClause_53 fX12_30_11 rfl hM.o hM.f16 ?_
              refine V.iload_n (pc := 56) dX12_readClause_56 rfl ?_
              refine V.iload_n (pc := 57) dX12_readClause_57 rfl ?_
              refine V.iadd (pc := 58) dX12_readClause_58 ?_
              rw [show (4 : Int32) = nI 4 from rfl, nI_add]
              refine V.iconst (v := 0) (pc := 59) dX12_readClause_59 (by decide) ?_
              refine V.iast' (k := 8 * l.length + 4) (pc := 60) dX12_readClause_60 hM.t16 rfl (by omega) (by decide) ?_
              refine V.iinc (v := 5) (pc := 61) dX12_readClause_61 (by decide) rfl (by decide) (st1_2 rfl) ?_
              refine V.goto 46 (pc := 64) dX12_readClause_64 (by decide) ?_
              refine V.iload_n (pc := 46) dX12_readClause_46 rfl ?_
              refine V.bipush (v := 8) (pc := 47) dX12_readClause_47 (by decide) ?_
              refine V.icmp_ge 67 (pc := 49) dX12_readClause_49 (by decide) (fun h49 => absurd h49 (by decide)) (fun h49 => ?_)
              refine V.aload_n (pc := 52) dX12_readClause_52 rfl ?_
              refine V.getR (pc := 53) dX12_readClause_53 fX12_30_11 rfl hM.o hM.f16 ?_
              refine V.iload_n (pc := 56) dX12_readClause_56 rfl ?_
              refine V.iload_n (pc := 57) dX12_readClause_57 rfl ?_
              refine V.iadd (pc := 58) dX12_readClause_58 ?_
              rw [show (5 : Int32) = nI 5 from rfl, nI_add]
              refine V.iconst (v := 0) (pc := 59) dX12_readClause_59 (by decide) ?_
              refine V.iast' (k := 8 * l.length + 5) (pc := 60) dX12_readClause_60 hM.t16 rfl (by omega) (by decide) ?_
              refine V.iinc (v := 6) (pc := 61) dX12_readClause_61 (by decide) rfl (by decide) (st1_2 rfl) ?_
              refine V.goto 46 (pc := 64) dX12_readClause_64 (by decide) ?_
              refine V.iload_n (pc := 46) dX12_readClause_46 rfl ?_
              refine V.bipush (v := 8) (pc := 47) dX12_readClause_47 (by decide) ?_
              refine V.icmp_ge 67 (pc := 49) dX12_readClause_49 (by decide) (fun h49 => absurd h49 (by decide)) (fun h49 => ?_)
              refine V.aload_n (pc := 52) dX12_readClause_52 rfl ?_
              refine V.getR (pc := 53) dX12_readClause_53 fX12_30_11 rfl hM.o hM.f16 ?_
              refine V.iload_n (pc := 56) dX12_readClause_56 rfl ?_
              refine V.iload_n (pc := 57) dX12_readClause_57 rfl ?_
              refine V.iadd (pc := 58) dX12_readClause_58 ?_
              rw [show (6 : Int32) = nI 6 from rfl, nI_add]
              refine V.iconst (v := 0) (pc := 59) dX12_readClause_59 (by decide) ?_
              refine V.iast' (k := 8 * l.length + 6) (pc := 60) dX12_readClause_60 hM.t16 rfl (by omega) (by decide) ?_
              refine V.iinc (v := 7) (pc := 61) dX12_readClause_61 (by decide) rfl (by decide) (st1_2 rfl) ?_
              refine V.goto 46 (pc := 64) dX12_readClause_64 (by decide) ?_
              refine V.iload_n (pc := 46) dX12_readClause_46 rfl ?_
              refine V.bipush (v := 8) (pc := 47) dX12_readClause_47 (by decide) ?_
              refine V.icmp_ge 67 (pc := 49) dX12_readClause_49 (by decide) (fun h49 => absurd h49 (by decide)) (fun h49 => ?_)
              refine V.aload_n (pc := 52) dX12_readClause_52 rfl ?_
              refine V.getR (pc := 53) dX12_readClause_53 fX12_30_11 rfl hM.o hM.f16 ?_
              refine V.iload_n (pc := 56) dX12_readClause_56 rfl ?_
              refine V.iload_n (pc := 57) dX12_readClause_57 rfl ?_
              refine V.iadd (pc := 58) dX12_readClause_58 ?_
              rw [show (7 : Int32) = nI 7 from rfl, nI_add]
              refine V.iconst (v := 0) (pc := 59) dX12_readClause_59 (by decide) ?_
              refine V.iast' (k := 8 * l.length + 7) (pc := 60) dX12_readClause_60 hM.t16 rfl (by omega) (by decide) ?_
              refine V.iinc (v := 8) (pc := 61) dX12_readClause_61 (by decide) rfl (by decide) (st1_2 rfl) ?_
              refine V.goto 46 (pc := 64) dX12_readClause_64 (by decide) ?_
              refine V.iload_n (pc := 46) dX12_readClause_46 rfl ?_
              refine V.bipush (v := 8) (pc := 47) dX12_readClause_47 (by decide) ?_
              refine V.icmp_ge 67 (pc := 49) dX12_readClause_49 (by decide) (fun h49 => ?_) (fun h49 => absurd (by decide) h49)
              generalize hZ : (up2 _ (m + 6) (8 * l.length + 7) 0 : mI) = IZ
              have z1 : ∀ b, b ≠ m + 6 → IZ b = I1 b := fun b hb => by rw [← hZ, up2_off hb, up2_off hb, up2_off hb, up2_off hb, up2_off hb, up2_off hb, up2_off hb, up2_off hb]
              have z2 : ∀ k, k < 8 * l.length → IZ (m + 6) k = I1 (m + 6) k := fun k hk => by rw [← hZ, up2_ne (by omega), up2_ne (by omega), up2_ne (by omega), up2_ne (by omega), up2_ne (by omega), up2_ne (by omega), up2_ne (by omega), up2_ne (by omega)]
              clear hZ
              have zl : ∀ k, k < 8 * l.length → IZ (m + 6) k = I (m + 6) k := fun k hk => by rw [z2 k hk, f1.1 (m + 6) (by omega) (by omega)]
              have z15 : IZ m 15 = nI l.length := by rw [z1 m (by omega)]; exact e151
              have zr : RdM tt N (i + 1, false, C, v, P, oo) IZ J1 m := hr1.keep (fun k _ => by rw [z1 m (by omega)]) (fun b _ _ => z1 b (by omega))
              have zf : PrG m I J IZ J1 := ⟨fun b h1 h2 => by rw [z1 b (by omega)]; exact f1.g.1 b h1 h2, fun k hk => by rw [z1 m (by omega)]; exact f1.g.2.1 k hk, f1.2.2⟩
              refine V.aload_n (pc := 67) dX12_readClause_67 rfl ?_
              refine V.dup (pc := 68) dX12_readClause_68 rfl ?_
              refine V.getI (pc := 69) dX12_readClause_69 fX12_269_11 rfl hM.o ?_
              rw [z15]
              refine V.iconst (v := 1) (pc := 72) dX12_readClause_72 (by decide) ?_
              refine V.iadd (pc := 73) dX12_readClause_73 ?_
              rw [nI_1]
              refine V.putI (pc := 74) dX12_readClause_74 fX12_269_11 (fun r h => by cases h; exact Or.inl rfl) rfl hM.o ?_
              refine V.aload_n (pc := 77) dX12_readClause_77 rfl ?_
              refine V.getR (pc := 78) dX12_readClause_78 fX12_30_11 rfl hM.o hM.f16 ?_
              refine V.iload_n (pc := 81) dX12_readClause_81 rfl ?_
              refine V.iconst (v := 3) (pc := 82) dX12_readClause_82 (by decide) ?_
              refine V.iadd (pc := 83) dX12_readClause_83 ?_
              rw [show (3 : Int32) = nI 3 from rfl, nI_add]
              refine V.aload_n (pc := 84) dX12_readClause_84 rfl ?_
              refine V.getI (pc := 85) dX12_readClause_85 fX12_188_11 rfl hM.o ?_
              rw [up2_ne (by omega), show IZ m 17 = nI C.1 from zr.2.2.2.1.1]
              refine V.iast' (k := 8 * l.length + 3) (pc := 88) dX12_readClause_88 hM.t16 rfl (by omega) (by decide) ?_
              have zf2 : PrG m I J (up2 (up2 IZ m 15 (nI (l.length + 1))) (m + 6) (8 * l.length + 3) (nI C.1)) J1 := (zf.up (by omega)).up (by omega)
              have zr2 : RdM tt N (i + 1, false, C, v, P, oo) (up2 (up2 IZ m 15 (nI (l.length + 1))) (m + 6) (8 * l.length + 3) (nI C.1)) J1 m := zr.keep (fun k hk => by rw [up2_ne (by omega), up2_ne (by omega)]) (fun b _ _ => by rw [up2_off (by omega), up2_off (by omega)])
              have hok1 : RdK (tkN tt N) (i + 1, false, C, v, P, oo) := ⟨hi1, Nat.le_succ_of_le hok.2.1, hok.2.2⟩
              refine V.aload_n (pc := 89) dX12_readClause_89 rfl ?_
              refine V.iconst (v := 0) (pc := 90) dX12_readClause_90 (by decide) ?_
              refine V.invV0 (as := [_]) (pc := 91) dX12_readClause_91 lX12_272 bX12_readExpression nX12_readExpression (ci := 11) rfl eX12_readExpression hM.o (c_exprS (d := d + 0) (N := N) (tt := tt) (r := (i + 1, false, C, v, P, oo)) hM (zf2.tp hT) zr2 (zf2.wd hW) hok1 rfl g3 (Or.inr rfl)) (by omega) rfl (Nat.le_of_ble_eq_true rfl) ?_
              rintro _ _ _ I2 J2 _ ⟨rfl, rfl, rfl, rfl, f2, hr2, ho2⟩
              simp only [r_i, r_b, r_C, r_v, r_P, r_o] at hr2 ho2
              rw [g4] at hr2 ho2
              have y15 : I2 m 15 = nI (l.length + 1) := by rw [f2.2.1 15 (by omega), up2_ne (by omega), up2_same]
              have y6 : I2 (m + 6) = up2 (up2 IZ m 15 (nI (l.length + 1))) (m + 6) (8 * l.length + 3) (nI C.1) (m + 6) := f2.1 (m + 6) (by omega) (by omega)
              have y3 : I2 (m + 6) (8 * l.length + 3) = nI C.1 := by rw [y6, up2_same]
              have yl : ∀ k, k < 8 * l.length → I2 (m + 6) k = I (m + 6) k := fun k hk => by rw [y6, up2_ne (by omega), up2_off (by omega)]; exact zl k hk
              refine V.aload_n (pc := 94) dX12_readClause_94 rfl ?_
              refine V.getR (pc := 95) dX12_readClause_95 fX12_30_11 rfl hM.o hM.f16 ?_
              refine V.iload_n (pc := 98) dX12_readClause_98 rfl ?_
              refine V.iconst (v := 4) (pc := 99) dX12_readClause_99 (by decide) ?_
              refine V.iadd (pc := 100) dX12_readClause_100 ?_
              rw [show (4 : Int32) = nI 4 from rfl, nI_add]
              refine V.aload_n (pc := 101) dX12_readClause_101 rfl ?_
              refine V.getI (pc := 102) dX12_readClause_102 fX12_188_11 rfl hM.o ?_
              rw [show I2 m 17 = _ from hr2.2.2.2.1.1]
              refine V.iast' (k := 8 * l.length + 4) (pc := 105) dX12_readClause_105 hM.t16 rfl (by omega) (by decide) ?_
              refine V.aload_n (pc := 106) dX12_readClause_106 rfl ?_
              refine V.getR (pc := 107) dX12_readClause_107 fX12_30_11 rfl hM.o hM.f16 ?_
              refine V.iload_n (pc := 110) dX12_readClause_110 rfl ?_
              refine V.iconst (v := 5) (pc := 111) dX12_readClause_111 (by decide) ?_
              refine V.iadd (pc := 112) dX12_readClause_112 ?_
              rw [show (5 : Int32) = nI 5 from rfl, nI_add]
              refine V.aload_n (pc := 113) dX12_readClause_113 rfl ?_
              refine V.getI (pc := 114) dX12_readClause_114 fX12_188_11 rfl hM.o ?_
              rw [up2_off (by omega), show I2 m 17 = _ from hr2.2.2.2.1.1]
              refine V.iast' (k := 8 * l.length + 5) (pc := 117) dX12_readClause_117 hM.t16 rfl (by omega) (by decide) ?_
              refine V.aload_n (pc := 118) dX12_readClause_118 rfl ?_
              refine V.getI (pc := 119) dX12_readClause_119 fX12_151_11 rfl hM.o ?_
              rw [up2_off (by omega), up2_off (by omega), show I2 m 14 = 0 from hr2.2.1]
              refine V.if_ne 144 (pc := 122) dX12_readClause_122 (by decide) (fun h122 => absurd rfl h122) (fun h122 => ?_)
              refine V.aload_n (pc := 125) dX12_readClause_125 rfl ?_
              refine V.ldc2 (pc := 126) dX12_readClause_126 qX12_275 ?_
              refine V.pV (as := [_]) (pc := 129) dX12_readClause_129 lX12_209 bX12_isWord nX12_isWord (ci := 11) rfl eX12_isWord hM.o (c_isWord (d := d + 6) (N := N) (i := j0) (tt := tt) (w := 294) _ hM (hr2.keep (fun k hk => by rw [up2_off (by omega), up2_off (by omega)]) (fun b _ _ => by rw [up2_off (by omega), up2_off (by omega)])).1 hT.2.1 (by decide) rfl) (by omega) rfl (Nat.le_of_ble_eq_true rfl) ?_
              rw [bi_c (wn_258 (fun i _ => hT.2.1 i)), bi_t q258]
              refine V.if_eq 144 (pc := 132) dX12_readClause_132 (by decide) (fun h132 => absurd h132 (by decide)) (fun h132 => ?_)
              refine V.aload_n (pc := 135) dX12_readClause_135 rfl ?_
              refine V.invV0 (as := []) (pc := 136) dX12_readClause_136 lX12_155 bX12_next nX12_next (ci := 11) rfl eX12_next hM.o (c_next (d := d + 5) (N := N) (tt := tt) (i := j0 + 1) hM ((((zf2.tr f2.g).up (by omega)).up (by omega)).tp hT) (hr2.keep (fun k hk => by rw [up2_off (by omega), up2_off (by omega)]) (fun b _ _ => by rw [up2_off (by omega), up2_off (by omega)])).1.2.1) (by omega) rfl (Nat.le_of_ble_eq_true rfl) ?_
              rintro _ _ _ I4 J4 _ ⟨rfl, rfl, rfl, rfl, f4, k4⟩
              have zf4 : PrG m I J I4 J4 := (((zf2.tr f2.g).up (by omega)).up (by omega)).tr f4.pr.g
              have zr4 : RdM tt N (j0 + 1, false, C2, q0, [], 0) I4 J4 m := RdM.nx (hr2.keep (fun k hk => by rw [up2_off (by omega), up2_off (by omega)]) (fun b _ _ => by rw [up2_off (by omega), up2_off (by omega)])) rfl f4 k4
              have hok4 : RdK (tkN tt N) (j0 + 1, false, C2, q0, [], 0) := ⟨hj1, Nat.le_succ_of_le ho2.k.2.1, ho2.k.2.2⟩
              refine V.aload_n (pc := 139) dX12_readClause_139 rfl ?_
              refine V.iconst (v := 1) (pc := 140) dX12_readClause_140 (by decide) ?_
              refine V.invV0 (as := [_]) (pc := 141) dX12_readClause_141 lX12_272 bX12_readExpression nX12_readExpression (ci := 11) rfl eX12_readExpression hM.o (c_exprT (d := d + 0) (N := N) (tt := tt) (r := (j0 + 1, false, C2, q0, [], 0)) hM (zf4.tp hT) zr4 (zf4.wd hW) hok4 rfl k3 (Or.inl rfl)) (by omega) rfl (Nat.le_of_ble_eq_true rfl) ?_
              rintro _ _ _ I5 J5 _ ⟨rfl, rfl, rfl, rfl, f5, hr5, ho5⟩
              refine V.aload_n (pc := 144) dX12_readClause_144 rfl ?_
              refine V.getR (pc := 145) dX12_readClause_145 fX12_30_11 rfl hM.o hM.f16 ?_
              refine V.iload_n (pc := 148) dX12_readClause_148 rfl ?_
              refine V.bipush (v := 6) (pc := 149) dX12_readClause_149 (by decide) ?_
              refine V.iadd (pc := 151) dX12_readClause_151 ?_
              rw [show (6 : Int32) = nI 6 from rfl, nI_add]
              refine V.aload_n (pc := 152) dX12_readClause_152 rfl ?_
              refine V.getI (pc := 153) dX12_readClause_153 fX12_188_11 rfl hM.o ?_
              rw [show I5 m 17 = _ from hr5.2.2.2.1.1]
              refine V.iast' (k := 8 * l.length + 6) (pc := 156) dX12_readClause_156 hM.t16 rfl (by omega) (by decide) ?_
              exact V.vret (pc := 157) dX12_readClause_157 rfl ⟨rfl, rfl, rfl, rfl, (zf4.tr f5.g).up (by omega), fun j q cl e => (by rw [eD] at e; cases e), fun j q e => (by rw [eD] at e; cases e; exact ⟨_, _, _, _, hr5.keep (fun k hk => by rw [up2_off (by omega)]) (fun b _ _ => by rw [up2_off (by omega)])⟩)⟩
            | some w2 =>
              obtain ⟨C4, C5, X5, k1, k2, k3, k6, k7, k8⟩ := hy2 j1 q1 w2 hp2
              have hlt5 : C2.1 < C5.1 := Nat.lt_of_le_of_ne k7.1 (fun z => by rw [← z] at k8; exact k8.ne)
              have eD : dClause (kdT tt N) (nmT tt N) i v = (j1, q1, some (w, some w2)) := by rw [dClause, if_pos qa, hp]; simp only []; rw [if_pos q258, hp2]
              refine V.aload_n (pc := 0) dX12_readClause_0 rfl ?_
              refine V.aload_n (pc := 1) dX12_readClause_1 rfl ?_
              refine V.ldc2 (pc := 2) dX12_readClause_2 qX12_267 ?_
              refine V.pV (as := [_]) (pc := 5) dX12_readClause_5 lX12_209 bX12_isWord nX12_isWord (ci := 11) rfl eX12_isWord hM.o (c_isWord (d := d + 6) (N := N) (i := i) (tt := tt) (w := 20201203) _ hM hr.1 hT.2.1 (by decide) rfl) (by omega) rfl (Nat.le_of_ble_eq_true rfl) ?_
              rw [bi_c (wn_257 (fun i _ => hT.2.1 i)), bi_t qa]
              refine V.if_eq 24 (pc := 8) dX12_readClause_8 (by decide) (fun h8 => absurd h8 (by decide)) (fun h8 => ?_)
              refine V.aload_n (pc := 11) dX12_readClause_11 rfl ?_
              refine V.getI (pc := 12) dX12_readClause_12 fX12_269_11 rfl hM.o ?_
              rw [e15]
              refine V.bipush (v := 12) (pc := 15) dX12_readClause_15 (by decide) ?_
              refine V.icmp_ge 24 (pc := 17) dX12_readClause_17 (by decide) (fun h17 => absurd (show nI 12 ≤ nI l.length from h17) (nI_ge h12 (by omega))) (fun h17 => ?_)
              refine V.iconst (v := 1) (pc := 20) dX12_readClause_20 (by decide) ?_
              refine V.goto 25 (pc := 21) dX12_readClause_21 (by decide) ?_
              refine V.invV0 (as := [_]) (pc := 25) dX12_readClause_25 lX12_184 bX12_must nX12_must (ci := 11) rfl eX12_must hM.o (c_mustY (d := d + 4) (N := N) (tt := tt) _ hM hT hr rfl (by decide)) (by omega) rfl (Nat.le_of_ble_eq_true rfl) ?_
              rintro _ _ _ I1 J1 _ ⟨rfl, rfl, rfl, rfl, f1, hr1⟩
              refine V.aload_n (pc := 28) dX12_readClause_28 rfl ?_
              refine V.getI (pc := 29) dX12_readClause_29 fX12_151_11 rfl hM.o ?_
              rw [show I1 m 14 = 0 from hr1.2.1]
              refine V.if_eq 36 (pc := 32) dX12_readClause_32 (by decide) (fun h32 => ?_) (fun h32 => absurd rfl h32)
              refine V.bipush (v := 8) (pc := 36) dX12_readClause_36 (by decide) ?_
              refine V.aload_n (pc := 38) dX12_readClause_38 rfl ?_
              refine V.getI (pc := 39) dX12_readClause_39 fX12_269_11 rfl hM.o ?_
              have e151 : I1 m 15 = nI l.length := by rw [f1.2.1 15 (by omega)]; exact e15
              rw [e151]
              refine V.imul (pc := 42) dX12_readClause_42 ?_
              rw [L8, pk_mul]
              refine V.isn (pc := 43) dX12_readClause_43 (by decide) (st1_1 rfl) ?_
              refine V.iconst (v := 0) (pc := 44) dX12_readClause_44 (by decide) ?_
              refine V.isn (pc := 45) dX12_readClause_45 (by decide) (st1_2 rfl) ?_
              refine V.iload_n (pc := 46) dX12_readClause_46 rfl ?_
              refine V.bipush (v := 8) (pc := 47) dX12_readClause_47 (by decide) ?_
              refine V.icmp_ge 67 (pc := 49) dX12_readClause_49 (by decide) (fun h49 => absurd h49 (by decide)) (fun h49 => ?_)
              refine V.aload_n (pc := 52) dX12_readClause_52 rfl ?_
              refine V.getR (pc := 53) dX12_readClause_53 fX12_30_11 rfl hM.o hM.f16 ?_
              refine V.iload_n (pc := 56) dX12_readClause_56 rfl ?_
              refine V.iload_n (pc := 57) dX12_readClause_57 rfl ?_
              refine V.iadd (pc := 58) dX12_readClause_58 ?_
              rw [show (0 : Int32) = nI 0 from rfl, nI_add]
              refine V.iconst (v := 0) (pc := 59) dX12_readClause_59 (by decide) ?_
              refine V.iast' (k := 8 * l.length + 0) (pc := 60) dX12_readClause_60 hM.t16 rfl (by omega) (by decide) ?_
              refine V.iinc (v := 1) (pc := 61) dX12_readClause_61 (by decide) rfl (by decide) (st1_2 rfl) ?_
              refine V.goto 46 (pc := 64) dX12_readClause_64 (by decide) ?_
              refine V.iload_n (pc := 46) dX12_readClause_46 rfl ?_
              refine V.bipush (v := 8) (pc := 47) dX12_readClause_47 (by decide) ?_
              refine V.icmp_ge 67 (pc := 49) dX12_readClause_49 (by decide) (fun h49 => absurd h49 (by decide)) (fun h49 => ?_)
              refine V.aload_n (pc := 52) dX12_readClause_52 rfl ?_
              refine V.getR (pc := 53) dX12_readClause_53 fX12_30_11 rfl hM.o hM.f16 ?_
              refine V.iload_n (pc := 56) dX12_readClause_56 rfl ?_
              refine V.iload_n (pc := 57) dX12_readClause_57 rfl ?_
              refine V.iadd (pc := 58) dX12_readClause_58 ?_
              rw [show (1 : Int32) = nI 1 from rfl, nI_add]
              refine V.iconst (v := 0) (pc := 59) dX12_readClause_59 (by decide) ?_
              refine V.iast' (k := 8 * l.length + 1) (pc := 60) dX12_readClause_60 hM.t16 rfl (by omega) (by decide) ?_
              refine V.iinc (v := 2) (pc := 61) dX12_readClause_61 (by decide) rfl (by decide) (st1_2 rfl) ?_
              refine V.goto 46 (pc := 64) dX12_readClause_64 (by decide) ?_
              refine V.iload_n (pc := 46) dX12_readClause_46 rfl ?_
              refine V.bipush (v := 8) (pc := 47) dX12_readClause_47 (by decide) ?_
              refine V.icmp_ge 67 (pc := 49) dX12_readClause_49 (by decide) (fun h49 => absurd h49 (by decide)) (fun h49 => ?_)
              refine V.aload_n (pc := 52) dX12_readClause_52 rfl ?_
              refine V.getR (pc := 53) dX12_readClause_53 fX12_30_11 rfl hM.o hM.f16 ?_
              refine V.iload_n (pc := 56) dX12_readClause_56 rfl ?_
              refine V.iload_n (pc := 57) dX12_readClause_57 rfl ?_
              refine V.iadd (pc := 58) dX12_readClause_58 ?_
              rw [show (2 : Int32) = nI 2 from rfl, nI_add]
              refine V.iconst (v := 0) (pc := 59) dX12_readClause_59 (by decide) ?_
              refine V.iast' (k := 8 * l.length + 2) (pc := 60) dX12_readClause_60 hM.t16 rfl (by omega) (by decide) ?_
              refine V.iinc (v := 3) (pc := 61) dX12_readClause_61 (by decide) rfl (by decide) (st1_2 rfl) ?_
              refine V.goto 46 (pc := 64) dX12_readClause_64 (by decide) ?_
              refine V.iload_n (pc := 46) dX12_readClause_46 rfl ?_
              refine V.bipush (v := 8) (pc := 47) dX12_readClause_47 (by decide) ?_
              refine V.icmp_ge 67 (pc := 49) dX12_readClause_49 (by decide) (fun h49 => absurd h49 (by decide)) (fun h49 => ?_)
              refine V.aload_n (pc := 52) dX12_readClause_52 rfl ?_
              refine V.getR (pc := 53) dX12_readClause_53 fX12_30_11 rfl hM.o hM.f16 ?_
              refine V.iload_n (pc := 56) dX12_readClause_56 rfl ?_
              refine V.iload_n (pc := 57) dX12_readClause_57 rfl ?_
              refine V.iadd (pc := 58) dX12_readClause_58 ?_
              rw [show (3 : Int32) = nI 3 from rfl, nI_add]
              refine V.iconst (v := 0) (pc := 59) dX12_readClause_59 (by decide) ?_
              refine V.iast' (k := 8 * l.length + 3) (pc := 60) dX12_readClause_60 hM.t16 rfl (by omega) (by decide) ?_
              refine V.iinc (v := 4) (pc := 61) dX12_readClause_61 (by decide) rfl (by decide) (st1_2 rfl) ?_
              refine V.goto 46 (pc := 64) dX12_readClause_64 (by decide) ?_
              refine V.iload_n (pc := 46) dX12_readClause_46 rfl ?_
              refine V.bipush (v := 8) (pc := 47) dX12_readClause_47 (by decide) ?_
              refine V.icmp_ge 67 (pc := 49) dX12_readClause_49 (by decide) (fun h49 => absurd h49 (by decide)) (fun h49 => ?_)
              refine V.aload_n (pc := 52) dX12_readClause_52 rfl ?_
              refine V.getR (pc := 53) dX12_readClause_53 fX12_30_11 rfl hM.o hM.f16 ?_
              refine V.iload_n (pc := 56) dX12_readClause_56 rfl ?_
              refine V.iload_n (pc := 57) dX12_readClause_57 rfl ?_
              refine V.iadd (pc := 58) dX12_readClause_58 ?_
              rw [show (4 : Int32) = nI 4 from rfl, nI_add]
              refine V.iconst (v := 0) (pc := 59) dX12_readClause_59 (by decide) ?_
              refine V.iast' (k := 8 * l.length + 4) (pc := 60) dX12_readClause_60 hM.t16 rfl (by omega) (by decide) ?_
              refine V.iinc (v := 5) (pc := 61) dX12_readClause_61 (by decide) rfl (by decide) (st1_2 rfl) ?_
              refine V.goto 46 (pc := 64) dX12_readClause_64 (by decide) ?_
              refine V.iload_n (pc := 46) dX12_readClause_46 rfl ?_
              refine V.bipush (v := 8) (pc := 47) dX12_readClause_47 (by decide) ?_
              refine V.icmp_ge 67 (pc := 49) dX12_readClause_49 (by decide) (fun h49 => absurd h49 (by decide)) (fun h49 => ?_)
              refine V.aload_n (pc := 52) dX12_readClause_52 rfl ?_
              refine V.getR (pc := 53) dX12_readClause_53 fX12_30_11 rfl hM.o hM.f16 ?_
              refine V.iload_n (pc := 56) dX12_readClause_56 rfl ?_
              refine V.iload_n (pc := 57) dX12_readClause_57 rfl ?_
              refine V.iadd (pc := 58) dX12_readClause_58 ?_
              rw [show (5 : Int32) = nI 5 from rfl, nI_add]
              refine V.iconst (v := 0) (pc := 59) dX12_readClause_59 (by decide) ?_
              refine V.iast' (k := 8 * l.length + 5) (pc := 60) dX12_readClause_60 hM.t16 rfl (by omega) (by decide) ?_
              refine V.iinc (v := 6) (pc := 61) dX12_readClause_61 (by decide) rfl (by decide) (st1_2 rfl) ?_
              refine V.goto 46 (pc := 64) dX12_readClause_64 (by decide) ?_
              refine V.iload_n (pc := 46) dX12_readClause_46 rfl ?_
              refine V.bipush (v := 8) (pc := 47) dX12_readClause_47 (by decide) ?_
              refine V.icmp_ge 67 (pc := 49) dX12_readClause_49 (by decide) (fun h49 => absurd h49 (by decide)) (fun h49 => ?_)
              refine V.aload_n (pc := 52) dX12_readClause_52 rfl ?_
              refine V.getR (pc := 53) dX12_readClause_53 fX12_30_11 rfl hM.o hM.f16 ?_
              refine V.iload_n (pc := 56) dX12_readClause_56 rfl ?_
              refine V.iload_n (pc := 57) dX12_readClause_57 rfl ?_
              refine V.iadd (pc := 58) dX12_readClause_58 ?_
              rw [show (6 : Int32) = nI 6 from rfl, nI_add]
              refine V.iconst (v := 0) (pc := 59) dX12_readClause_59 (by decide) ?_
              refine V.iast' (k := 8 * l.length + 6) (pc := 60) dX12_readClause_60 hM.t16 rfl (by omega) (by decide) ?_
              refine V.iinc (v := 7) (pc := 61) dX12_readClause_61 (by decide) rfl (by decide) (st1_2 rfl) ?_
              refine V.goto 46 (pc := 64) dX12_readClause_64 (by decide) ?_
              refine V.iload_n (pc := 46) dX12_readClause_46 rfl ?_
              refine V.bipush (v := 8) (pc := 47) dX12_readClause_47 (by decide) ?_
              refine V.icmp_ge 67 (pc := 49) dX12_readClause_49 (by decide) (fun h49 => absurd h49 (by decide)) (fun h49 => ?_)
              refine V.aload_n (pc := 52) dX12_readClause_52 rfl ?_
              refine V.getR (pc := 53) dX12_readClause_53 fX12_30_11 rfl hM.o hM.f16 ?_
              refine V.iload_n (pc := 56) dX12_readClause_56 rfl ?_
              refine V.iload_n (pc := 57) dX12_readClause_57 rfl ?_
              refine V.iadd (pc := 58) dX12_readClause_58 ?_
              rw [show (7 : Int32) = nI 7 from rfl, nI_add]
              refine V.iconst (v := 0) (pc := 59) dX12_readClause_59 (by decide) ?_
              refine V.iast' (k := 8 * l.length + 7) (pc := 60) dX12_readClause_60 hM.t16 rfl (by omega) (by decide) ?_
              refine V.iinc (v := 8) (pc := 61) dX12_readClause_61 (by decide) rfl (by decide) (st1_2 rfl) ?_
              refine V.goto 46 (pc := 64) dX12_readClause_64 (by decide) ?_
              refine V.iload_n (pc := 46) dX12_readClause_46 rfl ?_
              refine V.bipush (v := 8) (pc := 47) dX12_readClause_47 (by decide) ?_
              refine V.icmp_ge 67 (pc := 49) dX12_readClause_49 (by decide) (fun h49 => ?_) (fun h49 => absurd (by decide) h49)
              generalize hZ : (up2 _ (m + 6) (8 * l.length + 7) 0 : mI) = IZ
              have z1 : ∀ b, b ≠ m + 6 → IZ b = I1 b := fun b hb => by rw [← hZ, up2_off hb, up2_off hb, up2_off hb, up2_off hb, up2_off hb, up2_off hb, up2_off hb, up2_off hb]
              have z2 : ∀ k, k < 8 * l.length → IZ (m + 6) k = I1 (m + 6) k := fun k hk => by rw [← hZ, up2_ne (by omega), up2_ne (by omega), up2_ne (by omega), up2_ne (by omega), up2_ne (by omega), up2_ne (by omega), up2_ne (by omega), up2_ne (by omega)]
              clear hZ
              have zl : ∀ k, k < 8 * l.length → IZ (m + 6) k = I (m + 6) k := fun k hk => by rw [z2 k hk, f1.1 (m + 6) (by omega) (by omega)]
              have z15 : IZ m 15 = nI l.length := by rw [z1 m (by omega)]; exact e151
              have zr : RdM tt N (i + 1, false, C, v, P, oo) IZ J1 m := hr1.keep (fun k _ => by rw [z1 m (by omega)]) (fun b _ _ => z1 b (by omega))
              have zf : PrG m I J IZ J1 := ⟨fun b h1 h2 => by rw [z1 b (by omega)]; exact f1.g.1 b h1 h2, fun k hk => by rw [z1 m (by omega)]; exact f1.g.2.1 k hk, f1.2.2⟩
              refine V.aload_n (pc := 67) dX12_readClause_67 rfl ?_
              refine V.dup (pc := 68) dX12_readClause_68 rfl ?_
              refine V.getI (pc := 69) dX12_readClause_69 fX12_269_11 rfl hM.o ?_
              rw [z15]
              refine V.iconst (v := 1) (pc := 72) dX12_readClause_72 (by decide) ?_
              refine V.iadd (pc := 73) dX12_readClause_73 ?_
              rw [nI_1]
              refine V.putI (pc := 74) dX12_readClause_74 fX12_269_11 (fun r h => by cases h; exact Or.inl rfl) rfl hM.o ?_
              refine V.aload_n (pc := 77) dX12_readClause_77 rfl ?_
              refine V.getR (pc := 78) dX12_readClause_78 fX12_30_11 rfl hM.o hM.f16 ?_
              refine V.iload_n (pc := 81) dX12_readClause_81 rfl ?_
              refine V.iconst (v := 3) (pc := 82) dX12_readClause_82 (by decide) ?_
              refine V.iadd (pc := 83) dX12_readClause_83 ?_
              rw [show (3 : Int32) = nI 3 from rfl, nI_add]
              refine V.aload_n (pc := 84) dX12_readClause_84 rfl ?_
              refine V.getI (pc := 85) dX12_readClause_85 fX12_188_11 rfl hM.o ?_
              rw [up2_ne (by omega), show IZ m 17 = nI C.1 from zr.2.2.2.1.1]
              refine V.iast' (k := 8 * l.length + 3) (pc := 88) dX12_readClause_88 hM.t16 rfl (by omega) (by decide) ?_
              have zf2 : PrG m I J (up2 (up2 IZ m 15 (nI (l.length + 1))) (m + 6) (8 * l.length + 3) (nI C.1)) J1 := (zf.up (by omega)).up (by omega)
              have zr2 : RdM tt N (i + 1, false, C, v, P, oo) (up2 (up2 IZ m 15 (nI (l.length + 1))) (m + 6) (8 * l.length + 3) (nI C.1)) J1 m := zr.keep (fun k hk => by rw [up2_ne (by omega), up2_ne (by omega)]) (fun b _ _ => by rw [up2_off (by omega), up2_off (by omega)])
              have hok1 : RdK (tkN tt N) (i + 1, false, C, v, P, oo) := ⟨hi1, Nat.le_succ_of_le hok.2.1, hok.2.2⟩
              refine V.aload_n (pc := 89) dX12_readClause_89 rfl ?_
              refine V.iconst (v := 0) (pc := 90) dX12_readClause_90 (by decide) ?_
              refine V.invV0 (as := [_]) (pc := 91) dX12_readClause_91 lX12_272 bX12_readExpression nX12_readExpression (ci := 11) rfl eX12_readExpression hM.o (c_exprS (d := d + 0) (N := N) (tt := tt) (r := (i + 1, false, C, v, P, oo)) hM (zf2.tp hT) zr2 (zf2.wd hW) hok1 rfl g3 (Or.inr rfl)) (by omega) rfl (Nat.le_of_ble_eq_true rfl) ?_
              rintro _ _ _ I2 J2 _ ⟨rfl, rfl, rfl, rfl, f2, hr2, ho2⟩
              simp only [r_i, r_b, r_C, r_v, r_P, r_o] at hr2 ho2
              rw [g4] at hr2 ho2
              have y15 : I2 m 15 = nI (l.length + 1) := by rw [f2.2.1 15 (by omega), up2_ne (by omega), up2_same]
              have y6 : I2 (m + 6) = up2 (up2 IZ m 15 (nI (l.length + 1))) (m + 6) (8 * l.length + 3) (nI C.1) (m + 6) := f2.1 (m + 6) (by omega) (by omega)
              have y3 : I2 (m + 6) (8 * l.length + 3) = nI C.1 := by rw [y6, up2_same]
              have yl : ∀ k, k < 8 * l.length → I2 (m + 6) k = I (m + 6) k := fun k hk => by rw [y6, up2_ne (by omega), up2_off (by omega)]; exact zl k hk
              refine V.aload_n (pc := 94) dX12_readClause_94 rfl ?_
              refine V.getR (pc := 95) dX12_readClause_95 fX12_30_11 rfl hM.o hM.f16 ?_
              refine V.iload_n (pc := 98) dX12_readClause_98 rfl ?_
              refine V.iconst (v := 4) (pc := 99) dX12_readClause_99 (by decide) ?_
              refine V.iadd (pc := 100) dX12_readClause_100 ?_
              rw [show (4 : Int32) = nI 4 from rfl, nI_add]
              refine V.aload_n (pc := 101) dX12_readClause_101 rfl ?_
              refine V.getI (pc := 102) dX12_readClause_102 fX12_188_11 rfl hM.o ?_
              rw [show I2 m 17 = _ from hr2.2.2.2.1.1]
              refine V.iast' (k := 8 * l.length + 4) (pc := 105) dX12_readClause_105 hM.t16 rfl (by omega) (by decide) ?_
              refine V.aload_n (pc := 106) dX12_readClause_106 rfl ?_
              refine V.getR (pc := 107) dX12_readClause_107 fX12_30_11 rfl hM.o hM.f16 ?_
              refine V.iload_n (pc := 110) dX12_readClause_110 rfl ?_
              refine V.iconst (v := 5) (pc := 111) dX12_readClause_111 (by decide) ?_
              refine V.iadd (pc := 112) dX12_readClause_112 ?_
              rw [show (5 : Int32) = nI 5 from rfl, nI_add]
              refine V.aload_n (pc := 113) dX12_readClause_113 rfl ?_
              refine V.getI (pc := 114) dX12_readClause_114 fX12_188_11 rfl hM.o ?_
              rw [up2_off (by omega), show I2 m 17 = _ from hr2.2.2.2.1.1]
              refine V.iast' (k := 8 * l.length + 5) (pc := 117) dX12_readClause_117 hM.t16 rfl (by omega) (by decide) ?_
              refine V.aload_n (pc := 118) dX12_readClause_118 rfl ?_
              refine V.getI (pc := 119) dX12_readClause_119 fX12_151_11 rfl hM.o ?_
              rw [up2_off (by omega), up2_off (by omega), show I2 m 14 = 0 from hr2.2.1]
              refine V.if_ne 144 (pc := 122) dX12_readClause_122 (by decide) (fun h122 => absurd rfl h122) (fun h122 => ?_)
              refine V.aload_n (pc := 125) dX12_readClause_125 rfl ?_
              refine V.ldc2 (pc := 126) dX12_readClause_126 qX12_275 ?_
              refine V.pV (as := [_]) (pc := 129) dX12_readClause_129 lX12_209 bX12_isWord nX12_isWord (ci := 11) rfl eX12_isWord hM.o (c_isWord (d := d + 6) (N := N) (i := j0) (tt := tt) (w := 294) _ hM (hr2.keep (fun k hk => by rw [up2_off (by omega), up2_off (by omega)]) (fun b _ _ => by rw [up2_off (by omega), up2_off (by omega)])).1 hT.2.1 (by decide) rfl) (by omega) rfl (Nat.le_of_ble_eq_true rfl) ?_
              rw [bi_c (wn_258 (fun i _ => hT.2.1 i)), bi_t q258]
              refine V.if_eq 144 (pc := 132) dX12_readClause_132 (by decide) (fun h132 => absurd h132 (by decide)) (fun h132 => ?_)
              refine V.aload_n (pc := 135) dX12_readClause_135 rfl ?_
              refine V.invV0 (as := []) (pc := 136) dX12_readClause_136 lX12_155 bX12_next nX12_next (ci := 11) rfl eX12_next hM.o (c_next (d := d + 5) (N := N) (tt := tt) (i := j0 + 1) hM ((((zf2.tr f2.g).up (by omega)).up (by omega)).tp hT) (hr2.keep (fun k hk => by rw [up2_off (by omega), up2_off (by omega)]) (fun b _ _ => by rw [up2_off (by omega), up2_off (by omega)])).1.2.1) (by omega) rfl (Nat.le_of_ble_eq_true rfl) ?_
              rintro _ _ _ I4 J4 _ ⟨rfl, rfl, rfl, rfl, f4, k4⟩
              have zf4 : PrG m I J I4 J4 := (((zf2.tr f2.g).up (by omega)).up (by omega)).tr f4.pr.g
              have zr4 : RdM tt N (j0 + 1, false, C2, q0, [], 0) I4 J4 m := RdM.nx (hr2.keep (fun k hk => by rw [up2_off (by omega), up2_off (by omega)]) (fun b _ _ => by rw [up2_off (by omega), up2_off (by omega)])) rfl f4 k4
              have hok4 : RdK (tkN tt N) (j0 + 1, false, C2, q0, [], 0) := ⟨hj1, Nat.le_succ_of_le ho2.k.2.1, ho2.k.2.2⟩
              refine V.aload_n (pc := 139) dX12_readClause_139 rfl ?_
              refine V.iconst (v := 1) (pc := 140) dX12_readClause_140 (by decide) ?_
              refine V.invV0 (as := [_]) (pc := 141) dX12_readClause_141 lX12_272 bX12_readExpression nX12_readExpression (ci := 11) rfl eX12_readExpression hM.o (c_exprT (d := d + 0) (N := N) (tt := tt) (r := (j0 + 1, false, C2, q0, [], 0)) hM (zf4.tp hT) zr4 (zf4.wd hW) hok4 rfl k3 (Or.inr rfl)) (by omega) rfl (Nat.le_of_ble_eq_true rfl) ?_
              rintro _ _ _ I5 J5 _ ⟨rfl, rfl, rfl, rfl, f5, hr5, ho5⟩
              simp only [r_i, r_b, r_C, r_v, r_P, r_o] at hr5 ho5
              rw [k6] at hr5 ho5
              have x15 : I5 m 15 = nI (l.length + 1) := by rw [f5.2.1 15 (by omega), f4.2.1 15 (by omega) (by omega) (by omega)]; simp (disch := omega) only [up2_off, up2_ne, up2_same]; exact y15
              have x6 : I5 (m + 6) = up2 (up2 I2 (m + 6) (8 * l.length + 4) (nI C2.1)) (m + 6) (8 * l.length + 5) (nI C2.1) (m + 6) := by rw [f5.1 (m + 6) (by omega) (by omega), f4.1 (m + 6) (by omega)]
              have x3 : I5 (m + 6) (8 * l.length + 3) = nI C.1 := by rw [x6]; simp (disch := omega) only [up2_off, up2_ne, up2_same]; exact y3
              have x4 : I5 (m + 6) (8 * l.length + 4) = nI C2.1 := by rw [x6]; simp (disch := omega) only [up2_off, up2_ne, up2_same]
              have x5 : I5 (m + 6) (8 * l.length + 5) = nI C2.1 := by rw [x6]; simp (disch := omega) only [up2_off, up2_ne, up2_same]
              have xl : ∀ k, k < 8 * l.length → I5 (m + 6) k = I (m + 6) k := fun k hk => by rw [x6]; simp (disch := omega) only [up2_off, up2_ne, up2_same]; exact yl k hk
              refine V.aload_n (pc := 144) dX12_readClause_144 rfl ?_
              refine V.getR (pc := 145) dX12_readClause_145 fX12_30_11 rfl hM.o hM.f16 ?_
              refine V.iload_n (pc := 148) dX12_readClause_148 rfl ?_
              refine V.bipush (v := 6) (pc := 149) dX12_readClause_149 (by decide) ?_
              refine V.iadd (pc := 151) dX12_readClause_151 ?_
              rw [show (6 : Int32) = nI 6 from rfl, nI_add]
              refine V.aload_n (pc := 152) dX12_readClause_152 rfl ?_
              refine V.getI (pc := 153) dX12_readClause_153 fX12_188_11 rfl hM.o ?_
              rw [show I5 m 17 = _ from hr5.2.2.2.1.1]
              refine V.iast' (k := 8 * l.length + 6) (pc := 156) dX12_readClause_156 hM.t16 rfl (by omega) (by decide) ?_
              exact V.vret (pc := 157) dX12_readClause_157 rfl ⟨rfl, rfl, rfl, rfl, (zf4.tr f5.g).up (by omega), fun j q cl e => (by rw [eD] at e; cases e; exact ⟨h12, C5, C2.1, hr5.keep (fun k hk => by rw [up2_off (by omega)]) (fun b _ _ => by rw [up2_off (by omega)]), ho5, g5.tr k7, ⟨g5.1, k7.1, g6.ext k7, hlt5, k8⟩, (hl.add (by simp (disch := omega) only [up2_off, up2_ne, up2_same]; exact x15) (fun k hk => by simp (disch := omega) only [up2_off, up2_ne, up2_same]; exact xl k hk) (by simp (disch := omega) only [up2_off, up2_ne, up2_same]; exact x3) (by simp (disch := omega) only [up2_off, up2_ne, up2_same]; exact x4) (by simp (disch := omega) only [up2_off, up2_ne, up2_same]; exact x5) (by simp (disch := omega) only [up2_off, up2_ne, up2_same]))⟩), fun j q e => (by rw [eD] at e; cases e)⟩
        · have eD : dClause (kdT tt N) (nmT tt N) i v = (j0, q0, some (w, none)) := by rw [dClause, if_pos qa, hp]; simp only []; rw [if_neg q258]
          refine V.aload_n (pc := 0) dX12_readClause_0 rfl ?_
          refine V.aload_n (pc := 1) dX12_readClause_1 rfl ?_
          refine V.ldc2 (pc := 2) dX12_readClause_2 qX12_267 ?_
          refine V.pV (as := [_]) (pc := 5) dX12_readClause_5 lX12_209 bX12_isWord nX12_isWord (ci := 11) rfl eX12_isWord hM.o (c_isWord (d := d + 6) (N := N) (i := i) (tt := tt) (w := 20201203) _ hM hr.1 hT.2.1 (by decide) rfl) (by omega) rfl (Nat.le_of_ble_eq_true rfl) ?_
          rw [bi_c (wn_257 (fun i _ => hT.2.1 i)), bi_t qa]
          refine V.if_eq 24 (pc := 8) dX12_readClause_8 (by decide) (fun h8 => absurd h8 (by decide)) (fun h8 => ?_)
          refine V.aload_n (pc := 11) dX12_readClause_11 rfl ?_
          refine V.getI (pc := 12) dX12_readClause_12 fX12_269_11 rfl hM.o ?_
          rw [e15]
          refine V.bipush (v := 12) (pc := 15) dX12_readClause_15 (by decide) ?_
          refine V.icmp_ge 24 (pc := 17) dX12_readClause_17 (by decide) (fun h17 => absurd (show nI 12 ≤ nI l.length from h17) (nI_ge h12 (by omega))) (fun h17 => ?_)
          refine V.iconst (v := 1) (pc := 20) dX12_readClause_20 (by decide) ?_
          refine V.goto 25 (pc := 21) dX12_readClause_21 (by decide) ?_
          refine V.invV0 (as := [_]) (pc := 25) dX12_readClause_25 lX12_184 bX12_must nX12_must (ci := 11) rfl eX12_must hM.o (c_mustY (d := d + 4) (N := N) (tt := tt) _ hM hT hr rfl (by decide)) (by omega) rfl (Nat.le_of_ble_eq_true rfl) ?_
          rintro _ _ _ I1 J1 _ ⟨rfl, rfl, rfl, rfl, f1, hr1⟩
          refine V.aload_n (pc := 28) dX12_readClause_28 rfl ?_
          refine V.getI (pc := 29) dX12_readClause_29 fX12_151_11 rfl hM.o ?_
          rw [show I1 m 14 = 0 from hr1.2.1]
          refine V.if_eq 36 (pc := 32) dX12_readClause_32 (by decide) (fun h32 => ?_) (fun h32 => absurd rfl h32)
          refine V.bipush (v := 8) (pc := 36) dX12_readClause_36 (by decide) ?_
          refine V.aload_n (pc := 38) dX12_readClause_38 rfl ?_
          refine V.getI (pc := 39) dX12_readClause_39 fX12_269_11 rfl hM.o ?_
          have e151 : I1 m 15 = nI l.length := by rw [f1.2.1 15 (by omega)]; exact e15
          rw [e151]
          refine V.imul (pc := 42) dX12_readClause_42 ?_
          rw [L8, pk_mul]
          refine V.isn (pc := 43) dX12_readClause_43 (by decide) (st1_1 rfl) ?_
          refine V.iconst (v := 0) (pc := 44) dX12_readClause_44 (by decide) ?_
          refine V.isn (pc := 45) dX12_readClause_45 (by decide) (st1_2 rfl) ?_
          refine V.iload_n (pc := 46) dX12_readClause_46 rfl ?_
          refine V.bipush (v := 8) (pc := 47) dX12_readClause_47 (by decide) ?_
          refine V.icmp_ge 67 (pc := 49) dX12_readClause_49 (by decide) (fun h49 => absurd h49 (by decide)) (fun h49 => ?_)
          refine V.aload_n (pc := 52) dX12_readClause_52 rfl ?_
          refine V.getR (pc := 53) dX12_readClause_53 fX12_30_11 rfl hM.o hM.f16 ?_
          refine V.iload_n (pc := 56) dX12_readClause_56 rfl ?_
          refine V.iload_n (pc := 57) dX12_readClause_57 rfl ?_
          refine V.iadd (pc := 58) dX12_readClause_58 ?_
          rw [show (0 : Int32) = nI 0 from rfl, nI_add]
          refine V.iconst (v := 0) (pc := 59) dX12_readClause_59 (by decide) ?_
          refine V.iast' (k := 8 * l.length + 0) (pc := 60) dX12_readClause_60 hM.t16 rfl (by omega) (by decide) ?_
          refine V.iinc (v := 1) (pc := 61) dX12_readClause_61 (by decide) rfl (by decide) (st1_2 rfl) ?_
          refine V.goto 46 (pc := 64) dX12_readClause_64 (by decide) ?_
          refine V.iload_n (pc := 46) dX12_readClause_46 rfl ?_
          refine V.bipush (v := 8) (pc := 47) dX12_readClause_47 (by decide) ?_
          refine V.icmp_ge 67 (pc := 49) dX12_readClause_49 (by decide) (fun h49 => absurd h49 (by decide)) (fun h49 => ?_)
          refine V.aload_n (pc := 52) dX12_readClause_52 rfl ?_
          refine V.getR (pc := 53) dX12_readClause_53 fX12_30_11 rfl hM.o hM.f16 ?_
          refine V.iload_n (pc := 56) dX12_readClause_56 rfl ?_
          refine V.iload_n (pc := 57) dX12_readClause_57 rfl ?_
          refine V.iadd (pc := 58) dX12_readClause_58 ?_
          rw [show (1 : Int32) = nI 1 from rfl, nI_add]
          refine V.iconst (v := 0) (pc := 59) dX12_readClause_59 (by decide) ?_
          refine V.iast' (k := 8 * l.length + 1) (pc := 60) dX12_readClause_60 hM.t16 rfl (by omega) (by decide) ?_
          refine V.iinc (v := 2) (pc := 61) dX12_readClause_61 (by decide) rfl (by decide) (st1_2 rfl) ?_
          refine V.goto 46 (pc := 64) dX12_readClause_64 (by decide) ?_
          refine V.iload_n (pc := 46) dX12_readClause_46 rfl ?_
          refine V.bipush (v := 8) (pc := 47) dX12_readClause_47 (by decide) ?_
          refine V.icmp_ge 67 (pc := 49) dX12_readClause_49 (by decide) (fun h49 => absurd h49 (by decide)) (fun h49 => ?_)
          refine V.aload_n (pc := 52) dX12_readClause_52 rfl ?_
          refine V.getR (pc := 53) dX12_readClause_53 fX12_30_11 rfl hM.o hM.f16 ?_
          refine V.iload_n (pc := 56) dX12_readClause_56 rfl ?_
          refine V.iload_n (pc := 57) dX12_readClause_57 rfl ?_
          refine V.iadd (pc := 58) dX12_readClause_58 ?_
          rw [show (2 : Int32) = nI 2 from rfl, nI_add]
          refine V.iconst (v := 0) (pc := 59) dX12_readClause_59 (by decide) ?_
          refine V.iast' (k := 8 * l.length + 2) (pc := 60) dX12_readClause_60 hM.t16 rfl (by omega) (by decide) ?_
          refine V.iinc (v := 3) (pc := 61) dX12_readClause_61 (by decide) rfl (by decide) (st1_2 rfl) ?_
          refine V.goto 46 (pc := 64) dX12_readClause_64 (by decide) ?_
          refine V.iload_n (pc := 46) dX12_readClause_46 rfl ?_
          refine V.bipush (v := 8) (pc := 47) dX12_readClause_47 (by decide) ?_
          refine V.icmp_ge 67 (pc := 49) dX12_readClause_49 (by decide) (fun h49 => absurd h49 (by decide)) (fun h49 => ?_)
          refine V.aload_n (pc := 52) dX12_readClause_52 rfl ?_
          refine V.getR (pc := 53) dX12_readClause_53 fX12_30_11 rfl hM.o hM.f16 ?_
          refine V.iload_n (pc := 56) dX12_readClause_56 rfl ?_
          refine V.iload_n (pc := 57) dX12_readClause_57 rfl ?_
          refine V.iadd (pc := 58) dX12_readClause_58 ?_
          rw [show (3 : Int32) = nI 3 from rfl, nI_add]
          refine V.iconst (v := 0) (pc := 59) dX12_readClause_59 (by decide) ?_
          refine V.iast' (k := 8 * l.length + 3) (pc := 60) dX12_readClause_60 hM.t16 rfl (by omega) (by decide) ?_
          refine V.iinc (v := 4) (pc := 61) dX12_readClause_61 (by decide) rfl (by decide) (st1_2 rfl) ?_
          refine V.goto 46 (pc := 64) dX12_readClause_64 (by decide) ?_
          refine V.iload_n (pc := 46) dX12_readClause_46 rfl ?_
          refine V.bipush (v := 8) (pc := 47) dX12_readClause_47 (by decide) ?_
          refine V.icmp_ge 67 (pc := 49) dX12_readClause_49 (by decide) (fun h49 => absurd h49 (by decide)) (fun h49 => ?_)
          refine V.aload_n (pc := 52) dX12_readClause_52 rfl ?_
          refine V.getR (pc := 53) dX12_readClause_53 fX12_30_11 rfl hM.o hM.f16 ?_
          refine V.iload_n (pc := 56) dX12_readClause_56 rfl ?_
          refine V.iload_n (pc := 57) dX12_readClause_57 rfl ?_
          refine V.iadd (pc := 58) dX12_readClause_58 ?_
          rw [show (4 : Int32) = nI 4 from rfl, nI_add]
          refine V.iconst (v := 0) (pc := 59) dX12_readClause_59 (by decide) ?_
          refine V.iast' (k := 8 * l.length + 4) (pc := 60) dX12_readClause_60 hM.t16 rfl (by omega) (by decide) ?_
          refine V.iinc (v := 5) (pc := 61) dX12_readClause_61 (by decide) rfl (by decide) (st1_2 rfl) ?_
          refine V.goto 46 (pc := 64) dX12_readClause_64 (by decide) ?_
          refine V.iload_n (pc := 46) dX12_readClause_46 rfl ?_
          refine V.bipush (v := 8) (pc := 47) dX12_readClause_47 (by decide) ?_
          refine V.icmp_ge 67 (pc := 49) dX12_readClause_49 (by decide) (fun h49 => absurd h49 (by decide)) (fun h49 => ?_)
          refine V.aload_n (pc := 52) dX12_readClause_52 rfl ?_
          refine V.getR (pc := 53) dX12_readClause_53 fX12_30_11 rfl hM.o hM.f16 ?_
          refine V.iload_n (pc := 56) dX12_readClause_56 rfl ?_
          refine V.iload_n (pc := 57) dX12_readClause_57 rfl ?_
          refine V.iadd (pc := 58) dX12_readClause_58 ?_
          rw [show (5 : Int32) = nI 5 from rfl, nI_add]
          refine V.iconst (v := 0) (pc := 59) dX12_readClause_59 (by decide) ?_
          refine V.iast' (k := 8 * l.length + 5) (pc := 60) dX12_readClause_60 hM.t16 rfl (by omega) (by decide) ?_
          refine V.iinc (v := 6) (pc := 61) dX12_readClause_61 (by decide) rfl (by decide) (st1_2 rfl) ?_
          refine V.goto 46 (pc := 64) dX12_readClause_64 (by decide) ?_
          refine V.iload_n (pc := 46) dX12_readClause_46 rfl ?_
          refine V.bipush (v := 8) (pc := 47) dX12_readClause_47 (by decide) ?_
          refine V.icmp_ge 67 (pc := 49) dX12_readClause_49 (by decide) (fun h49 => absurd h49 (by decide)) (fun h49 => ?_)
          refine V.aload_n (pc := 52) dX12_readClause_52 rfl ?_
          refine V.getR (pc := 53) dX12_readClause_53 fX12_30_11 rfl hM.o hM.f16 ?_
          refine V.iload_n (pc := 56) dX12_readClause_56 rfl ?_
          refine V.iload_n (pc := 57) dX12_readClause_57 rfl ?_
          refine V.iadd (pc := 58) dX12_readClause_58 ?_
          rw [show (6 : Int32) = nI 6 from rfl, nI_add]
          refine V.iconst (v := 0) (pc := 59) dX12_readClause_59 (by decide) ?_
          refine V.iast' (k := 8 * l.length + 6) (pc := 60) dX12_readClause_60 hM.t16 rfl (by omega) (by decide) ?_
          refine V.iinc (v := 7) (pc := 61) dX12_readClause_61 (by decide) rfl (by decide) (st1_2 rfl) ?_
          refine V.goto 46 (pc := 64) dX12_readClause_64 (by decide) ?_
          refine V.iload_n (pc := 46) dX12_readClause_46 rfl ?_
          refine V.bipush (v := 8) (pc := 47) dX12_readClause_47 (by decide) ?_
          refine V.icmp_ge 67 (pc := 49) dX12_readClause_49 (by decide) (fun h49 => absurd h49 (by decide)) (fun h49 => ?_)
          refine V.aload_n (pc := 52) dX12_readClause_52 rfl ?_
          refine V.getR (pc := 53) dX12_readClause_53 fX12_30_11 rfl hM.o hM.f16 ?_
          refine V.iload_n (pc := 56) dX12_readClause_56 rfl ?_
          refine V.iload_n (pc := 57) dX12_readClause_57 rfl ?_
          refine V.iadd (pc := 58) dX12_readClause_58 ?_
          rw [show (7 : Int32) = nI 7 from rfl, nI_add]
          refine V.iconst (v := 0) (pc := 59) dX12_readClause_59 (by decide) ?_
          refine V.iast' (k := 8 * l.length + 7) (pc := 60) dX12_readClause_60 hM.t16 rfl (by omega) (by decide) ?_
          refine V.iinc (v := 8) (pc := 61) dX12_readClause_61 (by decide) rfl (by decide) (st1_2 rfl) ?_
          refine V.goto 46 (pc := 64) dX12_readClause_64 (by decide) ?_
          refine V.iload_n (pc := 46) dX12_readClause_46 rfl ?_
          refine V.bipush (v := 8) (pc := 47) dX12_readClause_47 (by decide) ?_
          refine V.icmp_ge 67 (pc := 49) dX12_readClause_49 (by decide) (fun h49 => ?_) (fun h49 => absurd (by decide) h49)
          generalize hZ : (up2 _ (m + 6) (8 * l.length + 7) 0 : mI) = IZ
          have z1 : ∀ b, b ≠ m + 6 → IZ b = I1 b := fun b hb => by rw [← hZ, up2_off hb, up2_off hb, up2_off hb, up2_off hb, up2_off hb, up2_off hb, up2_off hb, up2_off hb]
          have z2 : ∀ k, k < 8 * l.length → IZ (m + 6) k = I1 (m + 6) k := fun k hk => by rw [← hZ, up2_ne (by omega), up2_ne (by omega), up2_ne (by omega), up2_ne (by omega), up2_ne (by omega), up2_ne (by omega), up2_ne (by omega), up2_ne (by omega)]
          clear hZ
          have zl : ∀ k, k < 8 * l.length → IZ (m + 6) k = I (m + 6) k := fun k hk => by rw [z2 k hk, f1.1 (m + 6) (by omega) (by omega)]
          have z15 : IZ m 15 = nI l.length := by rw [z1 m (by omega)]; exact e151
          have zr : RdM tt N (i + 1, false, C, v, P, oo) IZ J1 m := hr1.keep (fun k _ => by rw [z1 m (by omega)]) (fun b _ _ => z1 b (by omega))
          have zf : PrG m I J IZ J1 := ⟨fun b h1 h2 => by rw [z1 b (by omega)]; exact f1.g.1 b h1 h2, fun k hk => by rw [z1 m (by omega)]; exact f1.g.2.1 k hk, f1.2.2⟩
          refine V.aload_n (pc := 67) dX12_readClause_67 rfl ?_
          refine V.dup (pc := 68) dX12_readClause_68 rfl ?_
          refine V.getI (pc := 69) dX12_readClause_69 fX12_269_11 rfl hM.o ?_
          rw [z15]
          refine V.iconst (v := 1) (pc := 72) dX12_readClause_72 (by decide) ?_
          refine V.iadd (pc := 73) dX12_readClause_73 ?_
          rw [nI_1]
          refine V.putI (pc := 74) dX12_readClause_74 fX12_269_11 (fun r h => by cases h; exact Or.inl rfl) rfl hM.o ?_
          refine V.aload_n (pc := 77) dX12_readClause_77 rfl ?_
          refine V.getR (pc := 78) dX12_readClause_78 fX12_30_11 rfl hM.o hM.f16 ?_
          refine V.iload_n (pc := 81) dX12_readClause_81 rfl ?_
          refine V.iconst (v := 3) (pc := 82) dX12_readClause_82 (by decide) ?_
          refine V.iadd (pc := 83) dX12_readClause_83 ?_
          rw [show (3 : Int32) = nI 3 from rfl, nI_add]
          refine V.aload_n (pc := 84) dX12_readClause_84 rfl ?_
          refine V.getI (pc := 85) dX12_readClause_85 fX12_188_11 rfl hM.o ?_
          rw [up2_ne (by omega), show IZ m 17 = nI C.1 from zr.2.2.2.1.1]
          refine V.iast' (k := 8 * l.length + 3) (pc := 88) dX12_readClause_88 hM.t16 rfl (by omega) (by decide) ?_
          have zf2 : PrG m I J (up2 (up2 IZ m 15 (nI (l.length + 1))) (m + 6) (8 * l.length + 3) (nI C.1)) J1 := (zf.up (by omega)).up (by omega)
          have zr2 : RdM tt N (i + 1, false, C, v, P, oo) (up2 (up2 IZ m 15 (nI (l.length + 1))) (m + 6) (8 * l.length + 3) (nI C.1)) J1 m := zr.keep (fun k hk => by rw [up2_ne (by omega), up2_ne (by omega)]) (fun b _ _ => by rw [up2_off (by omega), up2_off (by omega)])
          have hok1 : RdK (tkN tt N) (i + 1, false, C, v, P, oo) := ⟨hi1, Nat.le_succ_of_le hok.2.1, hok.2.2⟩
          refine V.aload_n (pc := 89) dX12_readClause_89 rfl ?_
          refine V.iconst (v := 0) (pc := 90) dX12_readClause_90 (by decide) ?_
          refine V.invV0 (as := [_]) (pc := 91) dX12_readClause_91 lX12_272 bX12_readExpression nX12_readExpression (ci := 11) rfl eX12_readExpression hM.o (c_exprS (d := d + 0) (N := N) (tt := tt) (r := (i + 1, false, C, v, P, oo)) hM (zf2.tp hT) zr2 (zf2.wd hW) hok1 rfl g3 (Or.inr rfl)) (by omega) rfl (Nat.le_of_ble_eq_true rfl) ?_
          rintro _ _ _ I2 J2 _ ⟨rfl, rfl, rfl, rfl, f2, hr2, ho2⟩
          simp only [r_i, r_b, r_C, r_v, r_P, r_o] at hr2 ho2
          rw [g4] at hr2 ho2
          have y15 : I2 m 15 = nI (l.length + 1) := by rw [f2.2.1 15 (by omega), up2_ne (by omega), up2_same]
          have y6 : I2 (m + 6) = up2 (up2 IZ m 15 (nI (l.length + 1))) (m + 6) (8 * l.length + 3) (nI C.1) (m + 6) := f2.1 (m + 6) (by omega) (by omega)
          have y3 : I2 (m + 6) (8 * l.length + 3) = nI C.1 := by rw [y6, up2_same]
          have yl : ∀ k, k < 8 * l.length → I2 (m + 6) k = I (m + 6) k := fun k hk => by rw [y6, up2_ne (by omega), up2_off (by omega)]; exact zl k hk
          refine V.aload_n (pc := 94) dX12_readClause_94 rfl ?_
          refine V.getR (pc := 95) dX12_readClause_95 fX12_30_11 rfl hM.o hM.f16 ?_
          refine V.iload_n (pc := 98) dX12_readClause_98 rfl ?_
          refine V.iconst (v := 4) (pc := 99) dX12_readClause_99 (by decide) ?_
          refine V.iadd (pc := 100) dX12_readClause_100 ?_
          rw [show (4 : Int32) = nI 4 from rfl, nI_add]
          refine V.aload_n (pc := 101) dX12_readClause_101 rfl ?_
          refine V.getI (pc := 102) dX12_readClause_102 fX12_188_11 rfl hM.o ?_
          rw [show I2 m 17 = _ from hr2.2.2.2.1.1]
          refine V.iast' (k := 8 * l.length + 4) (pc := 105) dX12_readClause_105 hM.t16 rfl (by omega) (by decide) ?_
          refine V.aload_n (pc := 106) dX12_readClause_106 rfl ?_
          refine V.getR (pc := 107) dX12_readClause_107 fX12_30_11 rfl hM.o hM.f16 ?_
          refine V.iload_n (pc := 110) dX12_readClause_110 rfl ?_
          refine V.iconst (v := 5) (pc := 111) dX12_readClause_111 (by decide) ?_
          refine V.iadd (pc := 112) dX12_readClause_112 ?_
          rw [show (5 : Int32) = nI 5 from rfl, nI_add]
          refine V.aload_n (pc := 113) dX12_readClause_113 rfl ?_
          refine V.getI (pc := 114) dX12_readClause_114 fX12_188_11 rfl hM.o ?_
          rw [up2_off (by omega), show I2 m 17 = _ from hr2.2.2.2.1.1]
          refine V.iast' (k := 8 * l.length + 5) (pc := 117) dX12_readClause_117 hM.t16 rfl (by omega) (by decide) ?_
          refine V.aload_n (pc := 118) dX12_readClause_118 rfl ?_
          refine V.getI (pc := 119) dX12_readClause_119 fX12_151_11 rfl hM.o ?_
          rw [up2_off (by omega), up2_off (by omega), show I2 m 14 = 0 from hr2.2.1]
          refine V.if_ne 144 (pc := 122) dX12_readClause_122 (by decide) (fun h122 => absurd rfl h122) (fun h122 => ?_)
          refine V.aload_n (pc := 125) dX12_readClause_125 rfl ?_
          refine V.ldc2 (pc := 126) dX12_readClause_126 qX12_275 ?_
          refine V.pV (as := [_]) (pc := 129) dX12_readClause_129 lX12_209 bX12_isWord nX12_isWord (ci := 11) rfl eX12_isWord hM.o (c_isWord (d := d + 6) (N := N) (i := j0) (tt := tt) (w := 294) _ hM (hr2.keep (fun k hk => by rw [up2_off (by omega), up2_off (by omega)]) (fun b _ _ => by rw [up2_off (by omega), up2_off (by omega)])).1 hT.2.1 (by decide) rfl) (by omega) rfl (Nat.le_of_ble_eq_true rfl) ?_
          rw [bi_c (wn_258 (fun i _ => hT.2.1 i)), bi_f q258]
          refine V.if_eq 144 (pc := 132) dX12_readClause_132 (by decide) (fun h132 => ?_) (fun h132 => absurd rfl h132)
          refine V.aload_n (pc := 144) dX12_readClause_144 rfl ?_
          refine V.getR (pc := 145) dX12_readClause_145 fX12_30_11 rfl hM.o hM.f16 ?_
          refine V.iload_n (pc := 148) dX12_readClause_148 rfl ?_
          refine V.bipush (v := 6) (pc := 149) dX12_readClause_149 (by decide) ?_
          refine V.iadd (pc := 151) dX12_readClause_151 ?_
          rw [show (6 : Int32) = nI 6 from rfl, nI_add]
          refine V.aload_n (pc := 152) dX12_readClause_152 rfl ?_
          refine V.getI (pc := 153) dX12_readClause_153 fX12_188_11 rfl hM.o ?_
          rw [up2_off (by omega), up2_off (by omega), show I2 m 17 = _ from hr2.2.2.2.1.1]
          refine V.iast' (k := 8 * l.length + 6) (pc := 156) dX12_readClause_156 hM.t16 rfl (by omega) (by decide) ?_
          exact V.vret (pc := 157) dX12_readClause_157 rfl ⟨rfl, rfl, rfl, rfl, (((zf2.tr f2.g).up (by omega)).up (by omega)).up (by omega), fun j q cl e => (by rw [eD] at e; cases e; exact ⟨h12, C2, C2.1, hr2.keep (fun k hk => by rw [up2_off (by omega), up2_off (by omega), up2_off (by omega)]) (fun b _ _ => by rw [up2_off (by omega), up2_off (by omega), up2_off (by omega)]), ho2, g5, ⟨g5.1, Nat.le_refl _, g6, rfl⟩, (hl.add (by simp (disch := omega) only [up2_off, up2_ne, up2_same]; exact y15) (fun k hk => by simp (disch := omega) only [up2_off, up2_ne, up2_same]; exact yl k hk) (by simp (disch := omega) only [up2_off, up2_ne, up2_same]; exact y3) (by simp (disch := omega) only [up2_off, up2_ne, up2_same]) (by simp (disch := omega) only [up2_off, up2_ne, up2_same]) (by simp (disch := omega) only [up2_off, up2_ne, up2_same]))⟩), fun j q e => (by rw [eD] at e; cases e)⟩
  · have eD : dClause (kdT tt N) (nmT tt N) i v = (i, v, none) := by rw [dClause, if_neg qa]
    refine V.aload_n (pc := 0) dX12_readClause_0 rfl ?_
    refine V.aload_n (pc := 1) dX12_readClause_1 rfl ?_
    refine V.ldc2 (pc := 2) dX12_readClause_2 qX12_267 ?_
    refine V.pV (as := [_]) (pc := 5) dX12_readClause_5 lX12_209 bX12_isWord nX12_isWord (ci := 11) rfl eX12_isWord hM.o (c_isWord (d := d + 6) (N := N) (i := i) (tt := tt) (w := 20201203) _ hM hr.1 hT.2.1 (by decide) rfl) (by omega) rfl (Nat.le_of_ble_eq_true rfl) ?_
    rw [bi_c (wn_257 (fun i _ => hT.2.1 i)), bi_f qa]
    refine V.if_eq 24 (pc := 8) dX12_readClause_8 (by decide) (fun h8 => ?_) (fun h8 => absurd rfl h8)
    refine V.iconst (v := 0) (pc := 24) dX12_readClause_24 (by decide) ?_
    refine V.invV0 (as := [_]) (pc := 25) dX12_readClause_25 lX12_184 bX12_must nX12_must (ci := 11) rfl eX12_must hM.o (c_mustN (d := d + 4) (N := N) (tt := tt) hM hT hr rfl) (by omega) rfl (Nat.le_of_ble_eq_true rfl) ?_
    rintro _ _ _ I1 J1 _ ⟨rfl, rfl, rfl, rfl, f1, hr1⟩
    refine V.aload_n (pc := 28) dX12_readClause_28 rfl ?_
    refine V.getI (pc := 29) dX12_readClause_29 fX12_151_11 rfl hM.o ?_
    rw [show I1 m 14 = 1 from hr1.2.1]
    refine V.if_eq 36 (pc := 32) dX12_readClause_32 (by decide) (fun h32 => absurd h32 (by decide)) (fun h32 => ?_)
    exact V.vret (pc := 35) dX12_readClause_35 rfl ⟨rfl, rfl, rfl, rfl, f1.g, fun j q cl e => (by rw [eD] at e; cases e), fun j q e => (by rw [eD] at e; cases e; exact ⟨_, _, _, _, hr1⟩)⟩
