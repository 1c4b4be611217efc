theorem bnd_le (x : Nat) : bnd x ≤ 6 := by
  unfold bnd
  repeat' split
  all_goals decide
theorem srtT_le {t : Nat → Nat} {n i : Nat} : srtT t n i ≤ 3 := by
  unfold srtT
  repeat' split
  all_goals decide
theorem srt2_iff {t : Nat → Nat} {n i : Nat} (ht : ∀ i, i < n → t i ≤ 255) : srtT t n i = 2 ↔ kdT t n i = 300 := by
  unfold srtT kdT
  by_cases q : n ≤ frT t n i
  · rw [if_pos q, if_pos q]; omega
  · rw [if_neg q, if_neg q]
    have := ht (frT t n i) (by omega)
    by_cases q1 : isSm t (frT t n i) = true
    · rw [if_pos q1, if_pos q1]
      have := (wkd_bd (wlr t (frT t n i) (posT t n (i + 1) - frT t n i))).2.2
      omega
    · rw [if_neg q1, if_neg q1]
      by_cases q2 : isDg t (frT t n i) = true
      · rw [if_pos q2, if_pos q2]; omega
      · rw [if_neg q2, if_neg q2]; omega
theorem srt0_iff {t : Nat → Nat} {n i : Nat} : srtT t n i = 0 ↔ kdT t n i = -1 := by
  by_cases q : frT t n i < n
  · have h1 := kdT_pos q
    constructor
    · intro h
      unfold srtT at h
      rw [if_neg (by omega)] at h
      split at h
      · omega
      · split at h <;> omega
    · intro h; omega
  · have h2 := (frT_bd (t := t) (n := n) i).2
    have h3 : frT t n i = n := by omega
    rw [kdT_end h3, (srt0 h3).1]
    simp
theorem c_isSign {g : gG} {d : Nat} {T : mT} {n : Nat} {I : mI} {J : mJ} {F : mF} {m N i c : Nat} {tt : Nat → Nat} (x : Int32) (hM : MS T F m) (hk : TkM tt N i I J m) (ht : ∀ i, tt i ≤ 255) (hc : c ≤ 255) (hx : x = nI c) : Ct g mX12_isSign (d + 0) [.ref m, .int x] 0 0 T n I J F (pureQ T n I J F (some (.int (bi (kdT tt N i = (c : Int)))))) := by
  refine Ct.ofV (k := 0) (by decide) (Nat.le_of_ble_eq_true rfl) ?_
  show V g mX12_isSign (d + 0) _ 0 0 0 [some (.ref m), some (.int x)] [] T n I J F
  subst hx
  obtain ⟨k1, k2, k3, k4⟩ := hk
  have hb := wrtT_bd (t := tt) (n := N) (i := i) ht
  have hsr := srtT_le (t := tt) (n := N) (i := i)
  have hs := sign_iff (t := tt) (n := N) (i := i) hc
  refine V.aload_n (pc := 0) dX12_isSign_0 rfl ?_
  refine V.getI (pc := 1) dX12_isSign_1 fX12_171_11 rfl hM.o ?_
  rw [k3]
  refine V.iconst (v := 3) (pc := 4) dX12_isSign_4 (by decide) ?_
  refine V.icmp_ne 22 (pc := 5) dX12_isSign_5 (by decide) (fun h5 => ?_) (fun h5 => ?_)
  · rw [L3, nI_eq (by omega) (by omega)] at h5
    refine V.iconst (v := 0) (pc := 22) dX12_isSign_22 (by decide) ?_
    exact V.zret (pc := 23) dX12_isSign_23 rfl (by first | exact Or.inl rfl | exact Or.inr rfl | exact bi_or | assumption) ⟨by rw [bi_f (fun z => h5 (hs.mpr z).1)], rfl, rfl, rfl, rfl, rfl⟩
  · rw [L3, nI_eq (by omega) (by omega)] at h5
    refine V.aload_n (pc := 8) dX12_isSign_8 rfl ?_
    refine V.getJ (pc := 9) dX12_isSign_9 fX12_161_11 rfl hM.o ?_
    rw [k4]
    refine V.iload_n (pc := 12) dX12_isSign_12 rfl ?_
    refine V.i2l (pc := 13) dX12_isSign_13 ?_
    rw [nI_l (by omega), ← lI_nat]
    refine V.lcmp_ne 22 (pc := 14) dX12_isSign_14 dX12_isSign_15 (by decide) (fun h14 => ?_) (fun h14 => ?_)
    · rw [← Int64.toInt_inj, lI_toInt (by omega) (by omega), lI_toInt (by omega) (by omega)] at h14
      refine V.iconst (v := 0) (pc := 22) dX12_isSign_22 (by decide) ?_
      exact V.zret (pc := 23) dX12_isSign_23 rfl (by first | exact Or.inl rfl | exact Or.inr rfl | exact bi_or | assumption) ⟨by rw [bi_f (fun z => h14 (hs.mpr z).2)], rfl, rfl, rfl, rfl, rfl⟩
    · rw [← Int64.toInt_inj, lI_toInt (by omega) (by omega), lI_toInt (by omega) (by omega)] at h14
      refine V.iconst (v := 1) (pc := 18) dX12_isSign_18 (by decide) ?_
      refine V.goto 23 (pc := 19) dX12_isSign_19 (by decide) ?_
      exact V.zret (pc := 23) dX12_isSign_23 rfl (by first | exact Or.inl rfl | exact Or.inr rfl | exact bi_or | assumption) ⟨by rw [bi_t (hs.mp ⟨h5, h14⟩)], rfl, rfl, rfl, rfl, rfl⟩
theorem c_isWord {g : gG} {d : Nat} {T : mT} {n : Nat} {I : mI} {J : mJ} {F : mF} {m N i w : Nat} {tt : Nat → Nat} (x : Int64) (hM : MS T F m) (hk : TkM tt N i I J m) (ht : ∀ i, tt i ≤ 255) (hw : w < 2 ^ 60) (hx : x = lN w) : Ct g mX12_isWord (d + 0) [.ref m, .long x] 0 0 T n I J F (pureQ T n I J F (some (.int (bi (srtT tt N i = 1 ∧ wrtT tt N i = (w : Int)))))) := by
  refine Ct.ofV (k := 0) (by decide) (Nat.le_of_ble_eq_true rfl) ?_
  show V g mX12_isWord (d + 0) _ 0 0 0 [some (.ref m), some (.long x), none] [] T n I J F
  subst hx
  obtain ⟨k1, k2, k3, k4⟩ := hk
  have hb := wrtT_bd (t := tt) (n := N) (i := i) ht
  have hsr := srtT_le (t := tt) (n := N) (i := i)
  refine V.aload_n (pc := 0) dX12_isWord_0 rfl ?_
  refine V.getI (pc := 1) dX12_isWord_1 fX12_171_11 rfl hM.o ?_
  rw [k3]
  refine V.iconst (v := 1) (pc := 4) dX12_isWord_4 (by decide) ?_
  refine V.icmp_ne 21 (pc := 5) dX12_isWord_5 (by decide) (fun h5 => ?_) (fun h5 => ?_)
  · rw [L1, nI_eq (by omega) (by omega)] at h5
    refine V.iconst (v := 0) (pc := 21) dX12_isWord_21 (by decide) ?_
    exact V.zret (pc := 22) dX12_isWord_22 rfl (by first | exact Or.inl rfl | exact Or.inr rfl | exact bi_or | assumption) ⟨by rw [bi_f (fun z => h5 z.1)], rfl, rfl, rfl, rfl, rfl⟩
  · rw [L1, nI_eq (by omega) (by omega)] at h5
    refine V.aload_n (pc := 8) dX12_isWord_8 rfl ?_
    refine V.getJ (pc := 9) dX12_isWord_9 fX12_161_11 rfl hM.o ?_
    rw [k4]
    refine V.lload_n (pc := 12) dX12_isWord_12 rfl ?_
    rw [← lI_nat]
    refine V.lcmp_ne 21 (pc := 13) dX12_isWord_13 dX12_isWord_14 (by decide) (fun h13 => ?_) (fun h13 => ?_)
    · rw [← Int64.toInt_inj, lI_toInt (by omega) (by omega), lI_toInt (by omega) (by omega)] at h13
      refine V.iconst (v := 0) (pc := 21) dX12_isWord_21 (by decide) ?_
      exact V.zret (pc := 22) dX12_isWord_22 rfl (by first | exact Or.inl rfl | exact Or.inr rfl | exact bi_or | assumption) ⟨by rw [bi_f (fun z => h13 z.2)], rfl, rfl, rfl, rfl, rfl⟩
    · rw [← Int64.toInt_inj, lI_toInt (by omega) (by omega), lI_toInt (by omega) (by omega)] at h13
      refine V.iconst (v := 1) (pc := 17) dX12_isWord_17 (by decide) ?_
      refine V.goto 22 (pc := 18) dX12_isWord_18 (by decide) ?_
      exact V.zret (pc := 22) dX12_isWord_22 rfl (by first | exact Or.inl rfl | exact Or.inr rfl | exact bi_or | assumption) ⟨by rw [bi_t ⟨h5, h13⟩], rfl, rfl, rfl, rfl, rfl⟩
theorem c_mustY {g : gG} {d : Nat} {T : mT} {n : Nat} {I : mI} {J : mJ} {F : mF} {m N : Nat} {tt : Nat → Nat} {r : RS} (x : Int32) (hM : MS T F m) (hT : TpM tt N I m) (hr : RdM tt N r I J m) (hb : r_b r = false) (hx : ¬ x = 0) : Ct g mX12_must (d + 2) [.ref m, .int x] 0 0 T n I J F (fun r' T' n' I' J' F' => r' = none ∧ T' = T ∧ n' = n ∧ F' = F ∧ PrF m I J I' J' ∧ RdM tt N ((r_i r + 1, r_b r, r_C r, r_v r, r_P r, r_o r)) I' J' m) := by
  refine Ct.ofV (k := 0) (by decide) (Nat.le_of_ble_eq_true rfl) ?_
  show V g mX12_must (d + 2) _ 0 0 0 [some (.ref m), some (.int x)] [] T n I J F
  have e14 : I m 14 = 0 := by
    rw [hr.2.1, hb]
    rfl
  refine V.aload_n (pc := 0) dX12_must_0 rfl ?_
  refine V.getI (pc := 1) dX12_must_1 fX12_151_11 rfl hM.o ?_
  rw [e14]
  refine V.if_ne 24 (pc := 4) dX12_must_4 (by decide) (fun h4 => absurd rfl h4) (fun h4 => ?_)
  refine V.iload_n (pc := 7) dX12_must_7 rfl ?_
  refine V.if_ne 24 (pc := 8) dX12_must_8 (by decide) (fun h8 => ?_) (fun h8 => absurd h8 hx)
  refine V.aload_n (pc := 24) dX12_must_24 rfl ?_
  refine V.getI (pc := 25) dX12_must_25 fX12_151_11 rfl hM.o ?_
  rw [e14]
  refine V.if_ne 35 (pc := 28) dX12_must_28 (by decide) (fun h28 => absurd rfl h28) (fun h28 => ?_)
  refine V.aload_n (pc := 31) dX12_must_31 rfl ?_
  refine V.invV0 (as := []) (pc := 32) dX12_must_32 lX12_155 bX12_next nX12_next (ci := 11) rfl eX12_next hM.o (c_next (d := d + 0) (N := N) (tt := tt) (i := r_i r + 1) hM hT hr.1.2.1) (by omega) rfl (Nat.le_of_ble_eq_true rfl) ?_
  rintro _ _ _ I1 J1 _ ⟨rfl, rfl, rfl, rfl, f1, k1⟩
  exact V.vret (pc := 35) dX12_must_35 rfl ⟨rfl, rfl, rfl, rfl, f1.pr, hr.nx hb f1 k1⟩
theorem c_mustN {g : gG} {d : Nat} {T : mT} {n : Nat} {I : mI} {J : mJ} {F : mF} {m N : Nat} {tt : Nat → Nat} {r : RS} (hM : MS T F m) (hT : TpM tt N I m) (hr : RdM tt N r I J m) (hb : r_b r = false) : Ct g mX12_must (d + 2) [.ref m, .int 0] 0 0 T n I J F (fun r' T' n' I' J' F' => r' = none ∧ T' = T ∧ n' = n ∧ F' = F ∧ PrF m I J I' J' ∧ RdM tt N (badR r) I' J' m) := by
  refine Ct.ofV (k := 0) (by decide) (Nat.le_of_ble_eq_true rfl) ?_
  show V g mX12_must (d + 2) _ 0 0 0 [some (.ref m), some (.int 0)] [] T n I J F
  have e14 : I m 14 = 0 := by
    rw [hr.2.1, hb]
    rfl
  refine V.aload_n (pc := 0) dX12_must_0 rfl ?_
  refine V.getI (pc := 1) dX12_must_1 fX12_151_11 rfl hM.o ?_
  rw [e14]
  refine V.if_ne 24 (pc := 4) dX12_must_4 (by decide) (fun h4 => absurd rfl h4) (fun h4 => ?_)
  refine V.iload_n (pc := 7) dX12_must_7 rfl ?_
  refine V.if_ne 24 (pc := 8) dX12_must_8 (by decide) (fun h8 => absurd rfl h8) (fun h8 => ?_)
  refine V.aload_n (pc := 11) dX12_must_11 rfl ?_
  refine V.iconst (v := 1) (pc := 12) dX12_must_12 (by decide) ?_
  refine V.putZ (pc := 13) dX12_must_13 fX12_151_11 (fun r h => by cases h; exact Or.inl rfl) rfl (by first | exact Or.inl rfl | exact Or.inr rfl | assumption) hM.o ?_
  refine V.aload_n (pc := 16) dX12_must_16 rfl ?_
  refine V.aload_n (pc := 17) dX12_must_17 rfl ?_
  refine V.getI (pc := 18) dX12_must_18 fX12_158_11 rfl hM.o ?_
  rw [up2_ne (by omega), hr.1.1]
  refine V.putI (pc := 21) dX12_must_21 fX12_26_11 (fun r h => by cases h; exact Or.inl rfl) rfl hM.o ?_
  refine V.aload_n (pc := 24) dX12_must_24 rfl ?_
  refine V.getI (pc := 25) dX12_must_25 fX12_151_11 rfl hM.o ?_
  rw [up2_ne (by omega), up2_same]
  refine V.if_ne 35 (pc := 28) dX12_must_28 (by decide) (fun h28 => ?_) (fun h28 => absurd h28 (by decide))
  exact V.vret (pc := 35) dX12_must_35 rfl ⟨rfl, rfl, rfl, rfl, (PrF.rf.up (by omega)).up (by omega), hr.bad⟩
theorem c_emit {g : gG} {d : Nat} {T : mT} {n : Nat} {I : mI} {J : mJ} {F : mF} {m N : Nat} {tt : Nat → Nat} {r : RS} {op ar : Nat} (x y : Int32) (hM : MS T F m) (hT : TpM tt N I m) (hr : RdM tt N r I J m) (hx : x = nI op) (hy : y = nI ar) (hc : (r_C r).1 < 400) : Ct g mX12_emit (d + 0) [.ref m, .int x, .int y] 0 0 T n I J F (fun r' T' n' I' J' F' => r' = none ∧ T' = T ∧ n' = n ∧ F' = F ∧ PrF m I J I' J' ∧ J' = J ∧ RdM tt N ((r_i r, r_b r, emC (r_C r) (op, ar), r_v r, r_P r, r_o r)) I' J' m) := by
  refine Ct.ofV (k := 0) (by decide) (Nat.le_of_ble_eq_true rfl) ?_
  show V g mX12_emit (d + 0) _ 0 0 0 [some (.ref m), some (.int x), some (.int y)] [] T n I J F
  subst hx hy
  have e17 := hr.2.2.2.1.1
  refine V.aload_n (pc := 0) dX12_emit_0 rfl ?_
  refine V.getR (pc := 1) dX12_emit_1 fX12_33_11 rfl hM.o hM.f18 ?_
  refine V.aload_n (pc := 4) dX12_emit_4 rfl ?_
  refine V.getI (pc := 5) dX12_emit_5 fX12_188_11 rfl hM.o ?_
  rw [e17]
  refine V.iload_n (pc := 8) dX12_emit_8 rfl ?_
  refine V.iast' (k := (r_C r).1) (pc := 9) dX12_emit_9 hM.t18 rfl (by omega) (by decide) ?_
  refine V.aload_n (pc := 10) dX12_emit_10 rfl ?_
  refine V.getR (pc := 11) dX12_emit_11 fX12_36_11 rfl hM.o hM.f19 ?_
  refine V.aload_n (pc := 14) dX12_emit_14 rfl ?_
  refine V.getI (pc := 15) dX12_emit_15 fX12_188_11 rfl hM.o ?_
  rw [up2_off (by omega), e17]
  refine V.iload_n (pc := 18) dX12_emit_18 rfl ?_
  refine V.iast' (k := (r_C r).1) (pc := 19) dX12_emit_19 hM.t19 rfl (by omega) (by decide) ?_
  refine V.aload_n (pc := 20) dX12_emit_20 rfl ?_
  refine V.dup (pc := 21) dX12_emit_21 rfl ?_
  refine V.getI (pc := 22) dX12_emit_22 fX12_188_11 rfl hM.o ?_
  rw [up2_off (by omega), up2_off (by omega), e17]
  refine V.iconst (v := 1) (pc := 25) dX12_emit_25 (by decide) ?_
  refine V.iadd (pc := 26) dX12_emit_26 ?_
  rw [nI_1]
  refine V.putI (pc := 27) dX12_emit_27 fX12_188_11 (fun r h => by cases h; exact Or.inl rfl) rfl hM.o ?_
  exact V.vret (pc := 30) dX12_emit_30 rfl ⟨rfl, rfl, rfl, rfl, ((PrF.rf.up (by omega)).up (by omega)).up (by omega), rfl, hr.em⟩
theorem c_push {g : gG} {d : Nat} {T : mT} {n : Nat} {I : mI} {J : mJ} {F : mF} {m N : Nat} {tt : Nat → Nat} {r : RS} {op ar : Nat} (x y : Int32) (hM : MS T F m) (hT : TpM tt N I m) (hr : RdM tt N r I J m) (hx : x = nI op) (hy : y = nI ar) (hc : (r_P r).length < 400) : Ct g mX12_push (d + 0) [.ref m, .int x, .int y] 0 0 T n I J F (fun r' T' n' I' J' F' => r' = none ∧ T' = T ∧ n' = n ∧ F' = F ∧ PrF m I J I' J' ∧ RdM tt N ((r_i r, r_b r, r_C r, r_v r, (op, ar) :: r_P r, r_o r)) I' J' m) := by
  refine Ct.ofV (k := 0) (by decide) (Nat.le_of_ble_eq_true rfl) ?_
  show V g mX12_push (d + 0) _ 0 0 0 [some (.ref m), some (.int x), some (.int y)] [] T n I J F
  subst hx hy
  have e23 := hr.2.2.2.2.2.1
  refine V.aload_n (pc := 0) dX12_push_0 rfl ?_
  refine V.getR (pc := 1) dX12_push_1 fX12_39_11 rfl hM.o hM.f21 ?_
  refine V.aload_n (pc := 4) dX12_push_4 rfl ?_
  refine V.getI (pc := 5) dX12_push_5 fX12_191_11 rfl hM.o ?_
  rw [e23]
  refine V.iload_n (pc := 8) dX12_push_8 rfl ?_
  refine V.iast' (k := (r_P r).length) (pc := 9) dX12_push_9 hM.t21 rfl (by omega) (by decide) ?_
  refine V.aload_n (pc := 10) dX12_push_10 rfl ?_
  refine V.getR (pc := 11) dX12_push_11 fX12_42_11 rfl hM.o hM.f22 ?_
  refine V.aload_n (pc := 14) dX12_push_14 rfl ?_
  refine V.getI (pc := 15) dX12_push_15 fX12_191_11 rfl hM.o ?_
  rw [up2_off (by omega), e23]
  refine V.iload_n (pc := 18) dX12_push_18 rfl ?_
  refine V.iast' (k := (r_P r).length) (pc := 19) dX12_push_19 hM.t22 rfl (by omega) (by decide) ?_
  refine V.aload_n (pc := 20) dX12_push_20 rfl ?_
  refine V.dup (pc := 21) dX12_push_21 rfl ?_
  refine V.getI (pc := 22) dX12_push_22 fX12_191_11 rfl hM.o ?_
  rw [up2_off (by omega), up2_off (by omega), e23]
  refine V.iconst (v := 1) (pc := 25) dX12_push_25 (by decide) ?_
  refine V.iadd (pc := 26) dX12_push_26 ?_
  rw [nI_1]
  refine V.putI (pc := 27) dX12_push_27 fX12_191_11 (fun r h => by cases h; exact Or.inl rfl) rfl hM.o ?_
  exact V.vret (pc := 30) dX12_push_30 rfl ⟨rfl, rfl, rfl, rfl, ((PrF.rf.up (by omega)).up (by omega)).up (by omega), hr.pu⟩
theorem c_binds {g : gG} {d : Nat} {T : mT} {n : Nat} {I : mI} {J : mJ} {F : mF} {op : Nat} (x : Int32) (hx : x = nI op) (ho : op < 100) : Ct g mX12_binds (d + 0) [.int x] 0 0 T n I J F (pureQ T n I J F (some (.int (nI (bnd op))))) := by
  refine Ct.ofV (k := 0) (by decide) (Nat.le_of_ble_eq_true rfl) ?_
  show V g mX12_binds (d + 0) _ 0 0 0 [some (.int x)] [] T n I J F
  subst hx
  refine V.iload_n (pc := 0) dX12_binds_0 rfl ?_
  refine V.bipush (v := 30) (pc := 1) dX12_binds_1 (by decide) ?_
  refine V.icmp_lt 10 (pc := 3) dX12_binds_3 (by decide) (fun h3 => ?_) (fun h3 => ?_)
  · rw [show (30 : Int32) = nI 30 from rfl, nI_ltI (by omega) (by omega)] at h3
    refine V.iload_n (pc := 10) dX12_binds_10 rfl ?_
    refine V.bipush (v := 29) (pc := 11) dX12_binds_11 (by decide) ?_
    refine V.icmp_ne 20 (pc := 13) dX12_binds_13 (by decide) (fun h13 => ?_) (fun h13 => ?_)
    · rw [show (29 : Int32) = nI 29 from rfl, nI_eq (by omega) (by omega)] at h13
      refine V.iload_n (pc := 20) dX12_binds_20 rfl ?_
      refine V.bipush (v := 28) (pc := 21) dX12_binds_21 (by decide) ?_
      refine V.icmp_ne 30 (pc := 23) dX12_binds_23 (by decide) (fun h23 => ?_) (fun h23 => ?_)
      · rw [show (28 : Int32) = nI 28 from rfl, nI_eq (by omega) (by omega)] at h23
        refine V.iload_n (pc := 30) dX12_binds_30 rfl ?_
        refine V.bipush (v := 27) (pc := 31) dX12_binds_31 (by decide) ?_
        refine V.icmp_ne 40 (pc := 33) dX12_binds_33 (by decide) (fun h33 => ?_) (fun h33 => ?_)
        · rw [show (27 : Int32) = nI 27 from rfl, nI_eq (by omega) (by omega)] at h33
          refine V.iload_n (pc := 40) dX12_binds_40 rfl ?_
          refine V.bipush (v := 24) (pc := 41) dX12_binds_41 (by decide) ?_
          refine V.icmp_lt 50 (pc := 43) dX12_binds_43 (by decide) (fun h43 => ?_) (fun h43 => ?_)
          · rw [show (24 : Int32) = nI 24 from rfl, nI_ltI (by omega) (by omega)] at h43
            refine V.iload_n (pc := 50) dX12_binds_50 rfl ?_
            refine V.bipush (v := 21) (pc := 51) dX12_binds_51 (by decide) ?_
            refine V.icmp_lt 61 (pc := 53) dX12_binds_53 (by decide) (fun h53 => ?_) (fun h53 => ?_)
            · rw [show (21 : Int32) = nI 21 from rfl, nI_ltI (by omega) (by omega)] at h53
              refine V.iconst (v := 5) (pc := 61) dX12_binds_61 (by decide) ?_
              exact V.iret (pc := 62) dX12_binds_62 rfl ⟨by unfold bnd; (repeat' split) <;> first | rfl | omega, rfl, rfl, rfl, rfl, rfl⟩
            · rw [show (21 : Int32) = nI 21 from rfl, nI_ltI (by omega) (by omega)] at h53
              refine V.bipush (v := 6) (pc := 56) dX12_binds_56 (by decide) ?_
              refine V.goto 62 (pc := 58) dX12_binds_58 (by decide) ?_
              exact V.iret (pc := 62) dX12_binds_62 rfl ⟨by unfold bnd; (repeat' split) <;> first | rfl | omega, rfl, rfl, rfl, rfl, rfl⟩
          · rw [show (24 : Int32) = nI 24 from rfl, nI_ltI (by omega) (by omega)] at h43
            refine V.iconst (v := 4) (pc := 46) dX12_binds_46 (by decide) ?_
            refine V.goto 62 (pc := 47) dX12_binds_47 (by decide) ?_
            exact V.iret (pc := 62) dX12_binds_62 rfl ⟨by unfold bnd; (repeat' split) <;> first | rfl | omega, rfl, rfl, rfl, rfl, rfl⟩
        · rw [show (27 : Int32) = nI 27 from rfl, nI_eq (by omega) (by omega)] at h33
          refine V.iconst (v := 3) (pc := 36) dX12_binds_36 (by decide) ?_
          refine V.goto 62 (pc := 37) dX12_binds_37 (by decide) ?_
          exact V.iret (pc := 62) dX12_binds_62 rfl ⟨by unfold bnd; (repeat' split) <;> first | rfl | omega, rfl, rfl, rfl, rfl, rfl⟩
      · rw [show (28 : Int32) = nI 28 from rfl, nI_eq (by omega) (by omega)] at h23
        refine V.iconst (v := 2) (pc := 26) dX12_binds_26 (by decide) ?_
        refine V.goto 62 (pc := 27) dX12_binds_27 (by decide) ?_
        exact V.iret (pc := 62) dX12_binds_62 rfl ⟨by unfold bnd; (repeat' split) <;> first | rfl | omega, rfl, rfl, rfl, rfl, rfl⟩
    · rw [show (29 : Int32) = nI 29 from rfl, nI_eq (by omega) (by omega)] at h13
      refine V.iconst (v := 1) (pc := 16) dX12_binds_16 (by decide) ?_
      refine V.goto 62 (pc := 17) dX12_binds_17 (by decide) ?_
      exact V.iret (pc := 62) dX12_binds_62 rfl ⟨by unfold bnd; (repeat' split) <;> first | rfl | omega, rfl, rfl, rfl, rfl, rfl⟩
  · rw [show (30 : Int32) = nI 30 from rfl, nI_ltI (by omega) (by omega)] at h3
    refine V.iconst (v := 0) (pc := 6) dX12_binds_6 (by decide) ?_
    refine V.goto 62 (pc := 7) dX12_binds_7 (by decide) ?_
    exact V.iret (pc := 62) dX12_binds_62 rfl ⟨by unfold bnd; (repeat' split) <;> first | rfl | omega, rfl, rfl, rfl, rfl, rfl⟩
theorem l_settle {g : gG} {d : Nat} {T : mT} {n : Nat} {I : mI} {J : mJ} {F : mF} {Q : mQ} {m N i v oo L : Nat} {tt : Nat → Nat} {bb : Bool} {P0 : Pl} {C0 : Cd} (hM : MS T F m) (hT : TpM tt N I m) (hi : i ≤ 400) (hL : L < 100) (kk : ∀ I2 : mI, PrF m I J I2 J → RdM tt N (i, bb, (stl L P0 C0).2, v, (stl L P0 C0).1, oo) I2 J m → V g mX12_settle (d + 1) Q 0 0 101 [some (.ref m), some (.int (nI L))] [] T n I2 J F) : ∀ (P : Pl) (C : Cd) (I' : mI), RdM tt N (i, bb, C, v, P, oo) I' J m → Inv i C P → PrF m I J I' J → stl L P C = stl L P0 C0 → V g mX12_settle (d + 1) Q 0 0 0 [some (.ref m), some (.int (nI L))] [] T n I' J F := by
  intro P
  induction P with
  | nil =>
    intro C I' hr hv hf hs
    have e23 : I' m 23 = nI 0 := hr.2.2.2.2.2.1
    refine V.aload_n (pc := 0) dX12_settle_0 rfl ?_
    refine V.getI (pc := 1) dX12_settle_1 fX12_191_11 rfl hM.o ?_
    rw [e23]
    refine V.if_le 101 (pc := 4) dX12_settle_4 (by decide) (fun h4 => ?_) (fun h4 => absurd (by decide) h4)
    exact kk I' hf (by rw [← hs]; exact hr)
  | cons q P ih =>
    intro C I' hr hv hf hs
    have e23 : I' m 23 = nI (P.length + 1) := hr.2.2.2.2.2.1
    have hp : (I' (m + 9) P.length = nI q.1 ∧ I' (m + 10) P.length = nI q.2) ∧ PlM I' m P := hr.2.2.2.2.2.2.1
    have e17 : I' m 17 = nI C.1 := hr.2.2.2.1.1
    have hln : P.length + 1 ≤ i := hv.2.1
    have hq := hv.2.2.1 q List.mem_cons_self
    have hC := hv.1
    have hpo := hv.pop hi
    have hT2 := hf.tp hT
    refine V.aload_n (pc := 0) dX12_settle_0 rfl ?_
    refine V.getI (pc := 1) dX12_settle_1 fX12_191_11 rfl hM.o ?_
    rw [e23]
    refine V.if_le 101 (pc := 4) dX12_settle_4 (by decide) (fun h4 => absurd h4 (nI_nle (by omega) (by omega))) (fun h4 => ?_)
    refine V.aload_n (pc := 7) dX12_settle_7 rfl ?_
    refine V.getR (pc := 8) dX12_settle_8 fX12_39_11 rfl hM.o hM.f21 ?_
    refine V.aload_n (pc := 11) dX12_settle_11 rfl ?_
    refine V.getI (pc := 12) dX12_settle_12 fX12_191_11 rfl hM.o ?_
    rw [e23]
    refine V.iconst (v := 1) (pc := 15) dX12_settle_15 (by decide) ?_
    refine V.isub (pc := 16) dX12_settle_16 ?_
    rw [nI_pred]
    refine V.iald' (k := P.length) (pc := 17) dX12_settle_17 hM.t21 rfl (by omega) (by decide) ?_
    rw [hp.1.1]
    refine V.pS (as := [_]) (pc := 18) dX12_settle_18 lX12_194 bX12_binds sX12_binds (c_binds (d := d + 0) (op := q.1) _ rfl (by omega)) (by omega) rfl (Nat.le_of_ble_eq_true rfl) ?_
    refine V.iload_n (pc := 21) dX12_settle_21 rfl ?_
    refine V.icmp_lt 101 (pc := 22) dX12_settle_22 (by decide) (fun h22 => ?_) (fun h22 => ?_)
    · rw [nI_ltI (by have := bnd_le q.1; omega) (by omega)] at h22
      exact kk I' hf (by rw [← hs, stl_c, if_neg (by omega)]; exact hr)
    · rw [nI_ltI (by have := bnd_le q.1; omega) (by omega)] at h22
      refine V.aload_n (pc := 25) dX12_settle_25 rfl ?_
      refine V.dup (pc := 26) dX12_settle_26 rfl ?_
      refine V.getI (pc := 27) dX12_settle_27 fX12_191_11 rfl hM.o ?_
      rw [e23]
      refine V.iconst (v := 1) (pc := 30) dX12_settle_30 (by decide) ?_
      refine V.isub (pc := 31) dX12_settle_31 ?_
      rw [nI_pred]
      refine V.putI (pc := 32) dX12_settle_32 fX12_191_11 (fun r h => by cases h; exact Or.inl rfl) rfl hM.o ?_
      refine V.aload_n (pc := 35) dX12_settle_35 rfl ?_
      refine V.getR (pc := 36) dX12_settle_36 fX12_39_11 rfl hM.o hM.f21 ?_
      refine V.aload_n (pc := 39) dX12_settle_39 rfl ?_
      refine V.getI (pc := 40) dX12_settle_40 fX12_191_11 rfl hM.o ?_
      rw [up2_same]
      refine V.iald' (k := P.length) (pc := 43) dX12_settle_43 hM.t21 rfl (by omega) (by decide) ?_
      rw [up2_off (by omega), hp.1.1]
      refine V.bipush (v := 28) (pc := 44) dX12_settle_44 (by decide) ?_
      refine V.icmp_eq 63 (pc := 46) dX12_settle_46 (by decide) (fun h46 => ?_) (fun h46 => ?_)
      · rw [show (28 : Int32) = nI 28 from rfl, nI_eq (by omega) (by omega)] at h46
        refine V.aload_n (pc := 63) dX12_settle_63 rfl ?_
        refine V.getR (pc := 64) dX12_settle_64 fX12_36_11 rfl hM.o hM.f19 ?_
        refine V.aload_n (pc := 67) dX12_settle_67 rfl ?_
        refine V.getR (pc := 68) dX12_settle_68 fX12_42_11 rfl hM.o hM.f22 ?_
        refine V.aload_n (pc := 71) dX12_settle_71 rfl ?_
        refine V.getI (pc := 72) dX12_settle_72 fX12_191_11 rfl hM.o ?_
        rw [up2_same]
        refine V.iald' (k := P.length) (pc := 75) dX12_settle_75 hM.t22 rfl (by omega) (by decide) ?_
        rw [up2_off (by omega), hp.1.2]
        refine V.aload_n (pc := 76) dX12_settle_76 rfl ?_
        refine V.getI (pc := 77) dX12_settle_77 fX12_188_11 rfl hM.o ?_
        rw [up2_ne (by omega), e17]
        refine V.iast' (k := q.2) (pc := 80) dX12_settle_80 hM.t19 rfl (by omega) (by decide) ?_
        refine V.goto 0 (pc := 81) dX12_settle_81 (by decide) ?_
        have hz : q.1 = 28 ∨ q.1 = 29 := by omega
        rw [if_pos hz] at hpo
        exact ih _ _ (hr.aim (q := q) (P := P) rfl (hq.2.2 hz)) hpo ((hf.up (by omega)).up (by omega)) (by rw [← hs, stl_c2, if_pos (by omega), if_pos hz])
      · rw [show (28 : Int32) = nI 28 from rfl, nI_eq (by omega) (by omega)] at h46
        refine V.aload_n (pc := 49) dX12_settle_49 rfl ?_
        refine V.getR (pc := 50) dX12_settle_50 fX12_39_11 rfl hM.o hM.f21 ?_
        refine V.aload_n (pc := 53) dX12_settle_53 rfl ?_
        refine V.getI (pc := 54) dX12_settle_54 fX12_191_11 rfl hM.o ?_
        rw [up2_same]
        refine V.iald' (k := P.length) (pc := 57) dX12_settle_57 hM.t21 rfl (by omega) (by decide) ?_
        rw [up2_off (by omega), hp.1.1]
        refine V.bipush (v := 29) (pc := 58) dX12_settle_58 (by decide) ?_
        refine V.icmp_ne 84 (pc := 60) dX12_settle_60 (by decide) (fun h60 => ?_) (fun h60 => ?_)
        · rw [show (29 : Int32) = nI 29 from rfl, nI_eq (by omega) (by omega)] at h60
          refine V.aload_n (pc := 84) dX12_settle_84 rfl ?_
          refine V.aload_n (pc := 85) dX12_settle_85 rfl ?_
          refine V.getR (pc := 86) dX12_settle_86 fX12_39_11 rfl hM.o hM.f21 ?_
          refine V.aload_n (pc := 89) dX12_settle_89 rfl ?_
          refine V.getI (pc := 90) dX12_settle_90 fX12_191_11 rfl hM.o ?_
          rw [up2_same]
          refine V.iald' (k := P.length) (pc := 93) dX12_settle_93 hM.t21 rfl (by omega) (by decide) ?_
          rw [up2_off (by omega), hp.1.1]
          refine V.iconst (v := 0) (pc := 94) dX12_settle_94 (by decide) ?_
          refine V.invV0 (as := [_, _]) (pc := 95) dX12_settle_95 lX12_197 bX12_emit nX12_emit (ci := 11) rfl eX12_emit hM.o (c_emit (d := d + 0) (N := N) (tt := tt) (op := q.1) (ar := 0) _ _ hM ((hf.up (by omega)).tp hT) (hr.set (P := P) (fun b hb => up2_off hb) (fun k h1 h2 h3 => up2_ne (by omega)) (by rw [up2_ne (by omega)]; exact hr.2.2.2.2.1) up2_same (by rw [up2_ne (by omega)]; exact hr.2.2.2.2.2.2.2) hp.2) rfl rfl (by show C.1 < 400; rw [if_neg (show ¬ (q.1 = 28 ∨ q.1 = 29) by omega)] at hpo; have h9 : C.1 + 1 + emc P ≤ i := hpo.1; omega)) (by omega) rfl (Nat.le_of_ble_eq_true rfl) ?_
          rintro _ _ _ I3 J3 _ ⟨rfl, rfl, rfl, rfl, f3, rfl, hr3⟩
          refine V.goto 0 (pc := 98) dX12_settle_98 (by decide) ?_
          have hz : ¬ (q.1 = 28 ∨ q.1 = 29) := by omega
          rw [if_neg hz] at hpo
          exact ih _ _ hr3 hpo ((hf.up (by omega)).tr f3) (by rw [← hs, stl_c2, if_pos (by omega), if_neg hz])
        · rw [show (29 : Int32) = nI 29 from rfl, nI_eq (by omega) (by omega)] at h60
          refine V.aload_n (pc := 63) dX12_settle_63 rfl ?_
          refine V.getR (pc := 64) dX12_settle_64 fX12_36_11 rfl hM.o hM.f19 ?_
          refine V.aload_n (pc := 67) dX12_settle_67 rfl ?_
          refine V.getR (pc := 68) dX12_settle_68 fX12_42_11 rfl hM.o hM.f22 ?_
          refine V.aload_n (pc := 71) dX12_settle_71 rfl ?_
          refine V.getI (pc := 72) dX12_settle_72 fX12_191_11 rfl hM.o ?_
          rw [up2_same]
          refine V.iald' (k := P.length) (pc := 75) dX12_settle_75 hM.t22 rfl (by omega) (by decide) ?_
          rw [up2_off (by omega), hp.1.2]
          refine V.aload_n (pc := 76) dX12_settle_76 rfl ?_
          refine V.getI (pc := 77) dX12_settle_77 fX12_188_11 rfl hM.o ?_
          rw [up2_ne (by omega), e17]
          refine V.iast' (k := q.2) (pc := 80) dX12_settle_80 hM.t19 rfl (by omega) (by decide) ?_
          refine V.goto 0 (pc := 81) dX12_settle_81 (by decide) ?_
          have hz : q.1 = 28 ∨ q.1 = 29 := by omega
          rw [if_pos hz] at hpo
          exact ih _ _ (hr.aim (q := q) (P := P) rfl (hq.2.2 hz)) hpo ((hf.up (by omega)).up (by omega)) (by rw [← hs, stl_c2, if_pos (by omega), if_pos hz])
theorem c_settle {g : gG} {d : Nat} {T : mT} {n : Nat} {I : mI} {J : mJ} {F : mF} {m N : Nat} {tt : Nat → Nat} {r : RS} {L : Nat} (x : Int32) (hM : MS T F m) (hT : TpM tt N I m) (hr : RdM tt N r I J m) (hi : r_i r ≤ 400) (hv : Inv (r_i r) (r_C r) (r_P r)) (hx : x = nI L) (hL : L < 100) : Ct g mX12_settle (d + 1) [.ref m, .int x] 0 0 T n I J F (fun r' T' n' I' J' F' => r' = none ∧ T' = T ∧ n' = n ∧ F' = F ∧ PrF m I J I' J' ∧ J' = J ∧ RdM tt N ((r_i r, r_b r, (stl L (r_P r) (r_C r)).2, r_v r, (stl L (r_P r) (r_C r)).1, r_o r)) I' J' m) := by
  refine Ct.ofV (k := 0) (by decide) (Nat.le_of_ble_eq_true rfl) ?_
  show V g mX12_settle (d + 1) _ 0 0 0 [some (.ref m), some (.int x)] [] T n I J F
  subst hx
  refine l_settle hM hT hi hL (fun I2 f2 hr2 => ?_) (r_P r) (r_C r) I hr hv PrF.rf rfl
  exact V.vret (pc := 101) dX12_settle_101 rfl ⟨rfl, rfl, rfl, rfl, f2, rfl, hr2⟩
  skip
def ivn (x : Nat) : Int := if x = 0 then -1 else (x : Int)
theorem inr_lt : ∀ (P : Pl), (∀ q ∈ P, q.1 < 32) → inr P < 32
  | [], _ => by decide
  | q :: P, h => by
    rw [inr]
    split
    · exact h q List.mem_cons_self
    · exact inr_lt P (fun z hz => h z (List.mem_cons_of_mem _ hz))
theorem inr_30 : ∀ (P : Pl), inr P = 0 ∨ 30 ≤ inr P
  | [] => Or.inl rfl
  | q :: P => by
    rw [inr]
    split
    · right; assumption
    · exact inr_30 P
theorem l_inner {g : gG} {d : Nat} {T : mT} {n : Nat} {I : mI} {J : mJ} {F : mF} {Q : mQ} {m N : Nat} {tt : Nat → Nat} {r : RS} (hM : MS T F m) (hr : RdM tt N r I J m) (h4 : (r_P r).length ≤ 400) (h32 : ∀ q ∈ r_P r, q.1 < 32) (kk : V g mX12_inner (d + 0) Q 0 0 40 [some (.ref m), some (.int (iI (ivn (inr (r_P r))))), some (.int (nI (r_P r).length))] [] T n I J F) : ∀ (t : Nat) (X B : Pl), r_P r = X ++ B → X.length = t → V g mX12_inner (d + 0) Q 0 0 4 [some (.ref m), some (.int (iI (ivn (inr B)))), some (.int (nI B.length))] [] T n I J F := by
  have e23 := hr.2.2.2.2.2.1
  intro t
  induction t with
  | zero =>
    intro X B he hx
    obtain rfl : X = [] := List.length_eq_zero_iff.mp hx
    rw [List.nil_append] at he
    subst he
    refine V.iload_n (pc := 4) dX12_inner_4 rfl ?_
    refine V.aload_n (pc := 5) dX12_inner_5 rfl ?_
    refine V.getI (pc := 6) dX12_inner_6 fX12_191_11 rfl hM.o ?_
    rw [e23]
    refine V.icmp_ge 40 (pc := 9) dX12_inner_9 (by decide) (fun h9 => ?_) (fun h9 => absurd (nI_le (Nat.le_refl _) (by omega)) h9)
    exact kk
  | succ t ih =>
    intro X B he hx
    have hlen : (r_P r).length = X.length + B.length := by rw [he, List.length_append]
    obtain ⟨X', q, B', e1, e2, e3, -⟩ := PlM.get (r_P r) B.length hr.2.2.2.2.2.2.1 (by omega)
    have e4 : X = X' ++ [q] ∧ B = B' := by
      have e5 : (X' ++ [q]) ++ B' = X ++ B := by rw [List.append_assoc, List.singleton_append, ← e1, he]
      have e6 := List.append_inj' e5 (by omega)
      exact ⟨e6.1.symm, e6.2.symm⟩
    obtain ⟨rfl, rfl⟩ := e4
    have hq : q.1 < 32 := h32 q (by rw [he]; exact List.mem_append_left _ (List.mem_append_right _ List.mem_cons_self))
    rw [List.length_append, List.length_singleton] at hx hlen
    have hih := ih X' (q :: B) (by rw [he, List.append_assoc, List.singleton_append]) (by omega)
    rw [List.length_cons, inr] at hih
    refine V.iload_n (pc := 4) dX12_inner_4 rfl ?_
    refine V.aload_n (pc := 5) dX12_inner_5 rfl ?_
    refine V.getI (pc := 6) dX12_inner_6 fX12_191_11 rfl hM.o ?_
    rw [e23]
    refine V.icmp_ge 40 (pc := 9) dX12_inner_9 (by decide) (fun h9 => absurd h9 (nI_ge (by omega) (by omega))) (fun h9 => ?_)
    refine V.aload_n (pc := 12) dX12_inner_12 rfl ?_
    refine V.getR (pc := 13) dX12_inner_13 fX12_39_11 rfl hM.o hM.f21 ?_
    refine V.iload_n (pc := 16) dX12_inner_16 rfl ?_
    refine V.iald' (k := B.length) (pc := 17) dX12_inner_17 hM.t21 rfl (by omega) (by decide) ?_
    rw [e3]
    refine V.bipush (v := 30) (pc := 18) dX12_inner_18 (by decide) ?_
    refine V.icmp_lt 32 (pc := 20) dX12_inner_20 (by decide) (fun h20 => ?_) (fun h20 => ?_)
    · rw [show (30 : Int32) = nI 30 from rfl, nI_ltI (by omega) (by omega)] at h20
      refine V.iload_n (pc := 32) dX12_inner_32 rfl ?_
      refine V.isn (pc := 33) dX12_inner_33 (by decide) (st1_1 rfl) ?_
      refine V.iinc1 (pc := 34) dX12_inner_34 (by decide) rfl (st1_2 rfl) ?_
      refine V.goto 4 (pc := 37) dX12_inner_37 (by decide) ?_
      rw [if_neg (by omega)] at hih
      rw [nI_1]
      exact hih
    · rw [show (30 : Int32) = nI 30 from rfl, nI_ltI (by omega) (by omega)] at h20
      refine V.aload_n (pc := 23) dX12_inner_23 rfl ?_
      refine V.getR (pc := 24) dX12_inner_24 fX12_39_11 rfl hM.o hM.f21 ?_
      refine V.iload_n (pc := 27) dX12_inner_27 rfl ?_
      refine V.iald' (k := B.length) (pc := 28) dX12_inner_28 hM.t21 rfl (by omega) (by decide) ?_
      rw [e3]
      refine V.goto 33 (pc := 29) dX12_inner_29 (by decide) ?_
      refine V.isn (pc := 33) dX12_inner_33 (by decide) (st1_1 rfl) ?_
      refine V.iinc1 (pc := 34) dX12_inner_34 (by decide) rfl (st1_2 rfl) ?_
      refine V.goto 4 (pc := 37) dX12_inner_37 (by decide) ?_
      rw [if_pos (by omega)] at hih
      unfold ivn at hih
      rw [if_neg (by omega), iI_nat] at hih
      rw [nI_1]
      exact hih
theorem c_inner {g : gG} {d : Nat} {T : mT} {n : Nat} {I : mI} {J : mJ} {F : mF} {m N : Nat} {tt : Nat → Nat} {r : RS} (hM : MS T F m) (hr : RdM tt N r I J m) (h4 : (r_P r).length ≤ 400) (h32 : ∀ q ∈ r_P r, q.1 < 32) : Ct g mX12_inner (d + 0) [.ref m] 0 0 T n I J F (pureQ T n I J F (some (.int (iI (ivn (inr (r_P r))))))) := by
  refine Ct.ofV (k := 2) (by decide) (Nat.le_of_ble_eq_true rfl) ?_
  show V g mX12_inner (d + 0) _ 0 0 0 [some (.ref m), none, none] [] T n I J F
  refine V.iconst (v := (-1)) (pc := 0) dX12_inner_0 (by decide) ?_
  refine V.isn (pc := 1) dX12_inner_1 (by decide) (st1_1 rfl) ?_
  refine V.iconst (v := 0) (pc := 2) dX12_inner_2 (by decide) ?_
  refine V.isn (pc := 3) dX12_inner_3 (by decide) (st1_2 rfl) ?_
  refine l_inner hM hr h4 h32 ?_ _ (r_P r) [] (List.append_nil _).symm rfl
  refine V.iload_n (pc := 40) dX12_inner_40 rfl ?_
  exact V.iret (pc := 41) dX12_inner_41 rfl ⟨rfl, rfl, rfl, rfl, rfl, rfl⟩
theorem iI_lt0 {z : Int} (h1 : -2147483648 ≤ z) (h2 : z ≤ 2147483647) : iI z < 0 ↔ z < 0 := by rw [lt32, iI_toInt h1 h2]; exact Iff.rfl
theorem c_in2 {x lo hi : Nat} (h1 : x < 2 ^ 31) (h2 : lo < 2 ^ 31) (h3 : hi < 2 ^ 31) : (lN lo ≤ lN x ∧ lN x ≤ lN hi) ↔ (lo ≤ x ∧ x ≤ hi) := by rw [lN_leL (by omega) (by omega), lN_leL (by omega) (by omega)]
theorem l_cmp {g : gG} {d : Nat} {T : mT} {n : Nat} {I : mI} {J : mJ} {F : mF} {Q : mQ} {m N : Nat} {tt : Nat → Nat} {r : RS} (hM : MS T F m) (hr : RdM tt N r I J m) (h4 : (r_P r).length ≤ 400) (h32 : ∀ q ∈ r_P r, q.1 < 32) (kk : Q (some (.int (bi (cpd (r_P r) = true)))) T n I J F) : ∀ (B X : Pl), r_P r = X ++ B → cpd (r_P r) = cpd B → V g mX12_isCompared (d + 1) Q 0 0 7 [some (.ref m), some (.int (iI ((B.length : Int) - 1)))] [] T n I J F := by
  intro B
  induction B with
  | nil =>
    intro X he hc
    have hk0 := kk
    rw [hc] at hk0
    refine V.iload_n (pc := 7) dX12_isCompared_7 rfl ?_
    refine V.if_lt 36 (pc := 8) dX12_isCompared_8 (by decide) (fun h8 => ?_) (fun h8 => absurd (by decide) h8)
    refine V.iload_n (pc := 36) dX12_isCompared_36 rfl ?_
    refine V.if_lt 63 (pc := 37) dX12_isCompared_37 (by decide) (fun h37 => ?_) (fun h37 => absurd (by decide) h37)
    refine V.iconst (v := 0) (pc := 63) dX12_isCompared_63 (by decide) ?_
    exact V.zret (pc := 64) dX12_isCompared_64 rfl (by first | exact Or.inl rfl | exact Or.inr rfl | exact bi_or | assumption) hk0
  | cons q B ih =>
    intro X he hc
    have hlen : (r_P r).length = X.length + (B.length + 1) := by rw [he, List.length_append, List.length_cons]
    have hq : q.1 < 32 := h32 q (by rw [he]; exact List.mem_append_right _ List.mem_cons_self)
    obtain ⟨X', q', B', e1, e2, e3, -⟩ := PlM.get (r_P r) B.length hr.2.2.2.2.2.2.1 (by omega)
    have e5 : X' ++ q' :: B' = X ++ q :: B := by rw [← e1, he]
    have e6 := List.append_inj' e5 (by rw [List.length_cons, List.length_cons, e2])
    have e7 := List.cons.inj e6.2
    rw [e7.1] at e3
    have hk : iI (((q :: B).length : Int) - 1) = nI B.length := by rw [← iI_nat, List.length_cons]; congr 1; omega
    rw [hk]
    have hk0 := kk
    rw [hc, cpd] at hk0
    have hc2 : cpd (q :: B) = if 19 ≤ q.1 ∧ q.1 ≤ 23 then cpd B else decide (24 ≤ q.1 ∧ q.1 ≤ 26) := rfl
    refine V.iload_n (pc := 7) dX12_isCompared_7 rfl ?_
    refine V.if_lt 36 (pc := 8) dX12_isCompared_8 (by decide) (fun h8 => absurd h8 (nI_pos (by omega))) (fun h8 => ?_)
    refine V.aload_n (pc := 11) dX12_isCompared_11 rfl ?_
    refine V.getR (pc := 12) dX12_isCompared_12 fX12_39_11 rfl hM.o hM.f21 ?_
    refine V.iload_n (pc := 15) dX12_isCompared_15 rfl ?_
    refine V.iald' (k := B.length) (pc := 16) dX12_isCompared_16 hM.t21 rfl (by omega) (by decide) ?_
    rw [e3]
    refine V.i2l (pc := 17) dX12_isCompared_17 ?_
    refine V.ldc2 (pc := 18) dX12_isCompared_18 qX12_201 ?_
    refine V.ldc2 (pc := 21) dX12_isCompared_21 qX12_203 ?_
    refine V.pS (as := [_, _, _]) (pc := 24) dX12_isCompared_24 lX12_98 bX12_in sX12_in (c_in (d := d + 0) _ _ _) (by omega) rfl (Nat.le_of_ble_eq_true rfl) ?_
    rw [nI_l (by omega), show (19 : Int64) = lN 19 from rfl, show (23 : Int64) = lN 23 from rfl, bi_c (c_in2 (by omega) (by decide) (by decide))]
    refine V.if_eq 36 (pc := 27) dX12_isCompared_27 (by decide) (fun h27 => ?_) (fun h27 => ?_)
    · have z1 := bi_eq.mp h27
      rw [if_neg z1] at hk0
      refine V.iload_n (pc := 36) dX12_isCompared_36 rfl ?_
      refine V.if_lt 63 (pc := 37) dX12_isCompared_37 (by decide) (fun h37 => absurd h37 (nI_pos (by omega))) (fun h37 => ?_)
      refine V.aload_n (pc := 40) dX12_isCompared_40 rfl ?_
      refine V.getR (pc := 41) dX12_isCompared_41 fX12_39_11 rfl hM.o hM.f21 ?_
      refine V.iload_n (pc := 44) dX12_isCompared_44 rfl ?_
      refine V.iald' (k := B.length) (pc := 45) dX12_isCompared_45 hM.t21 rfl (by omega) (by decide) ?_
      rw [e3]
      refine V.i2l (pc := 46) dX12_isCompared_46 ?_
      refine V.ldc2 (pc := 47) dX12_isCompared_47 qX12_205 ?_
      refine V.ldc2 (pc := 50) dX12_isCompared_50 qX12_207 ?_
      refine V.pS (as := [_, _, _]) (pc := 53) dX12_isCompared_53 lX12_98 bX12_in sX12_in (c_in (d := d + 0) _ _ _) (by omega) rfl (Nat.le_of_ble_eq_true rfl) ?_
      rw [nI_l (by omega), show (24 : Int64) = lN 24 from rfl, show (26 : Int64) = lN 26 from rfl, bi_c (c_in2 (by omega) (by decide) (by decide))]
      refine V.if_eq 63 (pc := 56) dX12_isCompared_56 (by decide) (fun h56 => ?_) (fun h56 => ?_)
      · have z2 := bi_eq.mp h56
        rw [decide_eq_false z2] at hk0
        refine V.iconst (v := 0) (pc := 63) dX12_isCompared_63 (by decide) ?_
        exact V.zret (pc := 64) dX12_isCompared_64 rfl (by first | exact Or.inl rfl | exact Or.inr rfl | exact bi_or | assumption) hk0
      · have z2 := bi_ne.mp h56
        rw [decide_eq_true z2] at hk0
        refine V.iconst (v := 1) (pc := 59) dX12_isCompared_59 (by decide) ?_
        refine V.goto 64 (pc := 60) dX12_isCompared_60 (by decide) ?_
        exact V.zret (pc := 64) dX12_isCompared_64 rfl (by first | exact Or.inl rfl | exact Or.inr rfl | exact bi_or | assumption) hk0
    · have z1 := bi_ne.mp h27
      refine V.iinc (v := _ + (-1)) (pc := 30) dX12_isCompared_30 (by decide) rfl rfl (st1_1 rfl) ?_
      refine V.goto 7 (pc := 33) dX12_isCompared_33 (by decide) ?_
      rw [if_pos z1] at hc2
      have hih := ih (X ++ [q]) (by rw [he, List.append_assoc, List.singleton_append]) (by rw [hc, hc2])
      rw [show iI ((B.length : Int) - 1) = nI B.length + -1 by rw [← iI_nat, show (-1 : Int32) = iI (-1) from rfl, iI_add]; rfl] at hih
      exact hih
theorem c_isCompared {g : gG} {d : Nat} {T : mT} {n : Nat} {I : mI} {J : mJ} {F : mF} {m N : Nat} {tt : Nat → Nat} {r : RS} (hM : MS T F m) (hr : RdM tt N r I J m) (h4 : (r_P r).length ≤ 400) (h32 : ∀ q ∈ r_P r, q.1 < 32) : Ct g mX12_isCompared (d + 1) [.ref m] 0 0 T n I J F (pureQ T n I J F (some (.int (bi (cpd (r_P r) = true))))) := by
  refine Ct.ofV (k := 1) (by decide) (Nat.le_of_ble_eq_true rfl) ?_
  show V g mX12_isCompared (d + 1) _ 0 0 0 [some (.ref m), none] [] T n I J F
  refine V.aload_n (pc := 0) dX12_isCompared_0 rfl ?_
  refine V.getI (pc := 1) dX12_isCompared_1 fX12_191_11 rfl hM.o ?_
  rw [hr.2.2.2.2.2.1]
  refine V.iconst (v := 1) (pc := 4) dX12_isCompared_4 (by decide) ?_
  refine V.isub (pc := 5) dX12_isCompared_5 ?_
  rw [← iI_nat, show (1 : Int32) = iI 1 from rfl, iI_sub]
  refine V.isn (pc := 6) dX12_isCompared_6 (by decide) (st1_1 rfl) ?_
  exact l_cmp hM hr h4 h32 ⟨rfl, rfl, rfl, rfl, rfl, rfl⟩ (r_P r) [] rfl rfl
