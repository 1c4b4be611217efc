def WdM (J : mJ) (m : Nat) : Prop := J (m + 11) 0 = 4153 ∧ J (m + 11) 1 = 263620 ∧ J (m + 11) 2 = 13683059 ∧ J (m + 11) 3 = 677454 ∧ J (m + 11) 4 = 509824180
theorem PrF.wd {m : Nat} {I I' : mI} {J J' : mJ} (h : PrF m I J I' J') (hW : WdM J m) : WdM J' m := by unfold WdM; rw [h.2.2.1 _ (by omega)]; exact hW
theorem ivn_31 {x : Nat} (h : x < 32) : iI (ivn x) = 31 ↔ x = 31 := by
  rw [show (31 : Int32) = iI 31 from rfl, ← Int32.toInt_inj]
  unfold ivn
  split
  · rw [iI_toInt (by omega) (by omega), iI_toInt (by omega) (by omega)]; omega
  · rw [iI_toInt (by omega) (by omega), iI_toInt (by omega) (by omega)]; omega
theorem ivn_m1 {x : Nat} (h : x < 32) : iI (ivn x) = -1 ↔ x = 0 := by
  rw [show (-1 : Int32) = iI (-1) from rfl, ← Int32.toInt_inj]
  unfold ivn
  split
  · rw [iI_toInt (by omega) (by omega)]; omega
  · rw [iI_toInt (by omega) (by omega), iI_toInt (by omega) (by omega)]; omega
theorem aop_none {k : Int} (h1 : k ≠ 43) (h2 : k ≠ 45) (h3 : k ≠ 42) (h4 : k ≠ 47) (h5 : k ≠ 37) : aop k = 0 := aop_no (by unfold addOp; rw [if_neg h1, if_neg h2]) (by unfold mulOp; rw [if_neg h3, if_neg h4, if_neg h5])
theorem cmpOp_none {k : Int} (h1 : k ≠ 60) (h2 : k ≠ 62) (h3 : k ≠ 61) : cmpOp k = 0 := by unfold cmpOp; rw [if_neg h1, if_neg h2, if_neg h3]
theorem wn_257 {t : Nat → Nat} {n i : Nat} (ht : ∀ i, i < n → t i ≤ 255) : (srtT t n i = 1 ∧ wrtT t n i = ((20201203 : Nat) : Int)) ↔ kdT t n i = 257 := wd_257 ht
theorem wn_258 {t : Nat → Nat} {n i : Nat} (ht : ∀ i, i < n → t i ≤ 255) : (srtT t n i = 1 ∧ wrtT t n i = ((294 : Nat) : Int)) ↔ kdT t n i = 258 := wd_258 ht
theorem wn_259 {t : Nat → Nat} {n i : Nat} (ht : ∀ i, i < n → t i ≤ 255) : (srtT t n i = 1 ∧ wrtT t n i = ((498 : Nat) : Int)) ↔ kdT t n i = 259 := wd_259 ht
theorem wn_260 {t : Nat → Nat} {n i : Nat} (ht : ∀ i, i < n → t i ≤ 255) : (srtT t n i = 1 ∧ wrtT t n i = ((1476 : Nat) : Int)) ↔ kdT t n i = 260 := wd_260 ht
theorem wn_261 {t : Nat → Nat} {n i : Nat} (ht : ∀ i, i < n → t i ≤ 255) : (srtT t n i = 1 ∧ wrtT t n i = ((14836 : Nat) : Int)) ↔ kdT t n i = 261 := wd_261 ht
theorem wn_301 {t : Nat → Nat} {n i : Nat} (ht : ∀ i, i < n → t i ≤ 255) : (srtT t n i = 1 ∧ wrtT t n i = ((4153 : Nat) : Int)) ↔ kdT t n i = 301 := wd_301 ht
theorem wn_302 {t : Nat → Nat} {n i : Nat} (ht : ∀ i, i < n → t i ≤ 255) : (srtT t n i = 1 ∧ wrtT t n i = ((263620 : Nat) : Int)) ↔ kdT t n i = 302 := wd_302 ht
theorem wn_303 {t : Nat → Nat} {n i : Nat} (ht : ∀ i, i < n → t i ≤ 255) : (srtT t n i = 1 ∧ wrtT t n i = ((13683059 : Nat) : Int)) ↔ kdT t n i = 303 := wd_303 ht
theorem wn_304 {t : Nat → Nat} {n i : Nat} (ht : ∀ i, i < n → t i ≤ 255) : (srtT t n i = 1 ∧ wrtT t n i = ((677454 : Nat) : Int)) ↔ kdT t n i = 304 := wd_304 ht
theorem wn_305 {t : Nat → Nat} {n i : Nat} (ht : ∀ i, i < n → t i ≤ 255) : (srtT t n i = 1 ∧ wrtT t n i = ((509824180 : Nat) : Int)) ↔ kdT t n i = 305 := wd_305 ht
theorem c_partAt {g : gG} {d : Nat} {T : mT} {n : Nat} {I : mI} {J : mJ} {F : mF} {m N i : Nat} {tt : Nat → Nat} (hM : MS T F m) (hk : TkM tt N i I J m) (ht : ∀ i, tt i ≤ 255) (hW : WdM J m) : Ct g mX12_partAt (d + 1) [.ref m] 0 0 T n I J F (pureQ T n I J F (some (.int (iI (if 301 ≤ kdT tt N i then kdT tt N i - 300 else -1))))) := by
  refine Ct.ofV (k := 2) (by decide) (Nat.le_of_ble_eq_true rfl) ?_
  show V g mX12_partAt (d + 1) _ 0 0 0 [some (.ref m), none, none] [] T n I J F
  obtain ⟨w0, w1, w2, w3, w4⟩ := hW
  have h305 := kdT_le (t := tt) (n := N) (fun i _ => ht i) i
  by_cases q0 : kdT tt N i = 301
  · have q := q0
    refine V.iconst (v := (-1)) (pc := 0) dX12_partAt_0 (by decide) ?_
    refine V.isn (pc := 1) dX12_partAt_1 (by decide) (st1_1 rfl) ?_
    refine V.iconst (v := 0) (pc := 2) dX12_partAt_2 (by decide) ?_
    refine V.isn (pc := 3) dX12_partAt_3 (by decide) (st1_2 rfl) ?_
    refine V.iload_n (pc := 4) dX12_partAt_4 rfl ?_
    refine V.iconst (v := 5) (pc := 5) dX12_partAt_5 (by decide) ?_
    refine V.icmp_ge 36 (pc := 6) dX12_partAt_6 (by decide) (fun h6 => absurd h6 (by decide)) (fun h6 => ?_)
    refine V.aload_n (pc := 9) dX12_partAt_9 rfl ?_
    refine V.aload_n (pc := 10) dX12_partAt_10 rfl ?_
    refine V.getR (pc := 11) dX12_partAt_11 fX12_55_11 rfl hM.o hM.f25 ?_
    refine V.iload_n (pc := 14) dX12_partAt_14 rfl ?_
    refine V.lald' (k := 0) (pc := 15) dX12_partAt_15 hM.t25 rfl (by decide) (by decide) ?_
    rw [w0]
    refine V.pV (as := [_]) (pc := 16) dX12_partAt_16 lX12_209 bX12_isWord nX12_isWord (ci := 11) rfl eX12_isWord hM.o (c_isWord (d := d + 0) (N := N) (i := i) (tt := tt) (w := 4153) _ hM hk ht (by decide) rfl) (by omega) rfl (Nat.le_of_ble_eq_true rfl) ?_
    rw [bi_c (wn_301 (fun i _ => ht i)), bi_t q]
    refine V.if_eq 28 (pc := 19) dX12_partAt_19 (by decide) (fun h19 => absurd h19 (by decide)) (fun h19 => ?_)
    refine V.iload_n (pc := 22) dX12_partAt_22 rfl ?_
    refine V.iconst (v := 1) (pc := 23) dX12_partAt_23 (by decide) ?_
    refine V.iadd (pc := 24) dX12_partAt_24 ?_
    refine V.goto 29 (pc := 25) dX12_partAt_25 (by decide) ?_
    refine V.isn (pc := 29) dX12_partAt_29 (by decide) (st1_1 rfl) ?_
    refine V.iinc (v := 1) (pc := 30) dX12_partAt_30 (by decide) rfl (by decide) (st1_2 rfl) ?_
    refine V.goto 4 (pc := 33) dX12_partAt_33 (by decide) ?_
    refine V.iload_n (pc := 4) dX12_partAt_4 rfl ?_
    refine V.iconst (v := 5) (pc := 5) dX12_partAt_5 (by decide) ?_
    refine V.icmp_ge 36 (pc := 6) dX12_partAt_6 (by decide) (fun h6 => absurd h6 (by decide)) (fun h6 => ?_)
    refine V.aload_n (pc := 9) dX12_partAt_9 rfl ?_
    refine V.aload_n (pc := 10) dX12_partAt_10 rfl ?_
    refine V.getR (pc := 11) dX12_partAt_11 fX12_55_11 rfl hM.o hM.f25 ?_
    refine V.iload_n (pc := 14) dX12_partAt_14 rfl ?_
    refine V.lald' (k := 1) (pc := 15) dX12_partAt_15 hM.t25 rfl (by decide) (by decide) ?_
    rw [w1]
    refine V.pV (as := [_]) (pc := 16) dX12_partAt_16 lX12_209 bX12_isWord nX12_isWord (ci := 11) rfl eX12_isWord hM.o (c_isWord (d := d + 0) (N := N) (i := i) (tt := tt) (w := 263620) _ hM hk ht (by decide) rfl) (by omega) rfl (Nat.le_of_ble_eq_true rfl) ?_
    rw [bi_c (wn_302 (fun i _ => ht i)), bi_f (by omega)]
    refine V.if_eq 28 (pc := 19) dX12_partAt_19 (by decide) (fun h19 => ?_) (fun h19 => absurd rfl h19)
    refine V.iload_n (pc := 28) dX12_partAt_28 rfl ?_
    refine V.isn (pc := 29) dX12_partAt_29 (by decide) (st1_1 rfl) ?_
    refine V.iinc (v := 2) (pc := 30) dX12_partAt_30 (by decide) rfl (by decide) (st1_2 rfl) ?_
    refine V.goto 4 (pc := 33) dX12_partAt_33 (by decide) ?_
    refine V.iload_n (pc := 4) dX12_partAt_4 rfl ?_
    refine V.iconst (v := 5) (pc := 5) dX12_partAt_5 (by decide) ?_
    refine V.icmp_ge 36 (pc := 6) dX12_partAt_6 (by decide) (fun h6 => absurd h6 (by decide)) (fun h6 => ?_)
    refine V.aload_n (pc := 9) dX12_partAt_9 rfl ?_
    refine V.aload_n (pc := 10) dX12_partAt_10 rfl ?_
    refine V.getR (pc := 11) dX12_partAt_11 fX12_55_11 rfl hM.o hM.f25 ?_
    refine V.iload_n (pc := 14) dX12_partAt_14 rfl ?_
    refine V.lald' (k := 2) (pc := 15) dX12_partAt_15 hM.t25 rfl (by decide) (by decide) ?_
    rw [w2]
    refine V.pV (as := [_]) (pc := 16) dX12_partAt_16 lX12_209 bX12_isWord nX12_isWord (ci := 11) rfl eX12_isWord hM.o (c_isWord (d := d + 0) (N := N) (i := i) (tt := tt) (w := 13683059) _ hM hk ht (by decide) rfl) (by omega) rfl (Nat.le_of_ble_eq_true rfl) ?_
    rw [bi_c (wn_303 (fun i _ => ht i)), bi_f (by omega)]
    refine V.if_eq 28 (pc := 19) dX12_partAt_19 (by decide) (fun h19 => ?_) (fun h19 => absurd rfl h19)
    refine V.iload_n (pc := 28) dX12_partAt_28 rfl ?_
    refine V.isn (pc := 29) dX12_partAt_29 (by decide) (st1_1 rfl) ?_
    refine V.iinc (v := 3) (pc := 30) dX12_partAt_30 (by decide) rfl (by decide) (st1_2 rfl) ?_
    refine V.goto 4 (pc := 33) dX12_partAt_33 (by decide) ?_
    refine V.iload_n (pc := 4) dX12_partAt_4 rfl ?_
    refine V.iconst (v := 5) (pc := 5) dX12_partAt_5 (by decide) ?_
    refine V.icmp_ge 36 (pc := 6) dX12_partAt_6 (by decide) (fun h6 => absurd h6 (by decide)) (fun h6 => ?_)
    refine V.aload_n (pc := 9) dX12_partAt_9 rfl ?_
    refine V.aload_n (pc := 10) dX12_partAt_10 rfl ?_
    refine V.getR (pc := 11) dX12_partAt_11 fX12_55_11 rfl hM.o hM.f25 ?_
    refine V.iload_n (pc := 14) dX12_partAt_14 rfl ?_
    refine V.lald' (k := 3) (pc := 15) dX12_partAt_15 hM.t25 rfl (by decide) (by decide) ?_
    rw [w3]
    refine V.pV (as := [_]) (pc := 16) dX12_partAt_16 lX12_209 bX12_isWord nX12_isWord (ci := 11) rfl eX12_isWord hM.o (c_isWord (d := d + 0) (N := N) (i := i) (tt := tt) (w := 677454) _ hM hk ht (by decide) rfl) (by omega) rfl (Nat.le_of_ble_eq_true rfl) ?_
    rw [bi_c (wn_304 (fun i _ => ht i)), bi_f (by omega)]
    refine V.if_eq 28 (pc := 19) dX12_partAt_19 (by decide) (fun h19 => ?_) (fun h19 => absurd rfl h19)
    refine V.iload_n (pc := 28) dX12_partAt_28 rfl ?_
    refine V.isn (pc := 29) dX12_partAt_29 (by decide) (st1_1 rfl) ?_
    refine V.iinc (v := 4) (pc := 30) dX12_partAt_30 (by decide) rfl (by decide) (st1_2 rfl) ?_
    refine V.goto 4 (pc := 33) dX12_partAt_33 (by decide) ?_
    refine V.iload_n (pc := 4) dX12_partAt_4 rfl ?_
    refine V.iconst (v := 5) (pc := 5) dX12_partAt_5 (by decide) ?_
    refine V.icmp_ge 36 (pc := 6) dX12_partAt_6 (by decide) (fun h6 => absurd h6 (by decide)) (fun h6 => ?_)
    refine V.aload_n (pc := 9) dX12_partAt_9 rfl ?_
    refine V.aload_n (pc := 10) dX12_partAt_10 rfl ?_
    refine V.getR (pc := 11) dX12_partAt_11 fX12_55_11 rfl hM.o hM.f25 ?_
    refine V.iload_n (pc := 14) dX12_partAt_14 rfl ?_
    refine V.lald' (k := 4) (pc := 15) dX12_partAt_15 hM.t25 rfl (by decide) (by decide) ?_
    rw [w4]
    refine V.pV (as := [_]) (pc := 16) dX12_partAt_16 lX12_209 bX12_isWord nX12_isWord (ci := 11) rfl eX12_isWord hM.o (c_isWord (d := d + 0) (N := N) (i := i) (tt := tt) (w := 509824180) _ hM hk ht (by decide) rfl) (by omega) rfl (Nat.le_of_ble_eq_true rfl) ?_
    rw [bi_c (wn_305 (fun i _ => ht i)), bi_f (by omega)]
    refine V.if_eq 28 (pc := 19) dX12_partAt_19 (by decide) (fun h19 => ?_) (fun h19 => absurd rfl h19)
    refine V.iload_n (pc := 28) dX12_partAt_28 rfl ?_
    refine V.isn (pc := 29) dX12_partAt_29 (by decide) (st1_1 rfl) ?_
    refine V.iinc (v := 5) (pc := 30) dX12_partAt_30 (by decide) rfl (by decide) (st1_2 rfl) ?_
    refine V.goto 4 (pc := 33) dX12_partAt_33 (by decide) ?_
    refine V.iload_n (pc := 4) dX12_partAt_4 rfl ?_
    refine V.iconst (v := 5) (pc := 5) dX12_partAt_5 (by decide) ?_
    refine V.icmp_ge 36 (pc := 6) dX12_partAt_6 (by decide) (fun h6 => ?_) (fun h6 => absurd (by decide) h6)
    refine V.iload_n (pc := 36) dX12_partAt_36 rfl ?_
    exact V.iret (pc := 37) dX12_partAt_37 rfl ⟨by rw [q, if_pos (by decide)]; rfl, rfl, rfl, rfl, rfl, rfl⟩
  · by_cases q1 : kdT tt N i = 302
    · have q := q1
      refine V.iconst (v := (-1)) (pc := 0) dX12_partAt_0 (by decide) ?_
      refine V.isn (pc := 1) dX12_partAt_1 (by decide) (st1_1 rfl) ?_
      refine V.iconst (v := 0) (pc := 2) dX12_partAt_2 (by decide) ?_
      refine V.isn (pc := 3) dX12_partAt_3 (by decide) (st1_2 rfl) ?_
      refine V.iload_n (pc := 4) dX12_partAt_4 rfl ?_
      refine V.iconst (v := 5) (pc := 5) dX12_partAt_5 (by decide) ?_
      refine V.icmp_ge 36 (pc := 6) dX12_partAt_6 (by decide) (fun h6 => absurd h6 (by decide)) (fun h6 => ?_)
      refine V.aload_n (pc := 9) dX12_partAt_9 rfl ?_
      refine V.aload_n (pc := 10) dX12_partAt_10 rfl ?_
      refine V.getR (pc := 11) dX12_partAt_11 fX12_55_11 rfl hM.o hM.f25 ?_
      refine V.iload_n (pc := 14) dX12_partAt_14 rfl ?_
      refine V.lald' (k := 0) (pc := 15) dX12_partAt_15 hM.t25 rfl (by decide) (by decide) ?_
      rw [w0]
      refine V.pV (as := [_]) (pc := 16) dX12_partAt_16 lX12_209 bX12_isWord nX12_isWord (ci := 11) rfl eX12_isWord hM.o (c_isWord (d := d + 0) (N := N) (i := i) (tt := tt) (w := 4153) _ hM hk ht (by decide) rfl) (by omega) rfl (Nat.le_of_ble_eq_true rfl) ?_
      rw [bi_c (wn_301 (fun i _ => ht i)), bi_f (by omega)]
      refine V.if_eq 28 (pc := 19) dX12_partAt_19 (by decide) (fun h19 => ?_) (fun h19 => absurd rfl h19)
      refine V.iload_n (pc := 28) dX12_partAt_28 rfl ?_
      refine V.isn (pc := 29) dX12_partAt_29 (by decide) (st1_1 rfl) ?_
      refine V.iinc (v := 1) (pc := 30) dX12_partAt_30 (by decide) rfl (by decide) (st1_2 rfl) ?_
      refine V.goto 4 (pc := 33) dX12_partAt_33 (by decide) ?_
      refine V.iload_n (pc := 4) dX12_partAt_4 rfl ?_
      refine V.iconst (v := 5) (pc := 5) dX12_partAt_5 (by decide) ?_
      refine V.icmp_ge 36 (pc := 6) dX12_partAt_6 (by decide) (fun h6 => absurd h6 (by decide)) (fun h6 => ?_)
      refine V.aload_n (pc := 9) dX12_partAt_9 rfl ?_
      refine V.aload_n (pc := 10) dX12_partAt_10 rfl ?_
      refine V.getR (pc := 11) dX12_partAt_11 fX12_55_11 rfl hM.o hM.f25 ?_
      refine V.iload_n (pc := 14) dX12_partAt_14 rfl ?_
      refine V.lald' (k := 1) (pc := 15) dX12_partAt_15 hM.t25 rfl (by decide) (by decide) ?_
      rw [w1]
      refine V.pV (as := [_]) (pc := 16) dX12_partAt_16 lX12_209 bX12_isWord nX12_isWord (ci := 11) rfl eX12_isWord hM.o (c_isWord (d := d + 0) (N := N) (i := i) (tt := tt) (w := 263620) _ hM hk ht (by decide) rfl) (by omega) rfl (Nat.le_of_ble_eq_true rfl) ?_
      rw [bi_c (wn_302 (fun i _ => ht i)), bi_t q]
      refine V.if_eq 28 (pc := 19) dX12_partAt_19 (by decide) (fun h19 => absurd h19 (by decide)) (fun h19 => ?_)
      refine V.iload_n (pc := 22) dX12_partAt_22 rfl ?_
      refine V.iconst (v := 1) (pc := 23) dX12_partAt_23 (by decide) ?_
      refine V.iadd (pc := 24) dX12_partAt_24 ?_
      refine V.goto 29 (pc := 25) dX12_partAt_25 (by decide) ?_
      refine V.isn (pc := 29) dX12_partAt_29 (by decide) (st1_1 rfl) ?_
      refine V.iinc (v := 2) (pc := 30) dX12_partAt_30 (by decide) rfl (by decide) (st1_2 rfl) ?_
      refine V.goto 4 (pc := 33) dX12_partAt_33 (by decide) ?_
      refine V.iload_n (pc := 4) dX12_partAt_4 rfl ?_
      refine V.iconst (v := 5) (pc := 5) dX12_partAt_5 (by decide) ?_
      refine V.icmp_ge 36 (pc := 6) dX12_partAt_6 (by decide) (fun h6 => absurd h6 (by decide)) (fun h6 => ?_)
      refine V.aload_n (pc := 9) dX12_partAt_9 rfl ?_
      refine V.aload_n (pc := 10) dX12_partAt_10 rfl ?_
      refine V.getR (pc := 11) dX12_partAt_11 fX12_55_11 rfl hM.o hM.f25 ?_
      refine V.iload_n (pc := 14) dX12_partAt_14 rfl ?_
      refine V.lald' (k := 2) (pc := 15) dX12_partAt_15 hM.t25 rfl (by decide) (by decide) ?_
      rw [w2]
      refine V.pV (as := [_]) (pc := 16) dX12_partAt_16 lX12_209 bX12_isWord nX12_isWord (ci := 11) rfl eX12_isWord hM.o (c_isWord (d := d + 0) (N := N) (i := i) (tt := tt) (w := 13683059) _ hM hk ht (by decide) rfl) (by omega) rfl (Nat.le_of_ble_eq_true rfl) ?_
      rw [bi_c (wn_303 (fun i _ => ht i)), bi_f (by omega)]
      refine V.if_eq 28 (pc := 19) dX12_partAt_19 (by decide) (fun h19 => ?_) (fun h19 => absurd rfl h19)
      refine V.iload_n (pc := 28) dX12_partAt_28 rfl ?_
      refine V.isn (pc := 29) dX12_partAt_29 (by decide) (st1_1 rfl) ?_
      refine V.iinc (v := 3) (pc := 30) dX12_partAt_30 (by decide) rfl (by decide) (st1_2 rfl) ?_
      refine V.goto 4 (pc := 33) dX12_partAt_33 (by decide) ?_
      refine V.iload_n (pc := 4) dX12_partAt_4 rfl ?_
      refine V.iconst (v := 5) (pc := 5) dX12_partAt_5 (by decide) ?_
      refine V.icmp_ge 36 (pc := 6) dX12_partAt_6 (by decide) (fun h6 => absurd h6 (by decide)) (fun h6 => ?_)
      refine V.aload_n (pc := 9) dX12_partAt_9 rfl ?_
      refine V.aload_n (pc := 10) dX12_partAt_10 rfl ?_
      refine V.getR (pc := 11) dX12_partAt_11 fX12_55_11 rfl hM.o hM.f25 ?_
      refine V.iload_n (pc := 14) dX12_partAt_14 rfl ?_
      refine V.lald' (k := 3) (pc := 15) dX12_partAt_15 hM.t25 rfl (by decide) (by decide) ?_
      rw [w3]
      refine V.pV (as := [_]) (pc := 16) dX12_partAt_16 lX12_209 bX12_isWord nX12_isWord (ci := 11) rfl eX12_isWord hM.o (c_isWord (d := d + 0) (N := N) (i := i) (tt := tt) (w := 677454) _ hM hk ht (by decide) rfl) (by omega) rfl (Nat.le_of_ble_eq_true rfl) ?_
      rw [bi_c (wn_304 (fun i _ => ht i)), bi_f (by omega)]
      refine V.if_eq 28 (pc := 19) dX12_partAt_19 (by decide) (fun h19 => ?_) (fun h19 => absurd rfl h19)
      refine V.iload_n (pc := 28) dX12_partAt_28 rfl ?_
      refine V.isn (pc := 29) dX12_partAt_29 (by decide) (st1_1 rfl) ?_
      refine V.iinc (v := 4) (pc := 30) dX12_partAt_30 (by decide) rfl (by decide) (st1_2 rfl) ?_
      refine V.goto 4 (pc := 33) dX12_partAt_33 (by decide) ?_
      refine V.iload_n (pc := 4) dX12_partAt_4 rfl ?_
      refine V.iconst (v := 5) (pc := 5) dX12_partAt_5 (by decide) ?_
      refine V.icmp_ge 36 (pc := 6) dX12_partAt_6 (by decide) (fun h6 => absurd h6 (by decide)) (fun h6 => ?_)
      refine V.aload_n (pc := 9) dX12_partAt_9 rfl ?_
      refine V.aload_n (pc := 10) dX12_partAt_10 rfl ?_
      refine V.getR (pc := 11) dX12_partAt_11 fX12_55_11 rfl hM.o hM.f25 ?_
      refine V.iload_n (pc := 14) dX12_partAt_14 rfl ?_
      refine V.lald' (k := 4) (pc := 15) dX12_partAt_15 hM.t25 rfl (by decide) (by decide) ?_
      rw [w4]
      refine V.pV (as := [_]) (pc := 16) dX12_partAt_16 lX12_209 bX12_isWord nX12_isWord (ci := 11) rfl eX12_isWord hM.o (c_isWord (d := d + 0) (N := N) (i := i) (tt := tt) (w := 509824180) _ hM hk ht (by decide) rfl) (by omega) rfl (Nat.le_of_ble_eq_true rfl) ?_
      rw [bi_c (wn_305 (fun i _ => ht i)), bi_f (by omega)]
      refine V.if_eq 28 (pc := 19) dX12_partAt_19 (by decide) (fun h19 => ?_) (fun h19 => absurd rfl h19)
      refine V.iload_n (pc := 28) dX12_partAt_28 rfl ?_
      refine V.isn (pc := 29) dX12_partAt_29 (by decide) (st1_1 rfl) ?_
      refine V.iinc (v := 5) (pc := 30) dX12_partAt_30 (by decide) rfl (by decide) (st1_2 rfl) ?_
      refine V.goto 4 (pc := 33) dX12_partAt_33 (by decide) ?_
      refine V.iload_n (pc := 4) dX12_partAt_4 rfl ?_
      refine V.iconst (v := 5) (pc := 5) dX12_partAt_5 (by decide) ?_
      refine V.icmp_ge 36 (pc := 6) dX12_partAt_6 (by decide) (fun h6 => ?_) (fun h6 => absurd (by decide) h6)
      refine V.iload_n (pc := 36) dX12_partAt_36 rfl ?_
      exact V.iret (pc := 37) dX12_partAt_37 rfl ⟨by rw [q, if_pos (by decide)]; rfl, rfl, rfl, rfl, rfl, rfl⟩
    · by_cases q2 : kdT tt N i = 303
      · have q := q2
        refine V.iconst (v := (-1)) (pc := 0) dX12_partAt_0 (by decide) ?_
        refine V.isn (pc := 1) dX12_partAt_1 (by decide) (st1_1 rfl) ?_
        refine V.iconst (v := 0) (pc := 2) dX12_partAt_2 (by decide) ?_
        refine V.isn (pc := 3) dX12_partAt_3 (by decide) (st1_2 rfl) ?_
        refine V.iload_n (pc := 4) dX12_partAt_4 rfl ?_
        refine V.iconst (v := 5) (pc := 5) dX12_partAt_5 (by decide) ?_
        refine V.icmp_ge 36 (pc := 6) dX12_partAt_6 (by decide) (fun h6 => absurd h6 (by decide)) (fun h6 => ?_)
        refine V.aload_n (pc := 9) dX12_partAt_9 rfl ?_
        refine V.aload_n (pc := 10) dX12_partAt_10 rfl ?_
        refine V.getR (pc := 11) dX12_partAt_11 fX12_55_11 rfl hM.o hM.f25 ?_
        refine V.iload_n (pc := 14) dX12_partAt_14 rfl ?_
        refine V.lald' (k := 0) (pc := 15) dX12_partAt_15 hM.t25 rfl (by decide) (by decide) ?_
        rw [w0]
        refine V.pV (as := [_]) (pc := 16) dX12_partAt_16 lX12_209 bX12_isWord nX12_isWord (ci := 11) rfl eX12_isWord hM.o (c_isWord (d := d + 0) (N := N) (i := i) (tt := tt) (w := 4153) _ hM hk ht (by decide) rfl) (by omega) rfl (Nat.le_of_ble_eq_true rfl) ?_
        rw [bi_c (wn_301 (fun i _ => ht i)), bi_f (by omega)]
        refine V.if_eq 28 (pc := 19) dX12_partAt_19 (by decide) (fun h19 => ?_) (fun h19 => absurd rfl h19)
        refine V.iload_n (pc := 28) dX12_partAt_28 rfl ?_
        refine V.isn (pc := 29) dX12_partAt_29 (by decide) (st1_1 rfl) ?_
        refine V.iinc (v := 1) (pc := 30) dX12_partAt_30 (by decide) rfl (by decide) (st1_2 rfl) ?_
        refine V.goto 4 (pc := 33) dX12_partAt_33 (by decide) ?_
        refine V.iload_n (pc := 4) dX12_partAt_4 rfl ?_
        refine V.iconst (v := 5) (pc := 5) dX12_partAt_5 (by decide) ?_
        refine V.icmp_ge 36 (pc := 6) dX12_partAt_6 (by decide) (fun h6 => absurd h6 (by decide)) (fun h6 => ?_)
        refine V.aload_n (pc := 9) dX12_partAt_9 rfl ?_
        refine V.aload_n (pc := 10) dX12_partAt_10 rfl ?_
        refine V.getR (pc := 11) dX12_partAt_11 fX12_55_11 rfl hM.o hM.f25 ?_
        refine V.iload_n (pc := 14) dX12_partAt_14 rfl ?_
        refine V.lald' (k := 1) (pc := 15) dX12_partAt_15 hM.t25 rfl (by decide) (by decide) ?_
        rw [w1]
        refine V.pV (as := [_]) (pc := 16) dX12_partAt_16 lX12_209 bX12_isWord nX12_isWord (ci := 11) rfl eX12_isWord hM.o (c_isWord (d := d + 0) (N := N) (i := i) (tt := tt) (w := 263620) _ hM hk ht (by decide) rfl) (by omega) rfl (Nat.le_of_ble_eq_true rfl) ?_
        rw [bi_c (wn_302 (fun i _ => ht i)), bi_f (by omega)]
        refine V.if_eq 28 (pc := 19) dX12_partAt_19 (by decide) (fun h19 => ?_) (fun h19 => absurd rfl h19)
        refine V.iload_n (pc := 28) dX12_partAt_28 rfl ?_
        refine V.isn (pc := 29) dX12_partAt_29 (by decide) (st1_1 rfl) ?_
        refine V.iinc (v := 2) (pc := 30) dX12_partAt_30 (by decide) rfl (by decide) (st1_2 rfl) ?_
        refine V.goto 4 (pc := 33) dX12_partAt_33 (by decide) ?_
        refine V.iload_n (pc := 4) dX12_partAt_4 rfl ?_
        refine V.iconst (v := 5) (pc := 5) dX12_partAt_5 (by decide) ?_
        refine V.icmp_ge 36 (pc := 6) dX12_partAt_6 (by decide) (fun h6 => absurd h6 (by decide)) (fun h6 => ?_)
        refine V.aload_n (pc := 9) dX12_partAt_9 rfl ?_
        refine V.aload_n (pc := 10) dX12_partAt_10 rfl ?_
        refine V.getR (pc := 11) dX12_partAt_11 fX12_55_11 rfl hM.o hM.f25 ?_
        refine V.iload_n (pc := 14) dX12_partAt_14 rfl ?_
        refine V.lald' (k := 2) (pc := 15) dX12_partAt_15 hM.t25 rfl (by decide) (by decide) ?_
        rw [w2]
        refine V.pV (as := [_]) (pc := 16) dX12_partAt_16 lX12_209 bX12_isWord nX12_isWord (ci := 11) rfl eX12_isWord hM.o (c_isWord (d := d + 0) (N := N) (i := i) (tt := tt) (w := 13683059) _ hM hk ht (by decide) rfl) (by omega) rfl (Nat.le_of_ble_eq_true rfl) ?_
        rw [bi_c (wn_303 (fun i _ => ht i)), bi_t q]
        refine V.if_eq 28 (pc := 19) dX12_partAt_19 (by decide) (fun h19 => absurd h19 (by decide)) (fun h19 => ?_)
        refine V.iload_n (pc := 22) dX12_partAt_22 rfl ?_
        refine V.iconst (v := 1) (pc := 23) dX12_partAt_23 (by decide) ?_
        refine V.iadd (pc := 24) dX12_partAt_24 ?_
        refine V.goto 29 (pc := 25) dX12_partAt_25 (by decide) ?_
        refine V.isn (pc := 29) dX12_partAt_29 (by decide) (st1_1 rfl) ?_
        refine V.iinc (v := 3) (pc := 30) dX12_partAt_30 (by decide) rfl (by decide) (st1_2 rfl) ?_
        refine V.goto 4 (pc := 33) dX12_partAt_33 (by decide) ?_
        refine V.iload_n (pc := 4) dX12_partAt_4 rfl ?_
        refine V.iconst (v := 5) (pc := 5) dX12_partAt_5 (by decide) ?_
        refine V.icmp_ge 36 (pc := 6) dX12_partAt_6 (by decide) (fun h6 => absurd h6 (by decide)) (fun h6 => ?_)
        refine V.aload_n (pc := 9) dX12_partAt_9 rfl ?_
        refine V.aload_n (pc := 10) dX12_partAt_10 rfl ?_
        refine V.getR (pc := 11) dX12_partAt_11 fX12_55_11 rfl hM.o hM.f25 ?_
        refine V.iload_n (pc := 14) dX12_partAt_14 rfl ?_
        refine V.lald' (k := 3) (pc := 15) dX12_partAt_15 hM.t25 rfl (by decide) (by decide) ?_
        rw [w3]
        refine V.pV (as := [_]) (pc := 16) dX12_partAt_16 lX12_209 bX12_isWord nX12_isWord (ci := 11) rfl eX12_isWord hM.o (c_isWord (d := d + 0) (N := N) (i := i) (tt := tt) (w := 677454) _ hM hk ht (by decide) rfl) (by omega) rfl (Nat.le_of_ble_eq_true rfl) ?_
        rw [bi_c (wn_304 (fun i _ => ht i)), bi_f (by omega)]
        refine V.if_eq 28 (pc := 19) dX12_partAt_19 (by decide) (fun h19 => ?_) (fun h19 => absurd rfl h19)
        refine V.iload_n (pc := 28) dX12_partAt_28 rfl ?_
        refine V.isn (pc := 29) dX12_partAt_29 (by decide) (st1_1 rfl) ?_
        refine V.iinc (v := 4) (pc := 30) dX12_partAt_30 (by decide) rfl (by decide) (st1_2 rfl) ?_
        refine V.goto 4 (pc := 33) dX12_partAt_33 (by decide) ?_
        refine V.iload_n (pc := 4) dX12_partAt_4 rfl ?_
        refine V.iconst (v := 5) (pc := 5) dX12_partAt_5 (by decide) ?_
        refine V.icmp_ge 36 (pc := 6) dX12_partAt_6 (by decide) (fun h6 => absurd h6 (by decide)) (fun h6 => ?_)
        refine V.aload_n (pc := 9) dX12_partAt_9 rfl ?_
        refine V.aload_n (pc := 10) dX12_partAt_10 rfl ?_
        refine V.getR (pc := 11) dX12_partAt_11 fX12_55_11 rfl hM.o hM.f25 ?_
        refine V.iload_n (pc := 14) dX12_partAt_14 rfl ?_
        refine V.lald' (k := 4) (pc := 15) dX12_partAt_15 hM.t25 rfl (by decide) (by decide) ?_
        rw [w4]
        refine V.pV (as := [_]) (pc := 16) dX12_partAt_16 lX12_209 bX12_isWord nX12_isWord (ci := 11) rfl eX12_isWord hM.o (c_isWord (d := d + 0) (N := N) (i := i) (tt := tt) (w := 509824180) _ hM hk ht (by decide) rfl) (by omega) rfl (Nat.le_of_ble_eq_true rfl) ?_
        rw [bi_c (wn_305 (fun i _ => ht i)), bi_f (by omega)]
        refine V.if_eq 28 (pc := 19) dX12_partAt_19 (by decide) (fun h19 => ?_) (fun h19 => absurd rfl h19)
        refine V.iload_n (pc := 28) dX12_partAt_28 rfl ?_
        refine V.isn (pc := 29) dX12_partAt_29 (by decide) (st1_1 rfl) ?_
        refine V.iinc (v := 5) (pc := 30) dX12_partAt_30 (by decide) rfl (by decide) (st1_2 rfl) ?_
        refine V.goto 4 (pc := 33) dX12_partAt_33 (by decide) ?_
        refine V.iload_n (pc := 4) dX12_partAt_4 rfl ?_
        refine V.iconst (v := 5) (pc := 5) dX12_partAt_5 (by decide) ?_
        refine V.icmp_ge 36 (pc := 6) dX12_partAt_6 (by decide) (fun h6 => ?_) (fun h6 => absurd (by decide) h6)
        refine V.iload_n (pc := 36) dX12_partAt_36 rfl ?_
        exact V.iret (pc := 37) dX12_partAt_37 rfl ⟨by rw [q, if_pos (by decide)]; rfl, rfl, rfl, rfl, rfl, rfl⟩
      · by_cases q3 : kdT tt N i = 304
        · have q := q3
          refine V.iconst (v := (-1)) (pc := 0) dX12_partAt_0 (by decide) ?_
          refine V.isn (pc := 1) dX12_partAt_1 (by decide) (st1_1 rfl) ?_
          refine V.iconst (v := 0) (pc := 2) dX12_partAt_2 (by decide) ?_
          refine V.isn (pc := 3) dX12_partAt_3 (by decide) (st1_2 rfl) ?_
          refine V.iload_n (pc := 4) dX12_partAt_4 rfl ?_
          refine V.iconst (v := 5) (pc := 5) dX12_partAt_5 (by decide) ?_
          refine V.icmp_ge 36 (pc := 6) dX12_partAt_6 (by decide) (fun h6 => absurd h6 (by decide)) (fun h6 => ?_)
          refine V.aload_n (pc := 9) dX12_partAt_9 rfl ?_
          refine V.aload_n (pc := 10) dX12_partAt_10 rfl ?_
          refine V.getR (pc := 11) dX12_partAt_11 fX12_55_11 rfl hM.o hM.f25 ?_
          refine V.iload_n (pc := 14) dX12_partAt_14 rfl ?_
          refine V.lald' (k := 0) (pc := 15) dX12_partAt_15 hM.t25 rfl (by decide) (by decide) ?_
          rw [w0]
          refine V.pV (as := [_]) (pc := 16) dX12_partAt_16 lX12_209 bX12_isWord nX12_isWord (ci := 11) rfl eX12_isWord hM.o (c_isWord (d := d + 0) (N := N) (i := i) (tt := tt) (w := 4153) _ hM hk ht (by decide) rfl) (by omega) rfl (Nat.le_of_ble_eq_true rfl) ?_
          rw [bi_c (wn_301 (fun i _ => ht i)), bi_f (by omega)]
          refine V.if_eq 28 (pc := 19) dX12_partAt_19 (by decide) (fun h19 => ?_) (fun h19 => absurd rfl h19)
          refine V.iload_n (pc := 28) dX12_partAt_28 rfl ?_
          refine V.isn (pc := 29) dX12_partAt_29 (by decide) (st1_1 rfl) ?_
          refine V.iinc (v := 1) (pc := 30) dX12_partAt_30 (by decide) rfl (by decide) (st1_2 rfl) ?_
          refine V.goto 4 (pc := 33) dX12_partAt_33 (by decide) ?_
          refine V.iload_n (pc := 4) dX12_partAt_4 rfl ?_
          refine V.iconst (v := 5) (pc := 5) dX12_partAt_5 (by decide) ?_
          refine V.icmp_ge 36 (pc := 6) dX12_partAt_6 (by decide) (fun h6 => absurd h6 (by decide)) (fun h6 => ?_)
          refine V.aload_n (pc := 9) dX12_partAt_9 rfl ?_
          refine V.aload_n (pc := 10) dX12_partAt_10 rfl ?_
          refine V.getR (pc := 11) dX12_partAt_11 fX12_55_11 rfl hM.o hM.f25 ?_
          refine V.iload_n (pc := 14) dX12_partAt_14 rfl ?_
          refine V.lald' (k := 1) (pc := 15) dX12_partAt_15 hM.t25 rfl (by decide) (by decide) ?_
          rw [w1]
          refine V.pV (as := [_]) (pc := 16) dX12_partAt_16 lX12_209 bX12_isWord nX12_isWord (ci := 11) rfl eX12_isWord hM.o (c_isWord (d := d + 0) (N := N) (i := i) (tt := tt) (w := 263620) _ hM hk ht (by decide) rfl) (by omega) rfl (Nat.le_of_ble_eq_true rfl) ?_
          rw [bi_c (wn_302 (fun i _ => ht i)), bi_f (by omega)]
          refine V.if_eq 28 (pc := 19) dX12_partAt_19 (by decide) (fun h19 => ?_) (fun h19 => absurd rfl h19)
          refine V.iload_n (pc := 28) dX12_partAt_28 rfl ?_
          refine V.isn (pc := 29) dX12_partAt_29 (by decide) (st1_1 rfl) ?_
          refine V.iinc (v := 2) (pc := 30) dX12_partAt_30 (by decide) rfl (by decide) (st1_2 rfl) ?_
          refine V.goto 4 (pc := 33) dX12_partAt_33 (by decide) ?_
          refine V.iload_n (pc := 4) dX12_partAt_4 rfl ?_
          refine V.iconst (v := 5) (pc := 5) dX12_partAt_5 (by decide) ?_
          refine V.icmp_ge 36 (pc := 6) dX12_partAt_6 (by decide) (fun h6 => absurd h6 (by decide)) (fun h6 => ?_)
          refine V.aload_n (pc := 9) dX12_partAt_9 rfl ?_
          refine V.aload_n (pc := 10) dX12_partAt_10 rfl ?_
          refine V.getR (pc := 11) dX12_partAt_11 fX12_55_11 rfl hM.o hM.f25 ?_
          refine V.iload_n (pc := 14) dX12_partAt_14 rfl ?_
          refine V.lald' (k := 2) (pc := 15) dX12_partAt_15 hM.t25 rfl (by decide) (by decide) ?_
          rw [w2]
          refine V.pV (as := [_]) (pc := 16) dX12_partAt_16 lX12_209 bX12_isWord nX12_isWord (ci := 11) rfl eX12_isWord hM.o (c_isWord (d := d + 0) (N := N) (i := i) (tt := tt) (w := 13683059) _ hM hk ht (by decide) rfl) (by omega) rfl (Nat.le_of_ble_eq_true rfl) ?_
          rw [bi_c (wn_303 (fun i _ => ht i)), bi_f (by omega)]
          refine V.if_eq 28 (pc := 19) dX12_partAt_19 (by decide) (fun h19 => ?_) (fun h19 => absurd rfl h19)
          refine V.iload_n (pc := 28) dX12_partAt_28 rfl ?_
          refine V.isn (pc := 29) dX12_partAt_29 (by decide) (st1_1 rfl) ?_
          refine V.iinc (v := 3) (pc := 30) dX12_partAt_30 (by decide) rfl (by decide) (st1_2 rfl) ?_
          refine V.goto 4 (pc := 33) dX12_partAt_33 (by decide) ?_
          refine V.iload_n (pc := 4) dX12_partAt_4 rfl ?_
          refine V.iconst (v := 5) (pc := 5) dX12_partAt_5 (by decide) ?_
          refine V.icmp_ge 36 (pc := 6) dX12_partAt_6 (by decide) (fun h6 => absurd h6 (by decide)) (fun h6 => ?_)
          refine V.aload_n (pc := 9) dX12_partAt_9 rfl ?_
          refine V.aload_n (pc := 10) dX12_partAt_10 rfl ?_
          refine V.getR (pc := 11) dX12_partAt_11 fX12_55_11 rfl hM.o hM.f25 ?_
          refine V.iload_n (pc := 14) dX12_partAt_14 rfl ?_
          refine V.lald' (k := 3) (pc := 15) dX12_partAt_15 hM.t25 rfl (by decide) (by decide) ?_
          rw [w3]
          refine V.pV (as := [_]) (pc := 16) dX12_partAt_16 lX12_209 bX12_isWord nX12_isWord (ci := 11) rfl eX12_isWord hM.o (c_isWord (d := d + 0) (N := N) (i := i) (tt := tt) (w := 677454) _ hM hk ht (by decide) rfl) (by omega) rfl (Nat.le_of_ble_eq_true rfl) ?_
          rw [bi_c (wn_304 (fun i _ => ht i)), bi_t q]
          refine V.if_eq 28 (pc := 19) dX12_partAt_19 (by decide) (fun h19 => absurd h19 (by decide)) (fun h19 => ?_)
          refine V.iload_n (pc := 22) dX12_partAt_22 rfl ?_
          refine V.iconst (v := 1) (pc := 23) dX12_partAt_23 (by decide) ?_
          refine V.iadd (pc := 24) dX12_partAt_24 ?_
          refine V.goto 29 (pc := 25) dX12_partAt_25 (by decide) ?_
          refine V.isn (pc := 29) dX12_partAt_29 (by decide) (st1_1 rfl) ?_
          refine V.iinc (v := 4) (pc := 30) dX12_partAt_30 (by decide) rfl (by decide) (st1_2 rfl) ?_
          refine V.goto 4 (pc := 33) dX12_partAt_33 (by decide) ?_
          refine V.iload_n (pc := 4) dX12_partAt_4 rfl ?_
          refine V.iconst (v := 5) (pc := 5) dX12_partAt_5 (by decide) ?_
          refine V.icmp_ge 36 (pc := 6) dX12_partAt_6 (by decide) (fun h6 => absurd h6 (by decide)) (fun h6 => ?_)
          refine V.aload_n (pc := 9) dX12_partAt_9 rfl ?_
          refine V.aload_n (pc := 10) dX12_partAt_10 rfl ?_
          refine V.getR (pc := 11) dX12_partAt_11 fX12_55_11 rfl hM.o hM.f25 ?_
          refine V.iload_n (pc := 14) dX12_partAt_14 rfl ?_
          refine V.lald' (k := 4) (pc := 15) dX12_partAt_15 hM.t25 rfl (by decide) (by decide) ?_
          rw [w4]
          refine V.pV (as := [_]) (pc := 16) dX12_partAt_16 lX12_209 bX12_isWord nX12_isWord (ci := 11) rfl eX12_isWord hM.o (c_isWord (d := d + 0) (N := N) (i := i) (tt := tt) (w := 509824180) _ hM hk ht (by decide) rfl) (by omega) rfl (Nat.le_of_ble_eq_true rfl) ?_
          rw [bi_c (wn_305 (fun i _ => ht i)), bi_f (by omega)]
          refine V.if_eq 28 (pc := 19) dX12_partAt_19 (by decide) (fun h19 => ?_) (fun h19 => absurd rfl h19)
          refine V.iload_n (pc := 28) dX12_partAt_28 rfl ?_
          refine V.isn (pc := 29) dX12_partAt_29 (by decide) (st1_1 rfl) ?_
          refine V.iinc (v := 5) (pc := 30) dX12_partAt_30 (by decide) rfl (by decide) (st1_2 rfl) ?_
          refine V.goto 4 (pc := 33) dX12_partAt_33 (by decide) ?_
          refine V.iload_n (pc := 4) dX12_partAt_4 rfl ?_
          refine V.iconst (v := 5) (pc := 5) dX12_partAt_5 (by decide) ?_
          refine V.icmp_ge 36 (pc := 6) dX12_partAt_6 (by decide) (fun h6 => ?_) (fun h6 => absurd (by decide) h6)
          refine V.iload_n (pc := 36) dX12_partAt_36 rfl ?_
          exact V.iret (pc := 37) dX12_partAt_37 rfl ⟨by rw [q, if_pos (by decide)]; rfl, rfl, rfl, rfl, rfl, rfl⟩
        · by_cases q4 : kdT tt N i = 305
          · have q := q4
            refine V.iconst (v := (-1)) (pc := 0) dX12_partAt_0 (by decide) ?_
            refine V.isn (pc := 1) dX12_partAt_1 (by decide) (st1_1 rfl) ?_
            refine V.iconst (v := 0) (pc := 2) dX12_partAt_2 (by decide) ?_
            refine V.isn (pc := 3) dX12_partAt_3 (by decide) (st1_2 rfl) ?_
            refine V.iload_n (pc := 4) dX12_partAt_4 rfl ?_
            refine V.iconst (v := 5) (pc := 5) dX12_partAt_5 (by decide) ?_
            refine V.icmp_ge 36 (pc := 6) dX12_partAt_6 (by decide) (fun h6 => absurd h6 (by decide)) (fun h6 => ?_)
            refine V.aload_n (pc := 9) dX12_partAt_9 rfl ?_
            refine V.aload_n (pc := 10) dX12_partAt_10 rfl ?_
            refine V.getR (pc := 11) dX12_partAt_11 fX12_55_11 rfl hM.o hM.f25 ?_
            refine V.iload_n (pc := 14) dX12_partAt_14 rfl ?_
            refine V.lald' (k := 0) (pc := 15) dX12_partAt_15 hM.t25 rfl (by decide) (by decide) ?_
            rw [w0]
            refine V.pV (as := [_]) (pc := 16) dX12_partAt_16 lX12_209 bX12_isWord nX12_isWord (ci := 11) rfl eX12_isWord hM.o (c_isWord (d := d + 0) (N := N) (i := i) (tt := tt) (w := 4153) _ hM hk ht (by decide) rfl) (by omega) rfl (Nat.le_of_ble_eq_true rfl) ?_
            rw [bi_c (wn_301 (fun i _ => ht i)), bi_f (by omega)]
            refine V.if_eq 28 (pc := 19) dX12_partAt_19 (by decide) (fun h19 => ?_) (fun h19 => absurd rfl h19)
            refine V.iload_n (pc := 28) dX12_partAt_28 rfl ?_
            refine V.isn (pc := 29) dX12_partAt_29 (by decide) (st1_1 rfl) ?_
            refine V.iinc (v := 1) (pc := 30) dX12_partAt_30 (by decide) rfl (by decide) (st1_2 rfl) ?_
            refine V.goto 4 (pc := 33) dX12_partAt_33 (by decide) ?_
            refine V.iload_n (pc := 4) dX12_partAt_4 rfl ?_
            refine V.iconst (v := 5) (pc := 5) dX12_partAt_5 (by decide) ?_
            refine V.icmp_ge 36 (pc := 6) dX12_partAt_6 (by decide) (fun h6 => absurd h6 (by decide)) (fun h6 => ?_)
            refine V.aload_n (pc := 9) dX12_partAt_9 rfl ?_
            refine V.aload_n (pc := 10) dX12_partAt_10 rfl ?_
            refine V.getR (pc := 11) dX12_partAt_11 fX12_55_11 rfl hM.o hM.f25 ?_
            refine V.iload_n (pc := 14) dX12_partAt_14 rfl ?_
            refine V.lald' (k := 1) (pc := 15) dX12_partAt_15 hM.t25 rfl (by decide) (by decide) ?_
            rw [w1]
            refine V.pV (as := [_]) (pc := 16) dX12_partAt_16 lX12_209 bX12_isWord nX12_isWord (ci := 11) rfl eX12_isWord hM.o (c_isWord (d := d + 0) (N := N) (i := i) (tt := tt) (w := 263620) _ hM hk ht (by decide) rfl) (by omega) rfl (Nat.le_of_ble_eq_true rfl) ?_
            rw [bi_c (wn_302 (fun i _ => ht i)), bi_f (by omega)]
            refine V.if_eq 28 (pc := 19) dX12_partAt_19 (by decide) (fun h19 => ?_) (fun h19 => absurd rfl h19)
            refine V.iload_n (pc := 28) dX12_partAt_28 rfl ?_
            refine V.isn (pc := 29) dX12_partAt_29 (by decide) (st1_1 rfl) ?_
            refine V.iinc (v := 2) (pc := 30) dX12_partAt_30 (by decide) rfl (by decide) (st1_2 rfl) ?_
            refine V.goto 4 (pc := 33) dX12_partAt_33 (by decide) ?_
            refine V.iload_n (pc := 4) dX12_partAt_4 rfl ?_
            refine V.iconst (v := 5) (pc := 5) dX12_partAt_5 (by decide) ?_
            refine V.icmp_ge 36 (pc := 6) dX12_partAt_6 (by decide) (fun h6 => absurd h6 (by decide)) (fun h6 => ?_)
            refine V.aload_n (pc := 9) dX12_partAt_9 rfl ?_
            refine V.aload_n (pc := 10) dX12_partAt_10 rfl ?_
            refine V.getR (pc := 11) dX12_partAt_11 fX12_55_11 rfl hM.o hM.f25 ?_
            refine V.iload_n (pc := 14) dX12_partAt_14 rfl ?_
            refine V.lald' (k := 2) (pc := 15) dX12_partAt_15 hM.t25 rfl (by decide) (by decide) ?_
            rw [w2]
            refine V.pV (as := [_]) (pc := 16) dX12_partAt_16 lX12_209 bX12_isWord nX12_isWord (ci := 11) rfl eX12_isWord hM.o (c_isWord (d := d + 0) (N := N) (i := i) (tt := tt) (w := 13683059) _ hM hk ht (by decide) rfl) (by omega) rfl (Nat.le_of_ble_eq_true rfl) ?_
            rw [bi_c (wn_303 (fun i _ => ht i)), bi_f (by omega)]
            refine V.if_eq 28 (pc := 19) dX12_partAt_19 (by decide) (fun h19 => ?_) (fun h19 => absurd rfl h19)
            refine V.iload_n (pc := 28) dX12_partAt_28 rfl ?_
            refine V.isn (pc := 29) dX12_partAt_29 (by decide) (st1_1 rfl) ?_
            refine V.iinc (v := 3) (pc := 30) dX12_partAt_30 (by decide) rfl (by decide) (st1_2 rfl) ?_
            refine V.goto 4 (pc := 33) dX12_partAt_33 (by decide) ?_
            refine V.iload_n (pc := 4) dX12_partAt_4 rfl ?_
            refine V.iconst (v := 5) (pc := 5) dX12_partAt_5 (by decide) ?_
            refine V.icmp_ge 36 (pc := 6) dX12_partAt_6 (by decide) (fun h6 => absurd h6 (by decide)) (fun h6 => ?_)
            refine V.aload_n (pc := 9) dX12_partAt_9 rfl ?_
            refine V.aload_n (pc := 10) dX12_partAt_10 rfl ?_
            refine V.getR (pc := 11) dX12_partAt_11 fX12_55_11 rfl hM.o hM.f25 ?_
            refine V.iload_n (pc := 14) dX12_partAt_14 rfl ?_
            refine V.lald' (k := 3) (pc := 15) dX12_partAt_15 hM.t25 rfl (by decide) (by decide) ?_
            rw [w3]
            refine V.pV (as := [_]) (pc := 16) dX12_partAt_16 lX12_209 bX12_isWord nX12_isWord (ci := 11) rfl eX12_isWord hM.o (c_isWord (d := d + 0) (N := N) (i := i) (tt := tt) (w := 677454) _ hM hk ht (by decide) rfl) (by omega) rfl (Nat.le_of_ble_eq_true rfl) ?_
            rw [bi_c (wn_304 (fun i _ => ht i)), bi_f (by omega)]
            refine V.if_eq 28 (pc := 19) dX12_partAt_19 (by decide) (fun h19 => ?_) (fun h19 => absurd rfl h19)
            refine V.iload_n (pc := 28) dX12_partAt_28 rfl ?_
            refine V.isn (pc := 29) dX12_partAt_29 (by decide) (st1_1 rfl) ?_
            refine V.iinc (v := 4) (pc := 30) dX12_partAt_30 (by decide) rfl (by decide) (st1_2 rfl) ?_
            refine V.goto 4 (pc := 33) dX12_partAt_33 (by decide) ?_
            refine V.iload_n (pc := 4) dX12_partAt_4 rfl ?_
            refine V.iconst (v := 5) (pc := 5) dX12_partAt_5 (by decide) ?_
            refine V.icmp_ge 36 (pc := 6) dX12_partAt_6 (by decide) (fun h6 => absurd h6 (by decide)) (fun h6 => ?_)
            refine V.aload_n (pc := 9) dX12_partAt_9 rfl ?_
            refine V.aload_n (pc := 10) dX12_partAt_10 rfl ?_
            refine V.getR (pc := 11) dX12_partAt_11 fX12_55_11 rfl hM.o hM.f25 ?_
            refine V.iload_n (pc := 14) dX12_partAt_14 rfl ?_
            refine V.lald' (k := 4) (pc := 15) dX12_partAt_15 hM.t25 rfl (by decide) (by decide) ?_
            rw [w4]
            refine V.pV (as := [_]) (pc := 16) dX12_partAt_16 lX12_209 bX12_isWord nX12_isWord (ci := 11) rfl eX12_isWord hM.o (c_isWord (d := d + 0) (N := N) (i := i) (tt := tt) (w := 509824180) _ hM hk ht (by decide) rfl) (by omega) rfl (Nat.le_of_ble_eq_true rfl) ?_
            rw [bi_c (wn_305 (fun i _ => ht i)), bi_t q]
            refine V.if_eq 28 (pc := 19) dX12_partAt_19 (by decide) (fun h19 => absurd h19 (by decide)) (fun h19 => ?_)
            refine V.iload_n (pc := 22) dX12_partAt_22 rfl ?_
            refine V.iconst (v := 1) (pc := 23) dX12_partAt_23 (by decide) ?_
            refine V.iadd (pc := 24) dX12_partAt_24 ?_
            refine V.goto 29 (pc := 25) dX12_partAt_25 (by decide) ?_
            refine V.isn (pc := 29) dX12_partAt_29 (by decide) (st1_1 rfl) ?_
            refine V.iinc (v := 5) (pc := 30) dX12_partAt_30 (by decide) rfl (by decide) (st1_2 rfl) ?_
            refine V.goto 4 (pc := 33) dX12_partAt_33 (by decide) ?_
            refine V.iload_n (pc := 4) dX12_partAt_4 rfl ?_
            refine V.iconst (v := 5) (pc := 5) dX12_partAt_5 (by decide) ?_
            refine V.icmp_ge 36 (pc := 6) dX12_partAt_6 (by decide) (fun h6 => ?_) (fun h6 => absurd (by decide) h6)
            refine V.iload_n (pc := 36) dX12_partAt_36 rfl ?_
            exact V.iret (pc := 37) dX12_partAt_37 rfl ⟨by rw [q, if_pos (by decide)]; rfl, rfl, rfl, rfl, rfl, rfl⟩
          · refine V.iconst (v := (-1)) (pc := 0) dX12_partAt_0 (by decide) ?_
            refine V.isn (pc := 1) dX12_partAt_1 (by decide) (st1_1 rfl) ?_
            refine V.iconst (v := 0) (pc := 2) dX12_partAt_2 (by decide) ?_
            refine V.isn (pc := 3) dX12_partAt_3 (by decide) (st1_2 rfl) ?_
            refine V.iload_n (pc := 4) dX12_partAt_4 rfl ?_
            refine V.iconst (v := 5) (pc := 5) dX12_partAt_5 (by decide) ?_
            refine V.icmp_ge 36 (pc := 6) dX12_partAt_6 (by decide) (fun h6 => absurd h6 (by decide)) (fun h6 => ?_)
            refine V.aload_n (pc := 9) dX12_partAt_9 rfl ?_
            refine V.aload_n (pc := 10) dX12_partAt_10 rfl ?_
            refine V.getR (pc := 11) dX12_partAt_11 fX12_55_11 rfl hM.o hM.f25 ?_
            refine V.iload_n (pc := 14) dX12_partAt_14 rfl ?_
            refine V.lald' (k := 0) (pc := 15) dX12_partAt_15 hM.t25 rfl (by decide) (by decide) ?_
            rw [w0]
            refine V.pV (as := [_]) (pc := 16) dX12_partAt_16 lX12_209 bX12_isWord nX12_isWord (ci := 11) rfl eX12_isWord hM.o (c_isWord (d := d + 0) (N := N) (i := i) (tt := tt) (w := 4153) _ hM hk ht (by decide) rfl) (by omega) rfl (Nat.le_of_ble_eq_true rfl) ?_
            rw [bi_c (wn_301 (fun i _ => ht i)), bi_f (by omega)]
            refine V.if_eq 28 (pc := 19) dX12_partAt_19 (by decide) (fun h19 => ?_) (fun h19 => absurd rfl h19)
            refine V.iload_n (pc := 28) dX12_partAt_28 rfl ?_
            refine V.isn (pc := 29) dX12_partAt_29 (by decide) (st1_1 rfl) ?_
            refine V.iinc (v := 1) (pc := 30) dX12_partAt_30 (by decide) rfl (by decide) (st1_2 rfl) ?_
            refine V.goto 4 (pc := 33) dX12_partAt_33 (by decide) ?_
            refine V.iload_n (pc := 4) dX12_partAt_4 rfl ?_
            refine V.iconst (v := 5) (pc := 5) dX12_partAt_5 (by decide) ?_
            refine V.icmp_ge 36 (pc := 6) dX12_partAt_6 (by decide) (fun h6 => absurd h6 (by decide)) (fun h6 => ?_)
            refine V.aload_n (pc := 9) dX12_partAt_9 rfl ?_
            refine V.aload_n (pc := 10) dX12_partAt_10 rfl ?_
            refine V.getR (pc := 11) dX12_partAt_11 fX12_55_11 rfl hM.o hM.f25 ?_
            refine V.iload_n (pc := 14) dX12_partAt_14 rfl ?_
            refine V.lald' (k := 1) (pc := 15) dX12_partAt_15 hM.t25 rfl (by decide) (by decide) ?_
            rw [w1]
            refine V.pV (as := [_]) (pc := 16) dX12_partAt_16 lX12_209 bX12_isWord nX12_isWord (ci := 11) rfl eX12_isWord hM.o (c_isWord (d := d + 0) (N := N) (i := i) (tt := tt) (w := 263620) _ hM hk ht (by decide) rfl) (by omega) rfl (Nat.le_of_ble_eq_true rfl) ?_
            rw [bi_c (wn_302 (fun i _ => ht i)), bi_f (by omega)]
            refine V.if_eq 28 (pc := 19) dX12_partAt_19 (by decide) (fun h19 => ?_) (fun h19 => absurd rfl h19)
            refine V.iload_n (pc := 28) dX12_partAt_28 rfl ?_
            refine V.isn (pc := 29) dX12_partAt_29 (by decide) (st1_1 rfl) ?_
            refine V.iinc (v := 2) (pc := 30) dX12_partAt_30 (by decide) rfl (by decide) (st1_2 rfl) ?_
            refine V.goto 4 (pc := 33) dX12_partAt_33 (by decide) ?_
            refine V.iload_n (pc := 4) dX12_partAt_4 rfl ?_
            refine V.iconst (v := 5) (pc := 5) dX12_partAt_5 (by decide) ?_
            refine V.icmp_ge 36 (pc := 6) dX12_partAt_6 (by decide) (fun h6 => absurd h6 (by decide)) (fun h6 => ?_)
            refine V.aload_n (pc := 9) dX12_partAt_9 rfl ?_
            refine V.aload_n (pc := 10) dX12_partAt_10 rfl ?_
            refine V.getR (pc := 11) dX12_partAt_11 fX12_55_11 rfl hM.o hM.f25 ?_
            refine V.iload_n (pc := 14) dX12_partAt_14 rfl ?_
            refine V.lald' (k := 2) (pc := 15) dX12_partAt_15 hM.t25 rfl (by decide) (by decide) ?_
            rw [w2]
            refine V.pV (as := [_]) (pc := 16) dX12_partAt_16 lX12_209 bX12_isWord nX12_isWord (ci := 11) rfl eX12_isWord hM.o (c_isWord (d := d + 0) (N := N) (i := i) (tt := tt) (w := 13683059) _ hM hk ht (by decide) rfl) (by omega) rfl (Nat.le_of_ble_eq_true rfl) ?_
            rw [bi_c (wn_303 (fun i _ => ht i)), bi_f (by omega)]
            refine V.if_eq 28 (pc := 19) dX12_partAt_19 (by decide) (fun h19 => ?_) (fun h19 => absurd rfl h19)
            refine V.iload_n (pc := 28) dX12_partAt_28 rfl ?_
            refine V.isn (pc := 29) dX12_partAt_29 (by decide) (st1_1 rfl) ?_
            refine V.iinc (v := 3) (pc := 30) dX12_partAt_30 (by decide) rfl (by decide) (st1_2 rfl) ?_
            refine V.goto 4 (pc := 33) dX12_partAt_33 (by decide) ?_
            refine V.iload_n (pc := 4) dX12_partAt_4 rfl ?_
            refine V.iconst (v := 5) (pc := 5) dX12_partAt_5 (by decide) ?_
            refine V.icmp_ge 36 (pc := 6) dX12_partAt_6 (by decide) (fun h6 => absurd h6 (by decide)) (fun h6 => ?_)
            refine V.aload_n (pc := 9) dX12_partAt_9 rfl ?_
            refine V.aload_n (pc := 10) dX12_partAt_10 rfl ?_
            refine V.getR (pc := 11) dX12_partAt_11 fX12_55_11 rfl hM.o hM.f25 ?_
            refine V.iload_n (pc := 14) dX12_partAt_14 rfl ?_
            refine V.lald' (k := 3) (pc := 15) dX12_partAt_15 hM.t25 rfl (by decide) (by decide) ?_
            rw [w3]
            refine V.pV (as := [_]) (pc := 16) dX12_partAt_16 lX12_209 bX12_isWord nX12_isWord (ci := 11) rfl eX12_isWord hM.o (c_isWord (d := d + 0) (N := N) (i := i) (tt := tt) (w := 677454) _ hM hk ht (by decide) rfl) (by omega) rfl (Nat.le_of_ble_eq_true rfl) ?_
            rw [bi_c (wn_304 (fun i _ => ht i)), bi_f (by omega)]
            refine V.if_eq 28 (pc := 19) dX12_partAt_19 (by decide) (fun h19 => ?_) (fun h19 => absurd rfl h19)
            refine V.iload_n (pc := 28) dX12_partAt_28 rfl ?_
            refine V.isn (pc := 29) dX12_partAt_29 (by decide) (st1_1 rfl) ?_
            refine V.iinc (v := 4) (pc := 30) dX12_partAt_30 (by decide) rfl (by decide) (st1_2 rfl) ?_
            refine V.goto 4 (pc := 33) dX12_partAt_33 (by decide) ?_
            refine V.iload_n (pc := 4) dX12_partAt_4 rfl ?_
            refine V.iconst (v := 5) (pc := 5) dX12_partAt_5 (by decide) ?_
            refine V.icmp_ge 36 (pc := 6) dX12_partAt_6 (by decide) (fun h6 => absurd h6 (by decide)) (fun h6 => ?_)
            refine V.aload_n (pc := 9) dX12_partAt_9 rfl ?_
            refine V.aload_n (pc := 10) dX12_partAt_10 rfl ?_
            refine V.getR (pc := 11) dX12_partAt_11 fX12_55_11 rfl hM.o hM.f25 ?_
            refine V.iload_n (pc := 14) dX12_partAt_14 rfl ?_
            refine V.lald' (k := 4) (pc := 15) dX12_partAt_15 hM.t25 rfl (by decide) (by decide) ?_
            rw [w4]
            refine V.pV (as := [_]) (pc := 16) dX12_partAt_16 lX12_209 bX12_isWord nX12_isWord (ci := 11) rfl eX12_isWord hM.o (c_isWord (d := d + 0) (N := N) (i := i) (tt := tt) (w := 509824180) _ hM hk ht (by decide) rfl) (by omega) rfl (Nat.le_of_ble_eq_true rfl) ?_
            rw [bi_c (wn_305 (fun i _ => ht i)), bi_f (by omega)]
            refine V.if_eq 28 (pc := 19) dX12_partAt_19 (by decide) (fun h19 => ?_) (fun h19 => absurd rfl h19)
            refine V.iload_n (pc := 28) dX12_partAt_28 rfl ?_
            refine V.isn (pc := 29) dX12_partAt_29 (by decide) (st1_1 rfl) ?_
            refine V.iinc (v := 5) (pc := 30) dX12_partAt_30 (by decide) rfl (by decide) (st1_2 rfl) ?_
            refine V.goto 4 (pc := 33) dX12_partAt_33 (by decide) ?_
            refine V.iload_n (pc := 4) dX12_partAt_4 rfl ?_
            refine V.iconst (v := 5) (pc := 5) dX12_partAt_5 (by decide) ?_
            refine V.icmp_ge 36 (pc := 6) dX12_partAt_6 (by decide) (fun h6 => ?_) (fun h6 => absurd (by decide) h6)
            refine V.iload_n (pc := 36) dX12_partAt_36 rfl ?_
            exact V.iret (pc := 37) dX12_partAt_37 rfl ⟨by rw [if_neg (by omega)]; rfl, rfl, rfl, rfl, rfl, rfl⟩
theorem c_open {g : gG} {d : Nat} {T : mT} {n : Nat} {I : mI} {J : mJ} {F : mF} {m N : Nat} {tt : Nat → Nat} {r : RS} {op : Nat} (x : Int32) (hM : MS T F m) (hT : TpM tt N I m) (hr : RdM tt N r I J m) (hb : r_b r = false) (hx : x = nI op) (hc : (r_P r).length < 400) (ho : r_o r ≤ 8) : Ct g mX12_openBracket (d + 3) [.ref m, .int x] 0 0 T n I J F (fun r' T' n' I' J' F' => r' = none ∧ T' = T ∧ n' = n ∧ F' = F ∧ PrF m I J I' J' ∧ RdM tt N (fOpen (kdT tt N) op r) I' J' m) := by
  refine Ct.ofV (k := 0) (by decide) (Nat.le_of_ble_eq_true rfl) ?_
  show V g mX12_openBracket (d + 3) _ 0 0 0 [some (.ref m), some (.int x)] [] T n I J F
  obtain ⟨i, b, C, v, P, oo⟩ := r
  have hb2 : b = false := hb
  subst hb2
  have hc2 : P.length < 400 := hc
  have ho2 : oo ≤ 8 := ho
  have e24 : I m 24 = nI oo := hr.2.2.2.2.2.2.2
  by_cases q : oo < 8
  · rw [show fOpen (kdT tt N) op (i, false, C, v, P, oo) = (i + 1, false, C, v, (op, 0) :: P, oo + 1) from if_pos q]
    refine V.aload_n (pc := 0) dX12_openBracket_0 rfl ?_
    refine V.aload_n (pc := 1) dX12_openBracket_1 rfl ?_
    refine V.getI (pc := 2) dX12_openBracket_2 fX12_213_11 rfl hM.o ?_
    rw [e24]
    refine V.bipush (v := 8) (pc := 5) dX12_openBracket_5 (by decide) ?_
    refine V.icmp_ge 14 (pc := 7) dX12_openBracket_7 (by decide) (fun h7 => absurd (show nI 8 ≤ nI oo from h7) (nI_ge (by omega) (by omega))) (fun h7 => ?_)
    refine V.iconst (v := 1) (pc := 10) dX12_openBracket_10 (by decide) ?_
    refine V.goto 15 (pc := 11) dX12_openBracket_11 (by decide) ?_
    refine V.invV0 (as := [_]) (pc := 15) dX12_openBracket_15 lX12_184 bX12_must nX12_must (ci := 11) rfl eX12_must hM.o (c_mustY (d := d + 0) (N := N) (tt := tt) _ hM hT hr rfl (by decide)) (by omega) rfl (Nat.le_of_ble_eq_true rfl) ?_
    rintro _ _ _ I1 J1 _ ⟨rfl, rfl, rfl, rfl, f1, hr1⟩
    refine V.aload_n (pc := 18) dX12_openBracket_18 rfl ?_
    refine V.getI (pc := 19) dX12_openBracket_19 fX12_151_11 rfl hM.o ?_
    rw [show I1 m 14 = 0 from hr1.2.1]
    refine V.if_ne 41 (pc := 22) dX12_openBracket_22 (by decide) (fun h22 => absurd rfl h22) (fun h22 => ?_)
    refine V.aload_n (pc := 25) dX12_openBracket_25 rfl ?_
    refine V.dup (pc := 26) dX12_openBracket_26 rfl ?_
    refine V.getI (pc := 27) dX12_openBracket_27 fX12_213_11 rfl hM.o ?_
    rw [show I1 m 24 = nI oo from hr1.2.2.2.2.2.2.2]
    refine V.iconst (v := 1) (pc := 30) dX12_openBracket_30 (by decide) ?_
    refine V.iadd (pc := 31) dX12_openBracket_31 ?_
    rw [nI_1]
    refine V.putI (pc := 32) dX12_openBracket_32 fX12_213_11 (fun r h => by cases h; exact Or.inl rfl) rfl hM.o ?_
    refine V.aload_n (pc := 35) dX12_openBracket_35 rfl ?_
    refine V.iload_n (pc := 36) dX12_openBracket_36 rfl ?_
    refine V.iconst (v := 0) (pc := 37) dX12_openBracket_37 (by decide) ?_
    refine V.invV0 (as := [_, _]) (pc := 38) dX12_openBracket_38 lX12_216 bX12_push nX12_push (ci := 11) rfl eX12_push hM.o (c_push (d := d + 2) (N := N) (tt := tt) (op := op) (ar := 0) _ _ hM ((f1.up (by omega)).tp hT) (hr1.set (P := P) (v := v) (o := oo + 1) (fun b hb => up2_off hb) (fun k h1 h2 h3 => up2_ne (by omega)) (by rw [up2_ne (by omega)]; exact hr1.2.2.2.2.1) (by rw [up2_ne (by omega)]; exact hr1.2.2.2.2.2.1) up2_same hr1.2.2.2.2.2.2.1) hx rfl hc) (by omega) rfl (Nat.le_of_ble_eq_true rfl) ?_
    rintro _ _ _ I2 J2 _ ⟨rfl, rfl, rfl, rfl, f2, hr2⟩
    exact V.vret (pc := 41) dX12_openBracket_41 rfl ⟨rfl, rfl, rfl, rfl, (f1.up (by omega)).tr f2, hr2⟩
  · rw [show fOpen (kdT tt N) op (i, false, C, v, P, oo) = badR (i, false, C, v, P, oo) from if_neg q]
    refine V.aload_n (pc := 0) dX12_openBracket_0 rfl ?_
    refine V.aload_n (pc := 1) dX12_openBracket_1 rfl ?_
    refine V.getI (pc := 2) dX12_openBracket_2 fX12_213_11 rfl hM.o ?_
    rw [e24]
    refine V.bipush (v := 8) (pc := 5) dX12_openBracket_5 (by decide) ?_
    refine V.icmp_ge 14 (pc := 7) dX12_openBracket_7 (by decide) (fun h7 => ?_) (fun h7 => absurd (nI_le (show 8 ≤ oo by omega) (by omega)) h7)
    refine V.iconst (v := 0) (pc := 14) dX12_openBracket_14 (by decide) ?_
    refine V.invV0 (as := [_]) (pc := 15) dX12_openBracket_15 lX12_184 bX12_must nX12_must (ci := 11) rfl eX12_must hM.o (c_mustN (d := d + 0) (N := N) (tt := tt) hM hT hr rfl) (by omega) rfl (Nat.le_of_ble_eq_true rfl) ?_
    rintro _ _ _ I1 J1 _ ⟨rfl, rfl, rfl, rfl, f1, hr1⟩
    refine V.aload_n (pc := 18) dX12_openBracket_18 rfl ?_
    refine V.getI (pc := 19) dX12_openBracket_19 fX12_151_11 rfl hM.o ?_
    rw [show I1 m 14 = 1 from hr1.2.1]
    refine V.if_ne 41 (pc := 22) dX12_openBracket_22 (by decide) (fun h22 => ?_) (fun h22 => absurd h22 (by decide))
    exact V.vret (pc := 41) dX12_openBracket_41 rfl ⟨rfl, rfl, rfl, rfl, f1, hr1⟩
theorem c_leafY {g : gG} {d : Nat} {T : mT} {n : Nat} {I : mI} {J : mJ} {F : mF} {m N : Nat} {tt : Nat → Nat} {r : RS} {op ar : Nat} (x y z : Int32) (hM : MS T F m) (hT : TpM tt N I m) (hr : RdM tt N r I J m) (hb : r_b r = false) (hx : ¬ x = 0) (hy : y = nI op) (hz : z = nI ar) (hv : r_v r < 50) (hc : (r_C r).1 < 400) : Ct g mX12_leaf (d + 3) [.ref m, .int x, .int y, .int z] 0 0 T n I J F (fun r' T' n' I' J' F' => r' = none ∧ T' = T ∧ n' = n ∧ F' = F ∧ PrF m I J I' J' ∧ RdM tt N ((r_i r + 1, false, emC (r_C r) (op, ar), r_v r + 1, r_P r, r_o r)) I' J' m) := by
  refine Ct.ofV (k := 0) (by decide) (Nat.le_of_ble_eq_true rfl) ?_
  show V g mX12_leaf (d + 3) _ 0 0 0 [some (.ref m), some (.int x), some (.int y), some (.int z)] [] T n I J F
  obtain ⟨i, b, C, v, P, oo⟩ := r
  have hb2 : b = false := hb
  subst hb2
  refine V.aload_n (pc := 0) dX12_leaf_0 rfl ?_
  refine V.iload_n (pc := 1) dX12_leaf_1 rfl ?_
  refine V.if_eq 18 (pc := 2) dX12_leaf_2 (by decide) (fun h2 => absurd h2 hx) (fun h2 => ?_)
  refine V.aload_n (pc := 5) dX12_leaf_5 rfl ?_
  refine V.getI (pc := 6) dX12_leaf_6 fX12_219_11 rfl hM.o ?_
  rw [show I m 20 = nI v from hr.2.2.2.2.1]
  refine V.bipush (v := 50) (pc := 9) dX12_leaf_9 (by decide) ?_
  refine V.icmp_ge 18 (pc := 11) dX12_leaf_11 (by decide) (fun h11 => absurd (show nI 50 ≤ nI v from h11) (nI_ge hv (by omega))) (fun h11 => ?_)
  refine V.iconst (v := 1) (pc := 14) dX12_leaf_14 (by decide) ?_
  refine V.goto 19 (pc := 15) dX12_leaf_15 (by decide) ?_
  refine V.invV0 (as := [_]) (pc := 19) dX12_leaf_19 lX12_184 bX12_must nX12_must (ci := 11) rfl eX12_must hM.o (c_mustY (d := d + 0) (N := N) (tt := tt) _ hM hT hr rfl (by decide)) (by omega) rfl (Nat.le_of_ble_eq_true rfl) ?_
  rintro _ _ _ I1 J1 _ ⟨rfl, rfl, rfl, rfl, f1, hr1⟩
  refine V.aload_n (pc := 22) dX12_leaf_22 rfl ?_
  refine V.getI (pc := 23) dX12_leaf_23 fX12_151_11 rfl hM.o ?_
  rw [show I1 m 14 = 0 from hr1.2.1]
  refine V.if_ne 45 (pc := 26) dX12_leaf_26 (by decide) (fun h26 => absurd rfl h26) (fun h26 => ?_)
  refine V.aload_n (pc := 29) dX12_leaf_29 rfl ?_
  refine V.iload_n (pc := 30) dX12_leaf_30 rfl ?_
  refine V.iload_n (pc := 31) dX12_leaf_31 rfl ?_
  refine V.invV0 (as := [_, _]) (pc := 32) dX12_leaf_32 lX12_197 bX12_emit nX12_emit (ci := 11) rfl eX12_emit hM.o (c_emit (d := d + 2) (N := N) (tt := tt) (op := op) (ar := ar) _ _ hM (f1.tp hT) hr1 hy hz hc) (by omega) rfl (Nat.le_of_ble_eq_true rfl) ?_
  rintro _ _ _ I2 J2 _ ⟨rfl, rfl, rfl, rfl, f2, rfl, hr2⟩
  refine V.aload_n (pc := 35) dX12_leaf_35 rfl ?_
  refine V.dup (pc := 36) dX12_leaf_36 rfl ?_
  refine V.getI (pc := 37) dX12_leaf_37 fX12_219_11 rfl hM.o ?_
  rw [show I2 m 20 = nI v from hr2.2.2.2.2.1]
  refine V.iconst (v := 1) (pc := 40) dX12_leaf_40 (by decide) ?_
  refine V.iadd (pc := 41) dX12_leaf_41 ?_
  rw [nI_1]
  refine V.putI (pc := 42) dX12_leaf_42 fX12_219_11 (fun r h => by cases h; exact Or.inl rfl) rfl hM.o ?_
  exact V.vret (pc := 45) dX12_leaf_45 rfl ⟨rfl, rfl, rfl, rfl, (f1.tr f2).up (by omega), hr2.set (P := P) (v := v + 1) (o := oo) (fun b hb => up2_off hb) (fun k h1 h2 h3 => up2_ne (by omega)) up2_same (by rw [up2_ne (by omega)]; exact hr2.2.2.2.2.2.1) (by rw [up2_ne (by omega)]; exact hr2.2.2.2.2.2.2.2) hr2.2.2.2.2.2.2.1⟩
theorem c_leafN {g : gG} {d : Nat} {T : mT} {n : Nat} {I : mI} {J : mJ} {F : mF} {m N : Nat} {tt : Nat → Nat} {r : RS} (x y z : Int32) (hM : MS T F m) (hT : TpM tt N I m) (hr : RdM tt N r I J m) (hb : r_b r = false) (hx : x = 0 ∨ ¬ r_v r < 50) (hv : r_v r ≤ 50) : Ct g mX12_leaf (d + 3) [.ref m, .int x, .int y, .int z] 0 0 T n I J F (fun r' T' n' I' J' F' => r' = none ∧ T' = T ∧ n' = n ∧ F' = F ∧ PrF m I J I' J' ∧ RdM tt N (badR r) I' J' m) := by
  refine Ct.ofV (k := 0) (by decide) (Nat.le_of_ble_eq_true rfl) ?_
  show V g mX12_leaf (d + 3) _ 0 0 0 [some (.ref m), some (.int x), some (.int y), some (.int z)] [] T n I J F
  obtain ⟨i, b, C, v, P, oo⟩ := r
  have hb2 : b = false := hb
  subst hb2
  have hv2 : v ≤ 50 := hv
  by_cases q : x = 0
  · refine V.aload_n (pc := 0) dX12_leaf_0 rfl ?_
    refine V.iload_n (pc := 1) dX12_leaf_1 rfl ?_
    refine V.if_eq 18 (pc := 2) dX12_leaf_2 (by decide) (fun h2 => ?_) (fun h2 => absurd q h2)
    refine V.iconst (v := 0) (pc := 18) dX12_leaf_18 (by decide) ?_
    refine V.invV0 (as := [_]) (pc := 19) dX12_leaf_19 lX12_184 bX12_must nX12_must (ci := 11) rfl eX12_must hM.o (c_mustN (d := d + 0) (N := N) (tt := tt) hM hT hr rfl) (by omega) rfl (Nat.le_of_ble_eq_true rfl) ?_
    rintro _ _ _ I1 J1 _ ⟨rfl, rfl, rfl, rfl, f1, hr1⟩
    refine V.aload_n (pc := 22) dX12_leaf_22 rfl ?_
    refine V.getI (pc := 23) dX12_leaf_23 fX12_151_11 rfl hM.o ?_
    rw [show I1 m 14 = 1 from hr1.2.1]
    refine V.if_ne 45 (pc := 26) dX12_leaf_26 (by decide) (fun h26 => ?_) (fun h26 => absurd h26 (by decide))
    exact V.vret (pc := 45) dX12_leaf_45 rfl ⟨rfl, rfl, rfl, rfl, f1, hr1⟩
  · have hv3 : ¬ v < 50 := hx.resolve_left q
    refine V.aload_n (pc := 0) dX12_leaf_0 rfl ?_
    refine V.iload_n (pc := 1) dX12_leaf_1 rfl ?_
    refine V.if_eq 18 (pc := 2) dX12_leaf_2 (by decide) (fun h2 => absurd h2 q) (fun h2 => ?_)
    refine V.aload_n (pc := 5) dX12_leaf_5 rfl ?_
    refine V.getI (pc := 6) dX12_leaf_6 fX12_219_11 rfl hM.o ?_
    rw [show I m 20 = nI v from hr.2.2.2.2.1]
    refine V.bipush (v := 50) (pc := 9) dX12_leaf_9 (by decide) ?_
    refine V.icmp_ge 18 (pc := 11) dX12_leaf_11 (by decide) (fun h11 => ?_) (fun h11 => absurd (nI_le (show 50 ≤ v by omega) (by omega)) h11)
    refine V.iconst (v := 0) (pc := 18) dX12_leaf_18 (by decide) ?_
    refine V.invV0 (as := [_]) (pc := 19) dX12_leaf_19 lX12_184 bX12_must nX12_must (ci := 11) rfl eX12_must hM.o (c_mustN (d := d + 0) (N := N) (tt := tt) hM hT hr rfl) (by omega) rfl (Nat.le_of_ble_eq_true rfl) ?_
    rintro _ _ _ I1 J1 _ ⟨rfl, rfl, rfl, rfl, f1, hr1⟩
    refine V.aload_n (pc := 22) dX12_leaf_22 rfl ?_
    refine V.getI (pc := 23) dX12_leaf_23 fX12_151_11 rfl hM.o ?_
    rw [show I1 m 14 = 1 from hr1.2.1]
    refine V.if_ne 45 (pc := 26) dX12_leaf_26 (by decide) (fun h26 => ?_) (fun h26 => absurd h26 (by decide))
    exact V.vret (pc := 45) dX12_leaf_45 rfl ⟨rfl, rfl, rfl, rfl, f1, hr1⟩
theorem lN_int {k : Nat} (h : k < 2 ^ 31) : (lN k).toInt32 = nI k := by
  rw [← Int32.toInt_inj, nI_toInt h, Int64.toInt_toInt32, lN_toI (by omega)]
  exact Int.bmod_eq_of_le (by omega) (by omega)
theorem c_readPart {g : gG} {d : Nat} {T : mT} {n : Nat} {I : mI} {J : mJ} {F : mF} {m N : Nat} {tt : Nat → Nat} {r : RS} (hM : MS T F m) (hT : TpM tt N I m) (hr : RdM tt N r I J m) (hW : WdM J m) (hok : RdOK (tkN tt N) r) (hb : r_b r = false) : Ct g mX12_readPart (d + 4) [.ref m] 0 0 T n I J F (fun r' T' n' I' J' F' => r' = some (.int (nI (fPart (kdT tt N) (nmT tt N) r).1)) ∧ T' = T ∧ n' = n ∧ F' = F ∧ PrF m I J I' J' ∧ RdM tt N ((fPart (kdT tt N) (nmT tt N) r).2) I' J' m) := by
  refine Ct.ofV (k := 2) (by decide) (Nat.le_of_ble_eq_true rfl) ?_
  show V g mX12_readPart (d + 4) _ 0 0 0 [some (.ref m), none, none] [] T n I J F
  obtain ⟨i, b, C, v, P, oo⟩ := r
  have hb2 : b = false := hb
  subst hb2
  have h305 := kdT_le (t := tt) (n := N) (fun i _ => hT.2.1 i) i
  have hwb := wrtT_bd (t := tt) (n := N) (i := i) hT.2.1
  have hE : EndT (kdT tt N) (tkN tt N) := EndT.of hT.1
  obtain ⟨hiE, hinv, hv0, ho⟩ := hok
  have hiE : i ≤ tkN tt N := hiE
  have hv0 : v ≤ 50 := hv0
  have hinv : Inv i C P := hinv
  have hpi : P.length ≤ i := hinv.2.1
  have hci := hinv.1
  have hE4 := hE.1
  have h32 : ∀ q ∈ P, q.1 < 32 := fun q hq => (hinv.2.2.1 q hq).1
  have hin32 := inr_lt P h32
  have hk11 : I m 11 = nI (srtT tt N i) := hr.1.2.2.1
  have hk12 : J m 12 = lI (wrtT tt N i) := hr.1.2.2.2
  have hlt : kdT tt N i ≠ -1 → i < 400 := fun z => by have := nxt hE hiE z; omega
  by_cases qa : kdT tt N i = 91
  · have hpl : P.length < 400 := by have := hlt (by omega); omega
    have eF : fPart (kdT tt N) (nmT tt N) (i, false, C, v, P, oo) = (1, fOpen (kdT tt N) 31 (i, false, C, v, P, oo)) := by rw [fPart]; simp only [r_i, r_P, r_C, r_v, r_o]; rw [if_pos qa]
    rw [eF]
    refine V.aload_n (pc := 0) dX12_readPart_0 rfl ?_
    refine V.bipush (v := 91) (pc := 1) dX12_readPart_1 (by decide) ?_
    refine V.pV (as := [_]) (pc := 3) dX12_readPart_3 lX12_222 bX12_isSign nX12_isSign (ci := 11) rfl eX12_isSign hM.o (c_isSign (d := d + 3) (N := N) (i := i) (tt := tt) (c := 91) _ hM hr.1 hT.2.1 (by decide) rfl) (by omega) rfl (Nat.le_of_ble_eq_true rfl) ?_
    rw [bi_t (show kdT tt N i = ((91 : Nat) : Int) from qa)]
    refine V.if_eq 17 (pc := 6) dX12_readPart_6 (by decide) (fun h6 => absurd h6 (by decide)) (fun h6 => ?_)
    refine V.aload_n (pc := 9) dX12_readPart_9 rfl ?_
    refine V.bipush (v := 31) (pc := 10) dX12_readPart_10 (by decide) ?_
    refine V.invV0 (as := [_]) (pc := 12) dX12_readPart_12 lX12_225 bX12_openBracket nX12_openBracket (ci := 11) rfl eX12_openBracket hM.o (c_open (d := d + 0) (N := N) (tt := tt) (op := 31) _ hM hT hr rfl rfl hpl ho) (by omega) rfl (Nat.le_of_ble_eq_true rfl) ?_
    rintro _ _ _ I1 J1 _ ⟨rfl, rfl, rfl, rfl, f1, hr1⟩
    refine V.iconst (v := 1) (pc := 15) dX12_readPart_15 (by decide) ?_
    exact V.iret (pc := 16) dX12_readPart_16 rfl ⟨rfl, rfl, rfl, rfl, f1, hr1⟩
  · by_cases qb : 301 ≤ kdT tt N i
    · by_cases hv : v < 50
      · have hc : C.1 < 400 := by have := hlt (by omega); omega
        have hnm : nmT tt N i = 0 := nm_other (by omega)
        have eF : fPart (kdT tt N) (nmT tt N) (i, false, C, v, P, oo) = (3, (i + 1, false, emC C ((kdT tt N i - 300).toNat, nmT tt N i), v + 1, P, oo)) := by rw [fPart]; simp only [r_i, r_P, r_C, r_v, r_o]; rw [if_neg qa, if_pos ⟨⟨by omega, by omega⟩, hv⟩]
        rw [eF, hnm]
        have hit : ¬ iI (kdT tt N i - 300) = -1 := by rw [show (-1 : Int32) = iI (-1) from rfl, ← Int32.toInt_inj, iI_toInt (by omega) (by omega), iI_toInt (by omega) (by omega)]; omega
        refine V.aload_n (pc := 0) dX12_readPart_0 rfl ?_
        refine V.bipush (v := 91) (pc := 1) dX12_readPart_1 (by decide) ?_
        refine V.pV (as := [_]) (pc := 3) dX12_readPart_3 lX12_222 bX12_isSign nX12_isSign (ci := 11) rfl eX12_isSign hM.o (c_isSign (d := d + 3) (N := N) (i := i) (tt := tt) (c := 91) _ hM hr.1 hT.2.1 (by decide) rfl) (by omega) rfl (Nat.le_of_ble_eq_true rfl) ?_
        rw [bi_f (show ¬ kdT tt N i = ((91 : Nat) : Int) from qa)]
        refine V.if_eq 17 (pc := 6) dX12_readPart_6 (by decide) (fun h6 => ?_) (fun h6 => absurd rfl h6)
        refine V.aload_n (pc := 17) dX12_readPart_17 rfl ?_
        refine V.pV (as := []) (pc := 18) dX12_readPart_18 lX12_228 bX12_partAt nX12_partAt (ci := 11) rfl eX12_partAt hM.o (c_partAt (d := d + 2) (N := N) (i := i) (tt := tt) hM hr.1 hT.2.1 hW) (by omega) rfl (Nat.le_of_ble_eq_true rfl) ?_
        rw [if_pos qb]
        refine V.isn (pc := 21) dX12_readPart_21 (by decide) (st1_1 rfl) ?_
        refine V.aload_n (pc := 22) dX12_readPart_22 rfl ?_
        refine V.getI (pc := 23) dX12_readPart_23 fX12_171_11 rfl hM.o ?_
        rw [hk11]
        refine V.iconst (v := 2) (pc := 26) dX12_readPart_26 (by decide) ?_
        refine V.icmp_ne 45 (pc := 27) dX12_readPart_27 (by decide) (fun h27 => ?_) (fun h27 => absurd h27 (fun z => by rw [L2, nI_eq (by have := srtT_le (t := tt) (n := N) (i := i); omega) (by decide), srt2_iff (fun i _ => hT.2.1 i)] at z; omega))
        refine V.iconst (v := 0) (pc := 45) dX12_readPart_45 (by decide) ?_
        refine V.isn (pc := 46) dX12_readPart_46 (by decide) (st1_2 rfl) ?_
        refine V.aload_n (pc := 47) dX12_readPart_47 rfl ?_
        refine V.iload_n (pc := 48) dX12_readPart_48 rfl ?_
        refine V.iconst (v := (-1)) (pc := 49) dX12_readPart_49 (by decide) ?_
        refine V.icmp_ne 57 (pc := 50) dX12_readPart_50 (by decide) (fun h50 => ?_) (fun h50 => absurd h50 hit)
        refine V.iconst (v := 1) (pc := 57) dX12_readPart_57 (by decide) ?_
        refine V.goto 62 (pc := 58) dX12_readPart_58 (by decide) ?_
        refine V.iload_n (pc := 62) dX12_readPart_62 rfl ?_
        refine V.iconst (v := (-1)) (pc := 63) dX12_readPart_63 (by decide) ?_
        refine V.icmp_ne 71 (pc := 64) dX12_readPart_64 (by decide) (fun h64 => ?_) (fun h64 => absurd h64 hit)
        refine V.iload_n (pc := 71) dX12_readPart_71 rfl ?_
        refine V.iload_n (pc := 72) dX12_readPart_72 rfl ?_
        refine V.if_eq 84 (pc := 73) dX12_readPart_73 (by decide) (fun h73 => ?_) (fun h73 => absurd rfl h73)
        refine V.iconst (v := 0) (pc := 84) dX12_readPart_84 (by decide) ?_
        refine V.invV0 (as := [_, _, _]) (pc := 85) dX12_readPart_85 lX12_234 bX12_leaf nX12_leaf (ci := 11) rfl eX12_leaf hM.o (c_leafY (d := d + 0) (N := N) (tt := tt) (op := (kdT tt N i - 300).toNat) (ar := 0) _ _ _ hM hT hr rfl (by decide) (by rw [← iI_nat]; congr 1; omega) rfl hv hc) (by omega) rfl (Nat.le_of_ble_eq_true rfl) ?_
        rintro _ _ _ I1 J1 _ ⟨rfl, rfl, rfl, rfl, f1, hr1⟩
        refine V.iconst (v := 3) (pc := 88) dX12_readPart_88 (by decide) ?_
        exact V.iret (pc := 89) dX12_readPart_89 rfl ⟨rfl, rfl, rfl, rfl, f1, hr1⟩
      · have eF : fPart (kdT tt N) (nmT tt N) (i, false, C, v, P, oo) = (3, badR (i, false, C, v, P, oo)) := by rw [fPart]; simp only [r_i, r_P, r_C, r_v, r_o]; rw [if_neg qa, if_neg (fun z => hv z.2)]
        rw [eF]
        have hit : ¬ iI (kdT tt N i - 300) = -1 := by rw [show (-1 : Int32) = iI (-1) from rfl, ← Int32.toInt_inj, iI_toInt (by omega) (by omega), iI_toInt (by omega) (by omega)]; omega
        refine V.aload_n (pc := 0) dX12_readPart_0 rfl ?_
        refine V.bipush (v := 91) (pc := 1) dX12_readPart_1 (by decide) ?_
        refine V.pV (as := [_]) (pc := 3) dX12_readPart_3 lX12_222 bX12_isSign nX12_isSign (ci := 11) rfl eX12_isSign hM.o (c_isSign (d := d + 3) (N := N) (i := i) (tt := tt) (c := 91) _ hM hr.1 hT.2.1 (by decide) rfl) (by omega) rfl (Nat.le_of_ble_eq_true rfl) ?_
        rw [bi_f (show ¬ kdT tt N i = ((91 : Nat) : Int) from qa)]
        refine V.if_eq 17 (pc := 6) dX12_readPart_6 (by decide) (fun h6 => ?_) (fun h6 => absurd rfl h6)
        refine V.aload_n (pc := 17) dX12_readPart_17 rfl ?_
        refine V.pV (as := []) (pc := 18) dX12_readPart_18 lX12_228 bX12_partAt nX12_partAt (ci := 11) rfl eX12_partAt hM.o (c_partAt (d := d + 2) (N := N) (i := i) (tt := tt) hM hr.1 hT.2.1 hW) (by omega) rfl (Nat.le_of_ble_eq_true rfl) ?_
        rw [if_pos qb]
        refine V.isn (pc := 21) dX12_readPart_21 (by decide) (st1_1 rfl) ?_
        refine V.aload_n (pc := 22) dX12_readPart_22 rfl ?_
        refine V.getI (pc := 23) dX12_readPart_23 fX12_171_11 rfl hM.o ?_
        rw [hk11]
        refine V.iconst (v := 2) (pc := 26) dX12_readPart_26 (by decide) ?_
        refine V.icmp_ne 45 (pc := 27) dX12_readPart_27 (by decide) (fun h27 => ?_) (fun h27 => absurd h27 (fun z => by rw [L2, nI_eq (by have := srtT_le (t := tt) (n := N) (i := i); omega) (by decide), srt2_iff (fun i _ => hT.2.1 i)] at z; omega))
        refine V.iconst (v := 0) (pc := 45) dX12_readPart_45 (by decide) ?_
        refine V.isn (pc := 46) dX12_readPart_46 (by decide) (st1_2 rfl) ?_
        refine V.aload_n (pc := 47) dX12_readPart_47 rfl ?_
        refine V.iload_n (pc := 48) dX12_readPart_48 rfl ?_
        refine V.iconst (v := (-1)) (pc := 49) dX12_readPart_49 (by decide) ?_
        refine V.icmp_ne 57 (pc := 50) dX12_readPart_50 (by decide) (fun h50 => ?_) (fun h50 => absurd h50 hit)
        refine V.iconst (v := 1) (pc := 57) dX12_readPart_57 (by decide) ?_
        refine V.goto 62 (pc := 58) dX12_readPart_58 (by decide) ?_
        refine V.iload_n (pc := 62) dX12_readPart_62 rfl ?_
        refine V.iconst (v := (-1)) (pc := 63) dX12_readPart_63 (by decide) ?_
        refine V.icmp_ne 71 (pc := 64) dX12_readPart_64 (by decide) (fun h64 => ?_) (fun h64 => absurd h64 hit)
        refine V.iload_n (pc := 71) dX12_readPart_71 rfl ?_
        refine V.iload_n (pc := 72) dX12_readPart_72 rfl ?_
        refine V.if_eq 84 (pc := 73) dX12_readPart_73 (by decide) (fun h73 => ?_) (fun h73 => absurd rfl h73)
        refine V.iconst (v := 0) (pc := 84) dX12_readPart_84 (by decide) ?_
        refine V.invV0 (as := [_, _, _]) (pc := 85) dX12_readPart_85 lX12_234 bX12_leaf nX12_leaf (ci := 11) rfl eX12_leaf hM.o (c_leafN (d := d + 0) (N := N) (tt := tt) _ _ _ hM hT hr rfl (Or.inr hv) hv0) (by omega) rfl (Nat.le_of_ble_eq_true rfl) ?_
        rintro _ _ _ I1 J1 _ ⟨rfl, rfl, rfl, rfl, f1, hr1⟩
        refine V.iconst (v := 3) (pc := 88) dX12_readPart_88 (by decide) ?_
        exact V.iret (pc := 89) dX12_readPart_89 rfl ⟨rfl, rfl, rfl, rfl, f1, hr1⟩
    · by_cases qc : kdT tt N i = 300
      · by_cases qd : nmT tt N i ≤ 10000
        · by_cases hv : v < 50
          · have hc : C.1 < 400 := by have := hlt (by omega); omega
            have eF : fPart (kdT tt N) (nmT tt N) (i, false, C, v, P, oo) = (3, (i + 1, false, emC C ((kdT tt N i - 300).toNat, nmT tt N i), v + 1, P, oo)) := by rw [fPart]; simp only [r_i, r_P, r_C, r_v, r_o]; rw [if_neg qa, if_pos ⟨⟨by omega, qd⟩, hv⟩]
            rw [eF, show (kdT tt N i - 300).toNat = 0 by omega]
            refine V.aload_n (pc := 0) dX12_readPart_0 rfl ?_
            refine V.bipush (v := 91) (pc := 1) dX12_readPart_1 (by decide) ?_
            refine V.pV (as := [_]) (pc := 3) dX12_readPart_3 lX12_222 bX12_isSign nX12_isSign (ci := 11) rfl eX12_isSign hM.o (c_isSign (d := d + 3) (N := N) (i := i) (tt := tt) (c := 91) _ hM hr.1 hT.2.1 (by decide) rfl) (by omega) rfl (Nat.le_of_ble_eq_true rfl) ?_
            rw [bi_f (show ¬ kdT tt N i = ((91 : Nat) : Int) from qa)]
            refine V.if_eq 17 (pc := 6) dX12_readPart_6 (by decide) (fun h6 => ?_) (fun h6 => absurd rfl h6)
            refine V.aload_n (pc := 17) dX12_readPart_17 rfl ?_
            refine V.pV (as := []) (pc := 18) dX12_readPart_18 lX12_228 bX12_partAt nX12_partAt (ci := 11) rfl eX12_partAt hM.o (c_partAt (d := d + 2) (N := N) (i := i) (tt := tt) hM hr.1 hT.2.1 hW) (by omega) rfl (Nat.le_of_ble_eq_true rfl) ?_
            rw [if_neg (by omega)]
            refine V.isn (pc := 21) dX12_readPart_21 (by decide) (st1_1 rfl) ?_
            refine V.aload_n (pc := 22) dX12_readPart_22 rfl ?_
            refine V.getI (pc := 23) dX12_readPart_23 fX12_171_11 rfl hM.o ?_
            rw [hk11]
            refine V.iconst (v := 2) (pc := 26) dX12_readPart_26 (by decide) ?_
            refine V.icmp_ne 45 (pc := 27) dX12_readPart_27 (by decide) (fun h27 => absurd (show nI (srtT tt N i) = 2 by rw [(srt2_iff (fun i _ => hT.2.1 i)).mpr qc]; rfl) h27) (fun h27 => ?_)
            refine V.aload_n (pc := 30) dX12_readPart_30 rfl ?_
            refine V.getJ (pc := 31) dX12_readPart_31 fX12_161_11 rfl hM.o ?_
            rw [hk12]
            refine V.ldc2 (pc := 34) dX12_readPart_34 qX12_232 ?_
            refine V.lcmp_gt 45 (pc := 37) dX12_readPart_37 dX12_readPart_38 (by decide) (fun h37 => absurd h37 (by rw [show (10000 : Int64) = lI 10000 from rfl, Int64.lt_iff_toInt_lt, lI_toInt (by omega) (by omega), lI_toInt (by omega) (by omega)]; have := (dig_iff (fun i _ => hT.2.1 i)).mpr ⟨qc, qd⟩; omega)) (fun h37 => ?_)
            refine V.iconst (v := 1) (pc := 41) dX12_readPart_41 (by decide) ?_
            refine V.goto 46 (pc := 42) dX12_readPart_42 (by decide) ?_
            refine V.isn (pc := 46) dX12_readPart_46 (by decide) (st1_2 rfl) ?_
            refine V.aload_n (pc := 47) dX12_readPart_47 rfl ?_
            refine V.iload_n (pc := 48) dX12_readPart_48 rfl ?_
            refine V.iconst (v := (-1)) (pc := 49) dX12_readPart_49 (by decide) ?_
            refine V.icmp_ne 57 (pc := 50) dX12_readPart_50 (by decide) (fun h50 => absurd rfl h50) (fun h50 => ?_)
            refine V.iload_n (pc := 53) dX12_readPart_53 rfl ?_
            refine V.if_eq 61 (pc := 54) dX12_readPart_54 (by decide) (fun h54 => absurd h54 (by decide)) (fun h54 => ?_)
            refine V.iconst (v := 1) (pc := 57) dX12_readPart_57 (by decide) ?_
            refine V.goto 62 (pc := 58) dX12_readPart_58 (by decide) ?_
            refine V.iload_n (pc := 62) dX12_readPart_62 rfl ?_
            refine V.iconst (v := (-1)) (pc := 63) dX12_readPart_63 (by decide) ?_
            refine V.icmp_ne 71 (pc := 64) dX12_readPart_64 (by decide) (fun h64 => absurd rfl h64) (fun h64 => ?_)
            refine V.iconst (v := 0) (pc := 67) dX12_readPart_67 (by decide) ?_
            refine V.goto 72 (pc := 68) dX12_readPart_68 (by decide) ?_
            refine V.iload_n (pc := 72) dX12_readPart_72 rfl ?_
            refine V.if_eq 84 (pc := 73) dX12_readPart_73 (by decide) (fun h73 => absurd h73 (by decide)) (fun h73 => ?_)
            refine V.aload_n (pc := 76) dX12_readPart_76 rfl ?_
            refine V.getJ (pc := 77) dX12_readPart_77 fX12_161_11 rfl hM.o ?_
            rw [hk12, dig_val qc qd (fun i _ => hT.2.1 i), lI_nat]
            refine V.l2i (pc := 80) dX12_readPart_80 ?_
            rw [lN_int (by omega)]
            refine V.goto 85 (pc := 81) dX12_readPart_81 (by decide) ?_
            refine V.invV0 (as := [_, _, _]) (pc := 85) dX12_readPart_85 lX12_234 bX12_leaf nX12_leaf (ci := 11) rfl eX12_leaf hM.o (c_leafY (d := d + 0) (N := N) (tt := tt) (op := 0) (ar := nmT tt N i) _ _ _ hM hT hr rfl (by decide) rfl rfl hv hc) (by omega) rfl (Nat.le_of_ble_eq_true rfl) ?_
            rintro _ _ _ I1 J1 _ ⟨rfl, rfl, rfl, rfl, f1, hr1⟩
            refine V.iconst (v := 3) (pc := 88) dX12_readPart_88 (by decide) ?_
            exact V.iret (pc := 89) dX12_readPart_89 rfl ⟨rfl, rfl, rfl, rfl, f1, hr1⟩
          · have eF : fPart (kdT tt N) (nmT tt N) (i, false, C, v, P, oo) = (3, badR (i, false, C, v, P, oo)) := by rw [fPart]; simp only [r_i, r_P, r_C, r_v, r_o]; rw [if_neg qa, if_neg (fun z => hv z.2)]
            rw [eF]
            refine V.aload_n (pc := 0) dX12_readPart_0 rfl ?_
            refine V.bipush (v := 91) (pc := 1) dX12_readPart_1 (by decide) ?_
            refine V.pV (as := [_]) (pc := 3) dX12_readPart_3 lX12_222 bX12_isSign nX12_isSign (ci := 11) rfl eX12_isSign hM.o (c_isSign (d := d + 3) (N := N) (i := i) (tt := tt) (c := 91) _ hM hr.1 hT.2.1 (by decide) rfl) (by omega) rfl (Nat.le_of_ble_eq_true rfl) ?_
            rw [bi_f (show ¬ kdT tt N i = ((91 : Nat) : Int) from qa)]
            refine V.if_eq 17 (pc := 6) dX12_readPart_6 (by decide) (fun h6 => ?_) (fun h6 => absurd rfl h6)
            refine V.aload_n (pc := 17) dX12_readPart_17 rfl ?_
            refine V.pV (as := []) (pc := 18) dX12_readPart_18 lX12_228 bX12_partAt nX12_partAt (ci := 11) rfl eX12_partAt hM.o (c_partAt (d := d + 2) (N := N) (i := i) (tt := tt) hM hr.1 hT.2.1 hW) (by omega) rfl (Nat.le_of_ble_eq_true rfl) ?_
            rw [if_neg (by omega)]
            refine V.isn (pc := 21) dX12_readPart_21 (by decide) (st1_1 rfl) ?_
            refine V.aload_n (pc := 22) dX12_readPart_22 rfl ?_
            refine V.getI (pc := 23) dX12_readPart_23 fX12_171_11 rfl hM.o ?_
            rw [hk11]
            refine V.iconst (v := 2) (pc := 26) dX12_readPart_26 (by decide) ?_
            refine V.icmp_ne 45 (pc := 27) dX12_readPart_27 (by decide) (fun h27 => absurd (show nI (srtT tt N i) = 2 by rw [(srt2_iff (fun i _ => hT.2.1 i)).mpr qc]; rfl) h27) (fun h27 => ?_)
            refine V.aload_n (pc := 30) dX12_readPart_30 rfl ?_
            refine V.getJ (pc := 31) dX12_readPart_31 fX12_161_11 rfl hM.o ?_
            rw [hk12]
            refine V.ldc2 (pc := 34) dX12_readPart_34 qX12_232 ?_
            refine V.lcmp_gt 45 (pc := 37) dX12_readPart_37 dX12_readPart_38 (by decide) (fun h37 => absurd h37 (by rw [show (10000 : Int64) = lI 10000 from rfl, Int64.lt_iff_toInt_lt, lI_toInt (by omega) (by omega), lI_toInt (by omega) (by omega)]; have := (dig_iff (fun i _ => hT.2.1 i)).mpr ⟨qc, qd⟩; omega)) (fun h37 => ?_)
            refine V.iconst (v := 1) (pc := 41) dX12_readPart_41 (by decide) ?_
            refine V.goto 46 (pc := 42) dX12_readPart_42 (by decide) ?_
            refine V.isn (pc := 46) dX12_readPart_46 (by decide) (st1_2 rfl) ?_
            refine V.aload_n (pc := 47) dX12_readPart_47 rfl ?_
            refine V.iload_n (pc := 48) dX12_readPart_48 rfl ?_
            refine V.iconst (v := (-1)) (pc := 49) dX12_readPart_49 (by decide) ?_
            refine V.icmp_ne 57 (pc := 50) dX12_readPart_50 (by decide) (fun h50 => absurd rfl h50) (fun h50 => ?_)
            refine V.iload_n (pc := 53) dX12_readPart_53 rfl ?_
            refine V.if_eq 61 (pc := 54) dX12_readPart_54 (by decide) (fun h54 => absurd h54 (by decide)) (fun h54 => ?_)
            refine V.iconst (v := 1) (pc := 57) dX12_readPart_57 (by decide) ?_
            refine V.goto 62 (pc := 58) dX12_readPart_58 (by decide) ?_
            refine V.iload_n (pc := 62) dX12_readPart_62 rfl ?_
            refine V.iconst (v := (-1)) (pc := 63) dX12_readPart_63 (by decide) ?_
            refine V.icmp_ne 71 (pc := 64) dX12_readPart_64 (by decide) (fun h64 => absurd rfl h64) (fun h64 => ?_)
            refine V.iconst (v := 0) (pc := 67) dX12_readPart_67 (by decide) ?_
            refine V.goto 72 (pc := 68) dX12_readPart_68 (by decide) ?_
            refine V.iload_n (pc := 72) dX12_readPart_72 rfl ?_
            refine V.if_eq 84 (pc := 73) dX12_readPart_73 (by decide) (fun h73 => absurd h73 (by decide)) (fun h73 => ?_)
            refine V.aload_n (pc := 76) dX12_readPart_76 rfl ?_
            refine V.getJ (pc := 77) dX12_readPart_77 fX12_161_11 rfl hM.o ?_
            rw [hk12, dig_val qc qd (fun i _ => hT.2.1 i), lI_nat]
            refine V.l2i (pc := 80) dX12_readPart_80 ?_
            rw [lN_int (by omega)]
            refine V.goto 85 (pc := 81) dX12_readPart_81 (by decide) ?_
            refine V.invV0 (as := [_, _, _]) (pc := 85) dX12_readPart_85 lX12_234 bX12_leaf nX12_leaf (ci := 11) rfl eX12_leaf hM.o (c_leafN (d := d + 0) (N := N) (tt := tt) _ _ _ hM hT hr rfl (Or.inr hv) hv0) (by omega) rfl (Nat.le_of_ble_eq_true rfl) ?_
            rintro _ _ _ I1 J1 _ ⟨rfl, rfl, rfl, rfl, f1, hr1⟩
            refine V.iconst (v := 3) (pc := 88) dX12_readPart_88 (by decide) ?_
            exact V.iret (pc := 89) dX12_readPart_89 rfl ⟨rfl, rfl, rfl, rfl, f1, hr1⟩
        · have eF : fPart (kdT tt N) (nmT tt N) (i, false, C, v, P, oo) = (3, badR (i, false, C, v, P, oo)) := by rw [fPart]; simp only [r_i, r_P, r_C, r_v, r_o]; rw [if_neg qa, if_neg (fun z => qd z.1.2)]
          rw [eF]
          refine V.aload_n (pc := 0) dX12_readPart_0 rfl ?_
          refine V.bipush (v := 91) (pc := 1) dX12_readPart_1 (by decide) ?_
          refine V.pV (as := [_]) (pc := 3) dX12_readPart_3 lX12_222 bX12_isSign nX12_isSign (ci := 11) rfl eX12_isSign hM.o (c_isSign (d := d + 3) (N := N) (i := i) (tt := tt) (c := 91) _ hM hr.1 hT.2.1 (by decide) rfl) (by omega) rfl (Nat.le_of_ble_eq_true rfl) ?_
          rw [bi_f (show ¬ kdT tt N i = ((91 : Nat) : Int) from qa)]
          refine V.if_eq 17 (pc := 6) dX12_readPart_6 (by decide) (fun h6 => ?_) (fun h6 => absurd rfl h6)
          refine V.aload_n (pc := 17) dX12_readPart_17 rfl ?_
          refine V.pV (as := []) (pc := 18) dX12_readPart_18 lX12_228 bX12_partAt nX12_partAt (ci := 11) rfl eX12_partAt hM.o (c_partAt (d := d + 2) (N := N) (i := i) (tt := tt) hM hr.1 hT.2.1 hW) (by omega) rfl (Nat.le_of_ble_eq_true rfl) ?_
          rw [if_neg (by omega)]
          refine V.isn (pc := 21) dX12_readPart_21 (by decide) (st1_1 rfl) ?_
          refine V.aload_n (pc := 22) dX12_readPart_22 rfl ?_
          refine V.getI (pc := 23) dX12_readPart_23 fX12_171_11 rfl hM.o ?_
          rw [hk11]
          refine V.iconst (v := 2) (pc := 26) dX12_readPart_26 (by decide) ?_
          refine V.icmp_ne 45 (pc := 27) dX12_readPart_27 (by decide) (fun h27 => absurd (show nI (srtT tt N i) = 2 by rw [(srt2_iff (fun i _ => hT.2.1 i)).mpr qc]; rfl) h27) (fun h27 => ?_)
          refine V.aload_n (pc := 30) dX12_readPart_30 rfl ?_
          refine V.getJ (pc := 31) dX12_readPart_31 fX12_161_11 rfl hM.o ?_
          rw [hk12]
          refine V.ldc2 (pc := 34) dX12_readPart_34 qX12_232 ?_
          refine V.lcmp_gt 45 (pc := 37) dX12_readPart_37 dX12_readPart_38 (by decide) (fun h37 => ?_) (fun h37 => absurd (by rw [show (10000 : Int64) = lI 10000 from rfl, Int64.lt_iff_toInt_lt, lI_toInt (by omega) (by omega), lI_toInt (by omega) (by omega)]; exact Int.not_le.mp (fun z => qd ((dig_iff (fun i _ => hT.2.1 i)).mp ⟨(srt2_iff (fun i _ => hT.2.1 i)).mpr qc, z⟩).2)) h37)
          refine V.iconst (v := 0) (pc := 45) dX12_readPart_45 (by decide) ?_
          refine V.isn (pc := 46) dX12_readPart_46 (by decide) (st1_2 rfl) ?_
          refine V.aload_n (pc := 47) dX12_readPart_47 rfl ?_
          refine V.iload_n (pc := 48) dX12_readPart_48 rfl ?_
          refine V.iconst (v := (-1)) (pc := 49) dX12_readPart_49 (by decide) ?_
          refine V.icmp_ne 57 (pc := 50) dX12_readPart_50 (by decide) (fun h50 => absurd rfl h50) (fun h50 => ?_)
          refine V.iload_n (pc := 53) dX12_readPart_53 rfl ?_
          refine V.if_eq 61 (pc := 54) dX12_readPart_54 (by decide) (fun h54 => ?_) (fun h54 => absurd rfl h54)
          refine V.iconst (v := 0) (pc := 61) dX12_readPart_61 (by decide) ?_
          refine V.iload_n (pc := 62) dX12_readPart_62 rfl ?_
          refine V.iconst (v := (-1)) (pc := 63) dX12_readPart_63 (by decide) ?_
          refine V.icmp_ne 71 (pc := 64) dX12_readPart_64 (by decide) (fun h64 => absurd rfl h64) (fun h64 => ?_)
          refine V.iconst (v := 0) (pc := 67) dX12_readPart_67 (by decide) ?_
          refine V.goto 72 (pc := 68) dX12_readPart_68 (by decide) ?_
          refine V.iload_n (pc := 72) dX12_readPart_72 rfl ?_
          refine V.if_eq 84 (pc := 73) dX12_readPart_73 (by decide) (fun h73 => ?_) (fun h73 => absurd rfl h73)
          refine V.iconst (v := 0) (pc := 84) dX12_readPart_84 (by decide) ?_
          refine V.invV0 (as := [_, _, _]) (pc := 85) dX12_readPart_85 lX12_234 bX12_leaf nX12_leaf (ci := 11) rfl eX12_leaf hM.o (c_leafN (d := d + 0) (N := N) (tt := tt) _ _ _ hM hT hr rfl (Or.inl rfl) hv0) (by omega) rfl (Nat.le_of_ble_eq_true rfl) ?_
          rintro _ _ _ I1 J1 _ ⟨rfl, rfl, rfl, rfl, f1, hr1⟩
          refine V.iconst (v := 3) (pc := 88) dX12_readPart_88 (by decide) ?_
          exact V.iret (pc := 89) dX12_readPart_89 rfl ⟨rfl, rfl, rfl, rfl, f1, hr1⟩
      · have eF : fPart (kdT tt N) (nmT tt N) (i, false, C, v, P, oo) = (3, badR (i, false, C, v, P, oo)) := by rw [fPart]; simp only [r_i, r_P, r_C, r_v, r_o]; rw [if_neg qa, if_neg (by omega)]
        rw [eF]
        refine V.aload_n (pc := 0) dX12_readPart_0 rfl ?_
        refine V.bipush (v := 91) (pc := 1) dX12_readPart_1 (by decide) ?_
        refine V.pV (as := [_]) (pc := 3) dX12_readPart_3 lX12_222 bX12_isSign nX12_isSign (ci := 11) rfl eX12_isSign hM.o (c_isSign (d := d + 3) (N := N) (i := i) (tt := tt) (c := 91) _ hM hr.1 hT.2.1 (by decide) rfl) (by omega) rfl (Nat.le_of_ble_eq_true rfl) ?_
        rw [bi_f (show ¬ kdT tt N i = ((91 : Nat) : Int) from qa)]
        refine V.if_eq 17 (pc := 6) dX12_readPart_6 (by decide) (fun h6 => ?_) (fun h6 => absurd rfl h6)
        refine V.aload_n (pc := 17) dX12_readPart_17 rfl ?_
        refine V.pV (as := []) (pc := 18) dX12_readPart_18 lX12_228 bX12_partAt nX12_partAt (ci := 11) rfl eX12_partAt hM.o (c_partAt (d := d + 2) (N := N) (i := i) (tt := tt) hM hr.1 hT.2.1 hW) (by omega) rfl (Nat.le_of_ble_eq_true rfl) ?_
        rw [if_neg (by omega)]
        refine V.isn (pc := 21) dX12_readPart_21 (by decide) (st1_1 rfl) ?_
        refine V.aload_n (pc := 22) dX12_readPart_22 rfl ?_
        refine V.getI (pc := 23) dX12_readPart_23 fX12_171_11 rfl hM.o ?_
        rw [hk11]
        refine V.iconst (v := 2) (pc := 26) dX12_readPart_26 (by decide) ?_
        refine V.icmp_ne 45 (pc := 27) dX12_readPart_27 (by decide) (fun h27 => ?_) (fun h27 => absurd h27 (fun z => by rw [L2, nI_eq (by have := srtT_le (t := tt) (n := N) (i := i); omega) (by decide), srt2_iff (fun i _ => hT.2.1 i)] at z; omega))
        refine V.iconst (v := 0) (pc := 45) dX12_readPart_45 (by decide) ?_
        refine V.isn (pc := 46) dX12_readPart_46 (by decide) (st1_2 rfl) ?_
        refine V.aload_n (pc := 47) dX12_readPart_47 rfl ?_
        refine V.iload_n (pc := 48) dX12_readPart_48 rfl ?_
        refine V.iconst (v := (-1)) (pc := 49) dX12_readPart_49 (by decide) ?_
        refine V.icmp_ne 57 (pc := 50) dX12_readPart_50 (by decide) (fun h50 => absurd rfl h50) (fun h50 => ?_)
        refine V.iload_n (pc := 53) dX12_readPart_53 rfl ?_
        refine V.if_eq 61 (pc := 54) dX12_readPart_54 (by decide) (fun h54 => ?_) (fun h54 => absurd rfl h54)
        refine V.iconst (v := 0) (pc := 61) dX12_readPart_61 (by decide) ?_
        refine V.iload_n (pc := 62) dX12_readPart_62 rfl ?_
        refine V.iconst (v := (-1)) (pc := 63) dX12_readPart_63 (by decide) ?_
        refine V.icmp_ne 71 (pc := 64) dX12_readPart_64 (by decide) (fun h64 => absurd rfl h64) (fun h64 => ?_)
        refine V.iconst (v := 0) (pc := 67) dX12_readPart_67 (by decide) ?_
        refine V.goto 72 (pc := 68) dX12_readPart_68 (by decide) ?_
        refine V.iload_n (pc := 72) dX12_readPart_72 rfl ?_
        refine V.if_eq 84 (pc := 73) dX12_readPart_73 (by decide) (fun h73 => ?_) (fun h73 => absurd rfl h73)
        refine V.iconst (v := 0) (pc := 84) dX12_readPart_84 (by decide) ?_
        refine V.invV0 (as := [_, _, _]) (pc := 85) dX12_readPart_85 lX12_234 bX12_leaf nX12_leaf (ci := 11) rfl eX12_leaf hM.o (c_leafN (d := d + 0) (N := N) (tt := tt) _ _ _ hM hT hr rfl (Or.inl rfl) hv0) (by omega) rfl (Nat.le_of_ble_eq_true rfl) ?_
        rintro _ _ _ I1 J1 _ ⟨rfl, rfl, rfl, rfl, f1, hr1⟩
        refine V.iconst (v := 3) (pc := 88) dX12_readPart_88 (by decide) ?_
        exact V.iret (pc := 89) dX12_readPart_89 rfl ⟨rfl, rfl, rfl, rfl, f1, hr1⟩
theorem c_readPlain {g : gG} {d : Nat} {T : mT} {n : Nat} {I : mI} {J : mJ} {F : mF} {m N : Nat} {tt : Nat → Nat} {r : RS} (hM : MS T F m) (hT : TpM tt N I m) (hr : RdM tt N r I J m) (hW : WdM J m) (hok : RdOK (tkN tt N) r) (hb : r_b r = false) : Ct g mX12_readPlain (d + 5) [.ref m] 0 0 T n I J F (fun r' T' n' I' J' F' => r' = some (.int (nI (fPlain (kdT tt N) (nmT tt N) r).1)) ∧ T' = T ∧ n' = n ∧ F' = F ∧ PrF m I J I' J' ∧ RdM tt N ((fPlain (kdT tt N) (nmT tt N) r).2) I' J' m) := by
  refine Ct.ofV (k := 0) (by decide) (Nat.le_of_ble_eq_true rfl) ?_
  show V g mX12_readPlain (d + 5) _ 0 0 0 [some (.ref m)] [] T n I J F
  obtain ⟨i, b, C, v, P, oo⟩ := r
  have hb2 : b = false := hb
  subst hb2
  have h305 := kdT_le (t := tt) (n := N) (fun i _ => hT.2.1 i) i
  have hwb := wrtT_bd (t := tt) (n := N) (i := i) hT.2.1
  have hE : EndT (kdT tt N) (tkN tt N) := EndT.of hT.1
  obtain ⟨hiE, hinv, hv0, ho⟩ := hok
  have hiE : i ≤ tkN tt N := hiE
  have hv0 : v ≤ 50 := hv0
  have hinv : Inv i C P := hinv
  have hpi : P.length ≤ i := hinv.2.1
  have hci := hinv.1
  have hE4 := hE.1
  have h32 : ∀ q ∈ P, q.1 < 32 := fun q hq => (hinv.2.2.1 q hq).1
  have hin32 := inr_lt P h32
  have hk11 : I m 11 = nI (srtT tt N i) := hr.1.2.2.1
  have hk12 : J m 12 = lI (wrtT tt N i) := hr.1.2.2.2
  have hlt : kdT tt N i ≠ -1 → i < 400 := fun z => by have := nxt hE hiE z; omega
  by_cases qa : kdT tt N i = 261
  · have hpl : P.length < 400 := by have := hlt (by omega); omega
    have eF : fPlain (kdT tt N) (nmT tt N) (i, false, C, v, P, oo) = (0, (i + 1, false, C, v, (27, 0) :: P, oo)) := by rw [fPlain]; simp only [r_i, r_P, r_C, r_v, r_o]; rw [if_pos qa]
    rw [eF]
    refine V.aload_n (pc := 0) dX12_readPlain_0 rfl ?_
    refine V.ldc2 (pc := 1) dX12_readPlain_1 qX12_238 ?_
    refine V.pV (as := [_]) (pc := 4) dX12_readPlain_4 lX12_209 bX12_isWord nX12_isWord (ci := 11) rfl eX12_isWord hM.o (c_isWord (d := d + 4) (N := N) (i := i) (tt := tt) (w := 14836) _ hM hr.1 hT.2.1 (by decide) rfl) (by omega) rfl (Nat.le_of_ble_eq_true rfl) ?_
    rw [bi_c (wn_261 (fun i _ => hT.2.1 i)), bi_t qa]
    refine V.if_eq 23 (pc := 7) dX12_readPlain_7 (by decide) (fun h7 => absurd h7 (by decide)) (fun h7 => ?_)
    refine V.aload_n (pc := 10) dX12_readPlain_10 rfl ?_
    refine V.bipush (v := 27) (pc := 11) dX12_readPlain_11 (by decide) ?_
    refine V.iconst (v := 0) (pc := 13) dX12_readPlain_13 (by decide) ?_
    refine V.invV0 (as := [_, _]) (pc := 14) dX12_readPlain_14 lX12_216 bX12_push nX12_push (ci := 11) rfl eX12_push hM.o (c_push (d := d + 4) (N := N) (tt := tt) (op := 27) (ar := 0) _ _ hM hT hr rfl rfl hpl) (by omega) rfl (Nat.le_of_ble_eq_true rfl) ?_
    rintro _ _ _ I1 J1 _ ⟨rfl, rfl, rfl, rfl, f1, hr1⟩
    refine V.aload_n (pc := 17) dX12_readPlain_17 rfl ?_
    refine V.invV0 (as := []) (pc := 18) dX12_readPlain_18 lX12_155 bX12_next nX12_next (ci := 11) rfl eX12_next hM.o (c_next (d := d + 3) (N := N) (tt := tt) (i := i + 1) hM (f1.tp hT) hr1.1.2.1) (by omega) rfl (Nat.le_of_ble_eq_true rfl) ?_
    rintro _ _ _ I2 J2 _ ⟨rfl, rfl, rfl, rfl, f2, k2⟩
    refine V.iconst (v := 0) (pc := 21) dX12_readPlain_21 (by decide) ?_
    exact V.iret (pc := 22) dX12_readPlain_22 rfl ⟨rfl, rfl, rfl, rfl, f1.tr f2.pr, hr1.nx rfl f2 k2⟩
  · by_cases qb : kdT tt N i = 40
    · have hpl : P.length < 400 := by have := hlt (by omega); omega
      have eF : fPlain (kdT tt N) (nmT tt N) (i, false, C, v, P, oo) = (0, fOpen (kdT tt N) 30 (i, false, C, v, P, oo)) := by rw [fPlain]; simp only [r_i, r_P, r_C, r_v, r_o]; rw [if_neg qa, if_pos qb]
      rw [eF]
      refine V.aload_n (pc := 0) dX12_readPlain_0 rfl ?_
      refine V.ldc2 (pc := 1) dX12_readPlain_1 qX12_238 ?_
      refine V.pV (as := [_]) (pc := 4) dX12_readPlain_4 lX12_209 bX12_isWord nX12_isWord (ci := 11) rfl eX12_isWord hM.o (c_isWord (d := d + 4) (N := N) (i := i) (tt := tt) (w := 14836) _ hM hr.1 hT.2.1 (by decide) rfl) (by omega) rfl (Nat.le_of_ble_eq_true rfl) ?_
      rw [bi_c (wn_261 (fun i _ => hT.2.1 i)), bi_f qa]
      refine V.if_eq 23 (pc := 7) dX12_readPlain_7 (by decide) (fun h7 => ?_) (fun h7 => absurd rfl h7)
      refine V.aload_n (pc := 23) dX12_readPlain_23 rfl ?_
      refine V.bipush (v := 40) (pc := 24) dX12_readPlain_24 (by decide) ?_
      refine V.pV (as := [_]) (pc := 26) dX12_readPlain_26 lX12_222 bX12_isSign nX12_isSign (ci := 11) rfl eX12_isSign hM.o (c_isSign (d := d + 4) (N := N) (i := i) (tt := tt) (c := 40) _ hM hr.1 hT.2.1 (by decide) rfl) (by omega) rfl (Nat.le_of_ble_eq_true rfl) ?_
      rw [bi_t (show kdT tt N i = ((40 : Nat) : Int) from qb)]
      refine V.if_eq 40 (pc := 29) dX12_readPlain_29 (by decide) (fun h29 => absurd h29 (by decide)) (fun h29 => ?_)
      refine V.aload_n (pc := 32) dX12_readPlain_32 rfl ?_
      refine V.bipush (v := 30) (pc := 33) dX12_readPlain_33 (by decide) ?_
      refine V.invV0 (as := [_]) (pc := 35) dX12_readPlain_35 lX12_225 bX12_openBracket nX12_openBracket (ci := 11) rfl eX12_openBracket hM.o (c_open (d := d + 1) (N := N) (tt := tt) (op := 30) _ hM hT hr rfl rfl hpl ho) (by omega) rfl (Nat.le_of_ble_eq_true rfl) ?_
      rintro _ _ _ I1 J1 _ ⟨rfl, rfl, rfl, rfl, f1, hr1⟩
      refine V.iconst (v := 0) (pc := 38) dX12_readPlain_38 (by decide) ?_
      exact V.iret (pc := 39) dX12_readPlain_39 rfl ⟨rfl, rfl, rfl, rfl, f1, hr1⟩
    · have eF : fPlain (kdT tt N) (nmT tt N) (i, false, C, v, P, oo) = fPart (kdT tt N) (nmT tt N) (i, false, C, v, P, oo) := by rw [fPlain]; simp only [r_i, r_P, r_C, r_v, r_o]; rw [if_neg qa, if_neg qb]
      rw [eF]
      refine V.aload_n (pc := 0) dX12_readPlain_0 rfl ?_
      refine V.ldc2 (pc := 1) dX12_readPlain_1 qX12_238 ?_
      refine V.pV (as := [_]) (pc := 4) dX12_readPlain_4 lX12_209 bX12_isWord nX12_isWord (ci := 11) rfl eX12_isWord hM.o (c_isWord (d := d + 4) (N := N) (i := i) (tt := tt) (w := 14836) _ hM hr.1 hT.2.1 (by decide) rfl) (by omega) rfl (Nat.le_of_ble_eq_true rfl) ?_
      rw [bi_c (wn_261 (fun i _ => hT.2.1 i)), bi_f qa]
      refine V.if_eq 23 (pc := 7) dX12_readPlain_7 (by decide) (fun h7 => ?_) (fun h7 => absurd rfl h7)
      refine V.aload_n (pc := 23) dX12_readPlain_23 rfl ?_
      refine V.bipush (v := 40) (pc := 24) dX12_readPlain_24 (by decide) ?_
      refine V.pV (as := [_]) (pc := 26) dX12_readPlain_26 lX12_222 bX12_isSign nX12_isSign (ci := 11) rfl eX12_isSign hM.o (c_isSign (d := d + 4) (N := N) (i := i) (tt := tt) (c := 40) _ hM hr.1 hT.2.1 (by decide) rfl) (by omega) rfl (Nat.le_of_ble_eq_true rfl) ?_
      rw [bi_f (show ¬ kdT tt N i = ((40 : Nat) : Int) from qb)]
      refine V.if_eq 40 (pc := 29) dX12_readPlain_29 (by decide) (fun h29 => ?_) (fun h29 => absurd rfl h29)
      refine V.aload_n (pc := 40) dX12_readPlain_40 rfl ?_
      refine V.invV0 (as := []) (pc := 41) dX12_readPlain_41 lX12_240 bX12_readPart nX12_readPart (ci := 11) rfl eX12_readPart hM.o (c_readPart (d := d + 0) (N := N) (tt := tt) hM hT hr hW ⟨hiE, hinv, hv0, ho⟩ rfl) (by omega) rfl (Nat.le_of_ble_eq_true rfl) ?_
      rintro _ _ _ I1 J1 _ ⟨rfl, rfl, rfl, rfl, f1, hr1⟩
      exact V.iret (pc := 44) dX12_readPlain_44 rfl ⟨rfl, rfl, rfl, rfl, f1, hr1⟩
