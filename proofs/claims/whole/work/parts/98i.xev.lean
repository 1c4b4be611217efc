-- the class's asker
def AkS (T : mT) (F : mF) (k : Nat) : Prop := T k = some (.inl 0) ∧ F k 0 = some (k + 1) ∧ T (k + 1) = some (.inr (.long, 64))
def LaS (T : mT) (F : mF) (a c s lc ls : Nat) : Prop := T a = some (.inl 2) ∧ (F a 0 = some c ∧ T c = some (.inr (.int, lc))) ∧ F a 1 = some s ∧ T s = some (.inr (.int, ls))
section AKP
variable {T : mT} {F : mF} {k a c s lc ls x : Nat}
theorem AkS.o (h : AkS T F k) : T k = some (.inl 0) := h.1
theorem AkS.f0 (h : AkS T F k) : F k 0 = some (k + 1) := h.2.1
theorem AkS.t0 (h : AkS T F k) : T (k + 1) = some (.inr (.long, 64)) := h.2.2
theorem XS.ak (h : XS T F x) : AkS T F (x + 31) := ⟨h.o9, h.g31_0, h.u32⟩
theorem LaS.o (h : LaS T F a c s lc ls) : T a = some (.inl 2) := h.1
theorem LaS.f0 (h : LaS T F a c s lc ls) : F a 0 = some c := h.2.1.1
theorem LaS.t0 (h : LaS T F a c s lc ls) : T c = some (.inr (.int, lc)) := h.2.1.2
theorem LaS.f1 (h : LaS T F a c s lc ls) : F a 1 = some s := h.2.2.1
theorem LaS.t1 (h : LaS T F a c s lc ls) : T s = some (.inr (.int, ls)) := h.2.2.2
end AKP
theorem nI_and5 {v : Nat} (h : v < 2147483648) : nI v &&& 31 = nI (v % 32) := by
  exact pk_andN (m := 31) (by omega) 5 (by decide)
theorem nI_shr5 {v : Nat} (h : v < 2147483648) : nI v >>> ((5 : Int32) &&& 31) = nI (v / 32) := by
  rw [← Int32.toInt_inj]
  show ((nI v).toBitVec.sshiftRight 5).toInt = _
  rw [BitVec.toInt_sshiftRight]
  show (nI v).toInt >>> 5 = _
  rw [nI_toInt h, nI_toInt (by omega), Int.shiftRight_eq_div_pow]
  omega
theorem x_lclauses {g : gG} {d : Nat} {T : mT} {n : Nat} {I : mI} {J : mJ} {F : mF} {a c s lc ls : Nat} (hLw : LaS T F a c s lc ls) (h1 : 1 ≤ ls) : Ct g mX2_clauses (d + 0) [.ref a] 0 0 T n I J F (pureQ T n I J F (some (.int (nI (ls - 1))))) := by
  refine Ct.ofV (k := 0) (by decide) (Nat.le_of_ble_eq_true rfl) ?_
  show V g mX2_clauses (d + 0) _ 0 0 0 [some (.ref a)] [] T n I J F
  refine V.aload_n (pc := 0) dX2_clauses_0 rfl ?_
  refine V.getR (pc := 1) dX2_clauses_1 fX2_15_2 rfl hLw.o hLw.f1 ?_
  refine V.alen (pc := 4) dX2_clauses_4 hLw.t1 ty_i (by rfl) ?_
  refine V.iconst (v := 1) (pc := 5) dX2_clauses_5 (by decide) ?_
  refine V.isub (pc := 6) dX2_clauses_6 ?_
  rw [show Int32.ofNat ls = nI ls from rfl, L1, pk_sub h1]
  exact V.iret (pc := 7) dX2_clauses_7 rfl ⟨rfl, rfl, rfl, rfl, rfl, rfl⟩
theorem x_lstart {g : gG} {d : Nat} {T : mT} {n : Nat} {I : mI} {J : mJ} {F : mF} {a c s lc ls : Nat} {i : Nat} (x : Int32) (hLw : LaS T F a c s lc ls) (hx : x = nI i) (hi : i < ls) (hl : ls ≤ 400) : Ct g mX2_startOf (d + 0) [.ref a, .int x] 0 0 T n I J F (pureQ T n I J F (some (.int (I s i)))) := by
  refine Ct.ofV (k := 0) (by decide) (Nat.le_of_ble_eq_true rfl) ?_
  show V g mX2_startOf (d + 0) _ 0 0 0 [some (.ref a), some (.int x)] [] T n I J F
  subst hx
  refine V.iload_n (pc := 0) dX2_startOf_0 rfl ?_
  refine V.if_lt 22 (pc := 1) dX2_startOf_1 (by decide) (fun h1 => absurd h1 (nI_pos (by omega))) (fun h1 => ?_)
  refine V.iload_n (pc := 4) dX2_startOf_4 rfl ?_
  refine V.aload_n (pc := 5) dX2_startOf_5 rfl ?_
  refine V.getR (pc := 6) dX2_startOf_6 fX2_15_2 rfl hLw.o hLw.f1 ?_
  refine V.alen (pc := 9) dX2_startOf_9 hLw.t1 ty_i (by rfl) ?_
  refine V.icmp_ge 22 (pc := 10) dX2_startOf_10 (by decide) (fun h10 => absurd h10 (nI_ge (by omega) (by omega))) (fun h10 => ?_)
  refine V.aload_n (pc := 13) dX2_startOf_13 rfl ?_
  refine V.getR (pc := 14) dX2_startOf_14 fX2_15_2 rfl hLw.o hLw.f1 ?_
  refine V.iload_n (pc := 17) dX2_startOf_17 rfl ?_
  refine V.iald' (k := i) (pc := 18) dX2_startOf_18 hLw.t1 rfl (by omega) (by omega) ?_
  refine V.goto 27 (pc := 19) dX2_startOf_19 (by decide) ?_
  exact V.iret (pc := 27) dX2_startOf_27 rfl ⟨rfl, rfl, rfl, rfl, rfl, rfl⟩
theorem x_lstep {g : gG} {d : Nat} {T : mT} {n : Nat} {I : mI} {J : mJ} {F : mF} {a c s lc ls : Nat} {i : Nat} (x : Int32) (hLw : LaS T F a c s lc ls) (hx : x = nI i) (hi : i < lc) (hl : lc ≤ 400) : Ct g mX2_stepAt (d + 0) [.ref a, .int x] 0 0 T n I J F (pureQ T n I J F (some (.int (I c i)))) := by
  refine Ct.ofV (k := 0) (by decide) (Nat.le_of_ble_eq_true rfl) ?_
  show V g mX2_stepAt (d + 0) _ 0 0 0 [some (.ref a), some (.int x)] [] T n I J F
  subst hx
  refine V.iload_n (pc := 0) dX2_stepAt_0 rfl ?_
  refine V.if_lt 22 (pc := 1) dX2_stepAt_1 (by decide) (fun h1 => absurd h1 (nI_pos (by omega))) (fun h1 => ?_)
  refine V.iload_n (pc := 4) dX2_stepAt_4 rfl ?_
  refine V.aload_n (pc := 5) dX2_stepAt_5 rfl ?_
  refine V.getR (pc := 6) dX2_stepAt_6 fX2_9_2 rfl hLw.o hLw.f0 ?_
  refine V.alen (pc := 9) dX2_stepAt_9 hLw.t0 ty_i (by rfl) ?_
  refine V.icmp_ge 22 (pc := 10) dX2_stepAt_10 (by decide) (fun h10 => absurd h10 (nI_ge (by omega) (by omega))) (fun h10 => ?_)
  refine V.aload_n (pc := 13) dX2_stepAt_13 rfl ?_
  refine V.getR (pc := 14) dX2_stepAt_14 fX2_9_2 rfl hLw.o hLw.f0 ?_
  refine V.iload_n (pc := 17) dX2_stepAt_17 rfl ?_
  refine V.iald' (k := i) (pc := 18) dX2_stepAt_18 hLw.t0 rfl (by omega) (by omega) ?_
  refine V.goto 23 (pc := 19) dX2_stepAt_19 (by decide) ?_
  exact V.iret (pc := 23) dX2_stepAt_23 rfl ⟨rfl, rfl, rfl, rfl, rfl, rfl⟩
theorem x_num1 {g : gG} {d : Nat} {T : mT} {n : Nat} {I : mI} {J : mJ} {F : mF} {k b dd h : Nat} {y : Hd} (v : Int32) (hAk : AkS T F k) (h4 : F k 4 = some b) (hN : HN T F b) (hW : HdX I J b y) (hY : HdOK y) (h5 : I k 5 = nI dd) (h3 : I k 3 = nI h) (hd : dd ≤ 1000000) (hh : h < 6) : Ct g mX0_numberFor (d + 2) [.ref k, .int 1, .int v] 0 0 T n I J F (pureQ T n I J F (some (.long (lI (envN h y dd 1))))) := by
  refine Ct.ofV (k := 0) (by decide) (Nat.le_of_ble_eq_true rfl) ?_
  show V g mX0_numberFor (d + 2) _ 0 0 0 [some (.ref k), some (.int 1), some (.int v)] [] T n I J F
  have hTk := hAk.o
  have hTb := hN.o
  obtain ⟨y1, y2, y3, y4, y5, y6⟩ := hY
  refine V.aload_n (pc := 0) dX0_numberFor_0 rfl ?_
  refine V.getR (pc := 1) dX0_numberFor_1 fX0_26_0 rfl (by assumption) h4 ?_
  refine V.ifnonnull 9 (pc := 4) dX0_numberFor_4 (by decide) ?_
  refine V.iload_n (pc := 9) dX0_numberFor_9 rfl ?_
  refine V.tIn 44 (pc := 10) dX0_numberFor_10 (by decide) (by decide) (off := 34) (by decide) (by decide) ?_
  refine V.aload_n (pc := 44) dX0_numberFor_44 rfl ?_
  refine V.getI (pc := 45) dX0_numberFor_45 fX0_30_0 rfl hAk.o ?_
  rw [h5]
  refine V.i2l (pc := 48) dX0_numberFor_48 ?_
  rw [nI_l (by omega), ← lI_nat]
  exact V.lret (pc := 49) dX0_numberFor_49 rfl ⟨rfl, rfl, rfl, rfl, rfl, rfl⟩
theorem x_num2 {g : gG} {d : Nat} {T : mT} {n : Nat} {I : mI} {J : mJ} {F : mF} {k b dd h : Nat} {y : Hd} (v : Int32) (hAk : AkS T F k) (h4 : F k 4 = some b) (hN : HN T F b) (hW : HdX I J b y) (hY : HdOK y) (h5 : I k 5 = nI dd) (h3 : I k 3 = nI h) (hd : dd ≤ 1000000) (hh : h < 6) : Ct g mX0_numberFor (d + 2) [.ref k, .int 2, .int v] 0 0 T n I J F (pureQ T n I J F (some (.long (lI (envN h y dd 2))))) := by
  refine Ct.ofV (k := 0) (by decide) (Nat.le_of_ble_eq_true rfl) ?_
  show V g mX0_numberFor (d + 2) _ 0 0 0 [some (.ref k), some (.int 2), some (.int v)] [] T n I J F
  have hTk := hAk.o
  have hTb := hN.o
  obtain ⟨y1, y2, y3, y4, y5, y6⟩ := hY
  refine V.aload_n (pc := 0) dX0_numberFor_0 rfl ?_
  refine V.getR (pc := 1) dX0_numberFor_1 fX0_26_0 rfl (by assumption) h4 ?_
  refine V.ifnonnull 9 (pc := 4) dX0_numberFor_4 (by decide) ?_
  refine V.iload_n (pc := 9) dX0_numberFor_9 rfl ?_
  refine V.tIn 50 (pc := 10) dX0_numberFor_10 (by decide) (by decide) (off := 40) (by decide) (by decide) ?_
  refine V.aload_n (pc := 50) dX0_numberFor_50 rfl ?_
  refine V.getI (pc := 51) dX0_numberFor_51 fX0_23_0 rfl hAk.o ?_
  rw [h3]
  refine V.i2l (pc := 54) dX0_numberFor_54 ?_
  rw [nI_l (by omega), ← lI_nat]
  exact V.lret (pc := 55) dX0_numberFor_55 rfl ⟨rfl, rfl, rfl, rfl, rfl, rfl⟩
theorem x_num3 {g : gG} {d : Nat} {T : mT} {n : Nat} {I : mI} {J : mJ} {F : mF} {k b dd h : Nat} {y : Hd} (v : Int32) (hAk : AkS T F k) (h4 : F k 4 = some b) (hN : HN T F b) (hW : HdX I J b y) (hY : HdOK y) (h5 : I k 5 = nI dd) (h3 : I k 3 = nI h) (hd : dd ≤ 1000000) (hh : h < 6) : Ct g mX0_numberFor (d + 2) [.ref k, .int 3, .int v] 0 0 T n I J F (pureQ T n I J F (some (.long (lI (envN h y dd 3))))) := by
  refine Ct.ofV (k := 0) (by decide) (Nat.le_of_ble_eq_true rfl) ?_
  show V g mX0_numberFor (d + 2) _ 0 0 0 [some (.ref k), some (.int 3), some (.int v)] [] T n I J F
  have hTk := hAk.o
  have hTb := hN.o
  obtain ⟨y1, y2, y3, y4, y5, y6⟩ := hY
  refine V.aload_n (pc := 0) dX0_numberFor_0 rfl ?_
  refine V.getR (pc := 1) dX0_numberFor_1 fX0_26_0 rfl (by assumption) h4 ?_
  refine V.ifnonnull 9 (pc := 4) dX0_numberFor_4 (by decide) ?_
  refine V.iload_n (pc := 9) dX0_numberFor_9 rfl ?_
  refine V.tIn 56 (pc := 10) dX0_numberFor_10 (by decide) (by decide) (off := 46) (by decide) (by decide) ?_
  refine V.aload_n (pc := 56) dX0_numberFor_56 rfl ?_
  refine V.getR (pc := 57) dX0_numberFor_57 fX0_26_0 rfl (by assumption) h4 ?_
  refine V.getI (pc := 60) dX0_numberFor_60 fX0_69_1 rfl (by assumption) ?_
  rw [hW.1]
  refine V.i2l (pc := 63) dX0_numberFor_63 ?_
  rw [nI_l (by omega), ← lI_nat]
  exact V.lret (pc := 64) dX0_numberFor_64 rfl ⟨rfl, rfl, rfl, rfl, rfl, rfl⟩
theorem x_num4 {g : gG} {d : Nat} {T : mT} {n : Nat} {I : mI} {J : mJ} {F : mF} {k b dd h : Nat} {y : Hd} (v : Int32) (hAk : AkS T F k) (h4 : F k 4 = some b) (hN : HN T F b) (hW : HdX I J b y) (hY : HdOK y) (h5 : I k 5 = nI dd) (h3 : I k 3 = nI h) (hd : dd ≤ 1000000) (hh : h < 6) : Ct g mX0_numberFor (d + 2) [.ref k, .int 4, .int v] 0 0 T n I J F (pureQ T n I J F (some (.long (lI (envN h y dd 4))))) := by
  refine Ct.ofV (k := 0) (by decide) (Nat.le_of_ble_eq_true rfl) ?_
  show V g mX0_numberFor (d + 2) _ 0 0 0 [some (.ref k), some (.int 4), some (.int v)] [] T n I J F
  have hTk := hAk.o
  have hTb := hN.o
  obtain ⟨y1, y2, y3, y4, y5, y6⟩ := hY
  refine V.aload_n (pc := 0) dX0_numberFor_0 rfl ?_
  refine V.getR (pc := 1) dX0_numberFor_1 fX0_26_0 rfl (by assumption) h4 ?_
  refine V.ifnonnull 9 (pc := 4) dX0_numberFor_4 (by decide) ?_
  refine V.iload_n (pc := 9) dX0_numberFor_9 rfl ?_
  refine V.tIn 65 (pc := 10) dX0_numberFor_10 (by decide) (by decide) (off := 55) (by decide) (by decide) ?_
  refine V.aload_n (pc := 65) dX0_numberFor_65 rfl ?_
  refine V.getR (pc := 66) dX0_numberFor_66 fX0_26_0 rfl (by assumption) h4 ?_
  refine V.aload_n (pc := 69) dX0_numberFor_69 rfl ?_
  refine V.getI (pc := 70) dX0_numberFor_70 fX0_30_0 rfl hAk.o ?_
  rw [h5]
  refine V.pV (as := [_]) (pc := 73) dX0_numberFor_73 lX0_74 bX1_turnsOn nX1_turnsOn (ci := 1) rfl eX1_turnsOn (by assumption) (x_turnsOn (d := d + 0) (dd := dd) (y := y) _ hN ⟨y1, y2, y3, y4, y5, y6⟩ hW rfl hd) (by omega) rfl (Nat.le_of_ble_eq_true rfl) ?_
  refine V.i2l (pc := 76) dX0_numberFor_76 ?_
  rw [nI_l (by omega), ← lI_nat]
  exact V.lret (pc := 77) dX0_numberFor_77 rfl ⟨rfl, rfl, rfl, rfl, rfl, rfl⟩
theorem x_num5 {g : gG} {d : Nat} {T : mT} {n : Nat} {I : mI} {J : mJ} {F : mF} {k b dd h : Nat} {y : Hd} (v : Int32) (hAk : AkS T F k) (h4 : F k 4 = some b) (hN : HN T F b) (hW : HdX I J b y) (hY : HdOK y) (h5 : I k 5 = nI dd) (h3 : I k 3 = nI h) (hd : dd ≤ 1000000) (hh : h < 6) : Ct g mX0_numberFor (d + 2) [.ref k, .int 5, .int v] 0 0 T n I J F (pureQ T n I J F (some (.long (lI (envN h y dd 5))))) := by
  refine Ct.ofV (k := 0) (by decide) (Nat.le_of_ble_eq_true rfl) ?_
  show V g mX0_numberFor (d + 2) _ 0 0 0 [some (.ref k), some (.int 5), some (.int v)] [] T n I J F
  have hTk := hAk.o
  have hTb := hN.o
  obtain ⟨y1, y2, y3, y4, y5, y6⟩ := hY
  refine V.aload_n (pc := 0) dX0_numberFor_0 rfl ?_
  refine V.getR (pc := 1) dX0_numberFor_1 fX0_26_0 rfl (by assumption) h4 ?_
  refine V.ifnonnull 9 (pc := 4) dX0_numberFor_4 (by decide) ?_
  refine V.iload_n (pc := 9) dX0_numberFor_9 rfl ?_
  refine V.tIn 78 (pc := 10) dX0_numberFor_10 (by decide) (by decide) (off := 68) (by decide) (by decide) ?_
  refine V.aload_n (pc := 78) dX0_numberFor_78 rfl ?_
  refine V.getR (pc := 79) dX0_numberFor_79 fX0_26_0 rfl (by assumption) h4 ?_
  refine V.getI (pc := 82) dX0_numberFor_82 fX0_77_1 rfl (by assumption) ?_
  rw [hW.2.1]
  refine V.i2l (pc := 85) dX0_numberFor_85 ?_
  rw [nI_l (by omega), ← lI_nat]
  exact V.lret (pc := 86) dX0_numberFor_86 rfl ⟨rfl, rfl, rfl, rfl, rfl, rfl⟩
theorem x_num0 {g : gG} {d : Nat} {T : mT} {n : Nat} {I : mI} {J : mJ} {F : mF} {k b dd h : Nat} {y : Hd} (v : Int32) (hAk : AkS T F k) (h4 : F k 4 = some b) (hN : HN T F b) (hW : HdX I J b y) (hY : HdOK y) (h5 : I k 5 = nI dd) (h3 : I k 3 = nI h) (hd : dd ≤ 1000000) (hh : h < 6) : Ct g mX0_numberFor (d + 2) [.ref k, .int 0, .int v] 0 0 T n I J F (pureQ T n I J F (some (.long (lI v.toInt)))) := by
  refine Ct.ofV (k := 0) (by decide) (Nat.le_of_ble_eq_true rfl) ?_
  show V g mX0_numberFor (d + 2) _ 0 0 0 [some (.ref k), some (.int 0), some (.int v)] [] T n I J F
  have hTk := hAk.o
  have hTb := hN.o
  obtain ⟨y1, y2, y3, y4, y5, y6⟩ := hY
  refine V.aload_n (pc := 0) dX0_numberFor_0 rfl ?_
  refine V.getR (pc := 1) dX0_numberFor_1 fX0_26_0 rfl (by assumption) h4 ?_
  refine V.ifnonnull 9 (pc := 4) dX0_numberFor_4 (by decide) ?_
  refine V.iload_n (pc := 9) dX0_numberFor_9 rfl ?_
  refine V.tOut 87 (pc := 10) dX0_numberFor_10 (by decide) (by decide) ?_
  refine V.iload_n (pc := 87) dX0_numberFor_87 rfl ?_
  refine V.i2l (pc := 88) dX0_numberFor_88 ?_
  rw [i2l_I]
  exact V.lret (pc := 89) dX0_numberFor_89 rfl ⟨rfl, rfl, rfl, rfl, rfl, rfl⟩
theorem x_number {g : gG} {d : Nat} {T : mT} {n : Nat} {I : mI} {J : mJ} {F : mF} {k b dd h q : Nat} {y : Hd} (x v : Int32) (hAk : AkS T F k) (h4 : F k 4 = some b) (hN : HN T F b) (hW : HdX I J b y) (hY : HdOK y) (h5 : I k 5 = nI dd) (h3 : I k 3 = nI h) (hd : dd ≤ 1000000) (hh : h < 6) (hx : x = nI q) (hq : q ≤ 5) : Ct g mX0_numberFor (d + 2) [.ref k, .int x, .int v] 0 0 T n I J F (pureQ T n I J F (some (.long (lI (if q = 0 then v.toInt else envN h y dd q))))) := by
  subst hx
  have hc : q = 0 ∨ q = 1 ∨ q = 2 ∨ q = 3 ∨ q = 4 ∨ q = 5 := by omega
  rcases hc with rfl | rfl | rfl | rfl | rfl | rfl
  · exact x_num0 v hAk h4 hN hW hY h5 h3 hd hh
  · exact x_num1 v hAk h4 hN hW hY h5 h3 hd hh
  · exact x_num2 v hAk h4 hN hW hY h5 h3 hd hh
  · exact x_num3 v hAk h4 hN hW hY h5 h3 hd hh
  · exact x_num4 v hAk h4 hN hW hY h5 h3 hd hh
  · exact x_num5 v hAk h4 hN hW hY h5 h3 hd hh
theorem x_open {g : gG} {d : Nat} {T : mT} {n : Nat} {I : mI} {J : mJ} {F : mF} {k s : Nat} (z : Int64) (hAk : AkS T F k) (h1 : I k 1 = nI s) (hs : s < 64) : Ct g mX0_openNumber (d + 0) [.ref k, .long z] 0 0 T n I J F (fun r' T' n' I' J' F' => r' = some (.int 1) ∧ T' = T ∧ n' = n ∧ I' = up2 I k 1 (nI (s + 1)) ∧ J' = up2 J (k + 1) s z ∧ F' = F) := by
  refine Ct.ofV (k := 0) (by decide) (Nat.le_of_ble_eq_true rfl) ?_
  show V g mX0_openNumber (d + 0) _ 0 0 0 [some (.ref k), some (.long z), none] [] T n I J F
  refine V.aload_n (pc := 0) dX0_openNumber_0 rfl ?_
  refine V.getI (pc := 1) dX0_openNumber_1 fX0_15_0 rfl hAk.o ?_
  rw [h1]
  refine V.if_lt 19 (pc := 4) dX0_openNumber_4 (by decide) (fun h4 => absurd h4 (nI_pos (by omega))) (fun h4 => ?_)
  refine V.aload_n (pc := 7) dX0_openNumber_7 rfl ?_
  refine V.getI (pc := 8) dX0_openNumber_8 fX0_15_0 rfl hAk.o ?_
  rw [h1]
  refine V.aload_n (pc := 11) dX0_openNumber_11 rfl ?_
  refine V.getR (pc := 12) dX0_openNumber_12 fX0_9_0 rfl hAk.o hAk.f0 ?_
  refine V.alen (pc := 15) dX0_openNumber_15 hAk.t0 ty_l (by rfl) ?_
  refine V.icmp_lt 21 (pc := 16) dX0_openNumber_16 (by decide) (fun h16 => ?_) (fun h16 => absurd (by rw [lt32, nI_toInt (by omega)]; show _ < (64 : Int); omega) h16)
  refine V.aload_n (pc := 21) dX0_openNumber_21 rfl ?_
  refine V.getR (pc := 22) dX0_openNumber_22 fX0_9_0 rfl hAk.o hAk.f0 ?_
  refine V.aload_n (pc := 25) dX0_openNumber_25 rfl ?_
  refine V.getI (pc := 26) dX0_openNumber_26 fX0_15_0 rfl hAk.o ?_
  rw [h1]
  refine V.lload_n (pc := 29) dX0_openNumber_29 rfl ?_
  refine V.last' (k := s) (pc := 30) dX0_openNumber_30 hAk.t0 rfl (by omega) (by decide) ?_
  refine V.aload_n (pc := 31) dX0_openNumber_31 rfl ?_
  refine V.dup (pc := 32) dX0_openNumber_32 rfl ?_
  refine V.getI (pc := 33) dX0_openNumber_33 fX0_15_0 rfl hAk.o ?_
  rw [h1]
  refine V.iconst (v := 1) (pc := 36) dX0_openNumber_36 (by decide) ?_
  refine V.iadd (pc := 37) dX0_openNumber_37 ?_
  rw [nI_1]
  refine V.putI (pc := 38) dX0_openNumber_38 fX0_15_0 (fun r h => by cases h; exact Or.inl rfl) rfl hAk.o ?_
  refine V.iconst (v := 1) (pc := 41) dX0_openNumber_41 (by decide) ?_
  exact V.zret (pc := 42) dX0_openNumber_42 rfl (by first | exact Or.inl rfl | exact Or.inr rfl | exact bi_or | assumption) ⟨rfl, rfl, rfl, rfl, rfl, rfl⟩
theorem x_sumY {g : gG} {d : Nat} {T : mT} {n : Nat} {I : mI} {J : mJ} {F : mF} {k s : Nat} {z : Int} (hAk : AkS T F k) (h1 : I k 1 = nI s) (hs : s < 64) (hb : -9223372036854775808 ≤ z ∧ z ≤ 9223372036854775807) (hz : -1000000000 ≤ z ∧ z ≤ 1000000000) : Ct g mX0_openSum (d + 1) [.ref k, .long (lI z)] 0 0 T n I J F (fun r' T' n' I' J' F' => r' = some (.int 1) ∧ T' = T ∧ n' = n ∧ I' = up2 I k 1 (nI (s + 1)) ∧ J' = up2 J (k + 1) s (lI z) ∧ F' = F) := by
  refine Ct.ofV (k := 0) (by decide) (Nat.le_of_ble_eq_true rfl) ?_
  show V g mX0_openSum (d + 1) _ 0 0 0 [some (.ref k), some (.long (lI z)), none] [] T n I J F
  have hin := (in_I hb).mpr hz
  refine V.lload_n (pc := 0) dX0_openSum_0 rfl ?_
  refine V.ldc2 (pc := 1) dX0_openSum_1 qX0_83 ?_
  refine V.lcmp_lt 28 (pc := 4) dX0_openSum_4 dX0_openSum_5 (by decide) (fun h4 => absurd h4 (Int64.not_lt.mpr hin.1)) (fun h4 => ?_)
  refine V.lload_n (pc := 8) dX0_openSum_8 rfl ?_
  refine V.ldc2 (pc := 9) dX0_openSum_9 qX0_85 ?_
  refine V.lcmp_gt 28 (pc := 12) dX0_openSum_12 dX0_openSum_13 (by decide) (fun h12 => absurd h12 (Int64.not_lt.mpr hin.2)) (fun h12 => ?_)
  refine V.aload_n (pc := 16) dX0_openSum_16 rfl ?_
  refine V.lload_n (pc := 17) dX0_openSum_17 rfl ?_
  refine V.invV0 (as := [_]) (pc := 18) dX0_openSum_18 lX0_65 bX0_openNumber nX0_openNumber (ci := 0) rfl eX0_openNumber hAk.o (x_open (d := d + 0) (s := s) _ hAk h1 hs) (by omega) rfl (Nat.le_of_ble_eq_true rfl) ?_
  rintro _ _ _ _ _ _ ⟨rfl, rfl, rfl, rfl, rfl, rfl⟩
  refine V.if_eq 28 (pc := 21) dX0_openSum_21 (by decide) (fun h21 => absurd h21 (by decide)) (fun h21 => ?_)
  refine V.iconst (v := 1) (pc := 24) dX0_openSum_24 (by decide) ?_
  refine V.goto 29 (pc := 25) dX0_openSum_25 (by decide) ?_
  exact V.zret (pc := 29) dX0_openSum_29 rfl (by first | exact Or.inl rfl | exact Or.inr rfl | exact bi_or | assumption) ⟨rfl, rfl, rfl, rfl, rfl, rfl⟩
theorem x_sumN {g : gG} {d : Nat} {T : mT} {n : Nat} {I : mI} {J : mJ} {F : mF} {k : Nat} {z : Int} (hAk : AkS T F k) (hb : -9223372036854775808 ≤ z ∧ z ≤ 9223372036854775807) (hz : ¬ (-1000000000 ≤ z ∧ z ≤ 1000000000)) : Ct g mX0_openSum (d + 1) [.ref k, .long (lI z)] 0 0 T n I J F (pureQ T n I J F (some (.int 0))) := by
  refine Ct.ofV (k := 0) (by decide) (Nat.le_of_ble_eq_true rfl) ?_
  show V g mX0_openSum (d + 1) _ 0 0 0 [some (.ref k), some (.long (lI z)), none] [] T n I J F
  have hin := fun q => hz ((in_I hb).mp q)
  refine V.lload_n (pc := 0) dX0_openSum_0 rfl ?_
  refine V.ldc2 (pc := 1) dX0_openSum_1 qX0_83 ?_
  refine V.lcmp_lt 28 (pc := 4) dX0_openSum_4 dX0_openSum_5 (by decide) (fun h4 => ?_) (fun h4 => ?_)
  · refine V.iconst (v := 0) (pc := 28) dX0_openSum_28 (by decide) ?_
    exact V.zret (pc := 29) dX0_openSum_29 rfl (by first | exact Or.inl rfl | exact Or.inr rfl | exact bi_or | assumption) ⟨rfl, rfl, rfl, rfl, rfl, rfl⟩
  · refine V.lload_n (pc := 8) dX0_openSum_8 rfl ?_
    refine V.ldc2 (pc := 9) dX0_openSum_9 qX0_85 ?_
    refine V.lcmp_gt 28 (pc := 12) dX0_openSum_12 dX0_openSum_13 (by decide) (fun h12 => ?_) (fun h12 => absurd ⟨Int64.not_lt.mp h4, Int64.not_lt.mp h12⟩ hin)
    refine V.iconst (v := 0) (pc := 28) dX0_openSum_28 (by decide) ?_
    exact V.zret (pc := 29) dX0_openSum_29 rfl (by first | exact Or.inl rfl | exact Or.inr rfl | exact bi_or | assumption) ⟨rfl, rfl, rfl, rfl, rfl, rfl⟩
