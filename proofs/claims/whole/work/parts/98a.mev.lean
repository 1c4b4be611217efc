-- the reference's reckoning
def rkZ (op : Nat) (a b : Int) : Int := if op = 19 then a + b else if op = 20 then a - b else if op = 21 then a * b else if op = 22 then (if b = 0 then 0 else a.tmod b) else if op = 23 then (if b = 0 then 0 else a.tdiv b) else b2i (cmpZ op a b)
theorem i2l_I (x : Int32) : x.toInt64 = lI x.toInt := by rw [lI_of x.toInt64, toI64]
def Bd (a : Int) : Prop := -2147484100 ≤ a ∧ a ≤ 2147484100
theorem Bd.t {a : Int} (h : Bd a) : (lI a).toInt = a := by unfold Bd at h; exact lI_toInt (by omega) (by omega)
theorem tdiv_abs (a b : Int) : -(a.natAbs : Int) ≤ a.tdiv b ∧ a.tdiv b ≤ (a.natAbs : Int) := by
  have h := Int.natAbs_tdiv_le_natAbs a b
  omega
theorem lI_div {a b : Int} (ha : Bd a) (hb : Bd b) : lI a / lI b = lI (a.tdiv b) := by
  have h := tdiv_abs a b
  have h1 := ha.1
  have h2 := ha.2
  rw [← Int64.toInt_inj, Int64.toInt_div, ha.t, hb.t, lI_toInt (by omega) (by omega)]
  exact Int.bmod_eq_of_le (by omega) (by omega)
theorem lI_rem {a b : Int} (ha : Bd a) (hb : Bd b) : lI a - lI a / lI b * lI b = lI (a.tmod b) := by
  rw [lI_div ha hb, lI_mul, lI_sub]
  congr 1
  have := Int.tmod_add_mul_tdiv a b
  have h2 : b * a.tdiv b = a.tdiv b * b := Int.mul_comm _ _
  omega
theorem lI_lt {a b : Int} (ha : Bd a) (hb : Bd b) : lI a < lI b ↔ a < b := by rw [Int64.lt_iff_toInt_lt, ha.t, hb.t]
theorem lI_eq {a b : Int} (ha : Bd a) (hb : Bd b) : lI a = lI b ↔ a = b := by rw [← Int64.toInt_inj, ha.t, hb.t]
theorem Bd.z : Bd 0 := by unfold Bd; omega
theorem mul_bd {a b : Int} (ha : Bd a) (hb : Bd b) : -9223372036854775808 ≤ a * b ∧ a * b ≤ 9223372036854775807 := by
  have h : (a * b).natAbs = a.natAbs * b.natAbs := Int.natAbs_mul a b
  have h1 : a.natAbs ≤ 2147484100 := by have := ha.1; have := ha.2; omega
  have h2 : b.natAbs ≤ 2147484100 := by have := hb.1; have := hb.2; omega
  have h3 : a.natAbs * b.natAbs ≤ 2147484100 * 2147484100 := Nat.mul_le_mul h1 h2
  have h4 : 2147484100 * 2147484100 ≤ 9223372036854775807 := by decide
  omega
theorem rkZ_bd {op : Nat} {a b : Int} (ha : Bd a) (hb : Bd b) : -9223372036854775808 ≤ rkZ op a b ∧ rkZ op a b ≤ 9223372036854775807 := by
  have h1 := ha.1
  have h2 := ha.2
  have h3 := hb.1
  have h4 := hb.2
  unfold rkZ
  split
  · omega
  split
  · omega
  split
  · exact mul_bd ha hb
  split
  · split
    · omega
    · have h := tdiv_abs a b
      have h5 := Int.tmod_add_mul_tdiv a b
      have h6 : (a.tmod b).natAbs ≤ a.natAbs := by rw [Int.natAbs_tmod]; exact Nat.mod_le _ _
      omega
  split
  · split
    · omega
    · have h := tdiv_abs a b
      omega
  · unfold b2i; split <;> omega
theorem c_rk19 {g : gG} {d : Nat} {T : mT} {n : Nat} {I : mI} {J : mJ} {F : mF} {m : Nat} {a b : Int} (hM : MS T F m) (ha : Bd a) (hb : Bd b)  : Ct g mX12_reckon (d + 0) [.ref m, .int 19, .long (lI a), .long (lI b)] 0 0 T n I J F (fun r' T' n' I' J' F' => r' = some (.long (lI (a + b))) ∧ T' = T ∧ n' = n ∧ I' = I ∧ J' = J ∧ F' = F) := by
  refine Ct.ofV (k := 0) (by decide) (Nat.le_of_ble_eq_true rfl) ?_
  show V g mX12_reckon (d + 0) _ 0 0 0 [some (.ref m), some (.int 19), some (.long (lI a)), none, some (.long (lI b)), none] [] T n I J F
  have e0 : (0 : Int64) = lI 0 := rfl
  refine V.iload_n (pc := 0) dX12_reckon_0 rfl ?_
  refine V.tIn 44 (pc := 1) dX12_reckon_1 (by decide) (by decide) (off := 43) (by decide) (by decide) ?_
  refine V.lload_n (pc := 44) dX12_reckon_44 rfl ?_
  refine V.lload (pc := 45) dX12_reckon_45 rfl ?_
  refine V.ladd (pc := 47) dX12_reckon_47 ?_
  rw [lI_add]
  exact V.lret (pc := 48) dX12_reckon_48 rfl ⟨rfl, rfl, rfl, rfl, rfl, rfl⟩
theorem c_rk20 {g : gG} {d : Nat} {T : mT} {n : Nat} {I : mI} {J : mJ} {F : mF} {m : Nat} {a b : Int} (hM : MS T F m) (ha : Bd a) (hb : Bd b)  : Ct g mX12_reckon (d + 0) [.ref m, .int 20, .long (lI a), .long (lI b)] 0 0 T n I J F (fun r' T' n' I' J' F' => r' = some (.long (lI (a - b))) ∧ T' = T ∧ n' = n ∧ I' = I ∧ J' = J ∧ F' = F) := by
  refine Ct.ofV (k := 0) (by decide) (Nat.le_of_ble_eq_true rfl) ?_
  show V g mX12_reckon (d + 0) _ 0 0 0 [some (.ref m), some (.int 20), some (.long (lI a)), none, some (.long (lI b)), none] [] T n I J F
  have e0 : (0 : Int64) = lI 0 := rfl
  refine V.iload_n (pc := 0) dX12_reckon_0 rfl ?_
  refine V.tIn 49 (pc := 1) dX12_reckon_1 (by decide) (by decide) (off := 48) (by decide) (by decide) ?_
  refine V.lload_n (pc := 49) dX12_reckon_49 rfl ?_
  refine V.lload (pc := 50) dX12_reckon_50 rfl ?_
  refine V.lsub (pc := 52) dX12_reckon_52 ?_
  rw [lI_sub]
  exact V.lret (pc := 53) dX12_reckon_53 rfl ⟨rfl, rfl, rfl, rfl, rfl, rfl⟩
theorem c_rk21 {g : gG} {d : Nat} {T : mT} {n : Nat} {I : mI} {J : mJ} {F : mF} {m : Nat} {a b : Int} (hM : MS T F m) (ha : Bd a) (hb : Bd b)  : Ct g mX12_reckon (d + 0) [.ref m, .int 21, .long (lI a), .long (lI b)] 0 0 T n I J F (fun r' T' n' I' J' F' => r' = some (.long (lI (a * b))) ∧ T' = T ∧ n' = n ∧ I' = I ∧ J' = J ∧ F' = F) := by
  refine Ct.ofV (k := 0) (by decide) (Nat.le_of_ble_eq_true rfl) ?_
  show V g mX12_reckon (d + 0) _ 0 0 0 [some (.ref m), some (.int 21), some (.long (lI a)), none, some (.long (lI b)), none] [] T n I J F
  have e0 : (0 : Int64) = lI 0 := rfl
  refine V.iload_n (pc := 0) dX12_reckon_0 rfl ?_
  refine V.tIn 54 (pc := 1) dX12_reckon_1 (by decide) (by decide) (off := 53) (by decide) (by decide) ?_
  refine V.lload_n (pc := 54) dX12_reckon_54 rfl ?_
  refine V.lload (pc := 55) dX12_reckon_55 rfl ?_
  refine V.lmul (pc := 57) dX12_reckon_57 ?_
  rw [lI_mul]
  exact V.lret (pc := 58) dX12_reckon_58 rfl ⟨rfl, rfl, rfl, rfl, rfl, rfl⟩
theorem c_rk23Z {g : gG} {d : Nat} {T : mT} {n : Nat} {I : mI} {J : mJ} {F : mF} {m : Nat} {a b : Int} (hM : MS T F m) (ha : Bd a) (hb : Bd b) (h0 : b = 0) : Ct g mX12_reckon (d + 0) [.ref m, .int 23, .long (lI a), .long (lI b)] 0 0 T n I J F (fun r' T' n' I' J' F' => r' = some (.long (lI 0)) ∧ T' = T ∧ n' = n ∧ I' = up2 I m 29 1 ∧ J' = J ∧ F' = F) := by
  refine Ct.ofV (k := 0) (by decide) (Nat.le_of_ble_eq_true rfl) ?_
  show V g mX12_reckon (d + 0) _ 0 0 0 [some (.ref m), some (.int 23), some (.long (lI a)), none, some (.long (lI b)), none] [] T n I J F
  have e0 : (0 : Int64) = lI 0 := rfl
  refine V.iload_n (pc := 0) dX12_reckon_0 rfl ?_
  refine V.tIn 59 (pc := 1) dX12_reckon_1 (by decide) (by decide) (off := 58) (by decide) (by decide) ?_
  refine V.aload_n (pc := 59) dX12_reckon_59 rfl ?_
  refine V.lload (pc := 60) dX12_reckon_60 rfl ?_
  refine V.lconst (v := 0) (pc := 62) dX12_reckon_62 (by decide) ?_
  refine V.lcmp_ne 71 (pc := 63) dX12_reckon_63 dX12_reckon_64 (by decide) (fun h63 => absurd (by rw [h0]; rfl) h63) (fun h63 => ?_)
  refine V.iconst (v := 1) (pc := 67) dX12_reckon_67 (by decide) ?_
  refine V.goto 72 (pc := 68) dX12_reckon_68 (by decide) ?_
  refine V.putZ (pc := 72) dX12_reckon_72 fX12_283_11 (fun r h => by cases h; exact Or.inl rfl) rfl (by first | exact Or.inl rfl | exact Or.inr rfl | assumption) hM.o ?_
  refine V.aload_n (pc := 75) dX12_reckon_75 rfl ?_
  refine V.getI (pc := 76) dX12_reckon_76 fX12_283_11 rfl hM.o ?_
  rw [up2_same]
  refine V.if_eq 86 (pc := 79) dX12_reckon_79 (by decide) (fun h79 => absurd h79 (by decide)) (fun h79 => ?_)
  refine V.lconst (v := 0) (pc := 82) dX12_reckon_82 (by decide) ?_
  refine V.goto 90 (pc := 83) dX12_reckon_83 (by decide) ?_
  exact V.lret (pc := 90) dX12_reckon_90 rfl ⟨rfl, rfl, rfl, rfl, rfl, rfl⟩
theorem c_rk23N {g : gG} {d : Nat} {T : mT} {n : Nat} {I : mI} {J : mJ} {F : mF} {m : Nat} {a b : Int} (hM : MS T F m) (ha : Bd a) (hb : Bd b) (h0 : ¬ b = 0) : Ct g mX12_reckon (d + 0) [.ref m, .int 23, .long (lI a), .long (lI b)] 0 0 T n I J F (fun r' T' n' I' J' F' => r' = some (.long (lI (a.tdiv b))) ∧ T' = T ∧ n' = n ∧ I' = up2 I m 29 0 ∧ J' = J ∧ F' = F) := by
  refine Ct.ofV (k := 0) (by decide) (Nat.le_of_ble_eq_true rfl) ?_
  show V g mX12_reckon (d + 0) _ 0 0 0 [some (.ref m), some (.int 23), some (.long (lI a)), none, some (.long (lI b)), none] [] T n I J F
  have e0 : (0 : Int64) = lI 0 := rfl
  refine V.iload_n (pc := 0) dX12_reckon_0 rfl ?_
  refine V.tIn 59 (pc := 1) dX12_reckon_1 (by decide) (by decide) (off := 58) (by decide) (by decide) ?_
  refine V.aload_n (pc := 59) dX12_reckon_59 rfl ?_
  refine V.lload (pc := 60) dX12_reckon_60 rfl ?_
  refine V.lconst (v := 0) (pc := 62) dX12_reckon_62 (by decide) ?_
  refine V.lcmp_ne 71 (pc := 63) dX12_reckon_63 dX12_reckon_64 (by decide) (fun h63 => ?_) (fun h63 => absurd ((lI_eq hb Bd.z).mp h63) h0)
  refine V.iconst (v := 0) (pc := 71) dX12_reckon_71 (by decide) ?_
  refine V.putZ (pc := 72) dX12_reckon_72 fX12_283_11 (fun r h => by cases h; exact Or.inl rfl) rfl (by first | exact Or.inl rfl | exact Or.inr rfl | assumption) hM.o ?_
  refine V.aload_n (pc := 75) dX12_reckon_75 rfl ?_
  refine V.getI (pc := 76) dX12_reckon_76 fX12_283_11 rfl hM.o ?_
  rw [up2_same]
  refine V.if_eq 86 (pc := 79) dX12_reckon_79 (by decide) (fun h79 => ?_) (fun h79 => absurd rfl h79)
  refine V.lload_n (pc := 86) dX12_reckon_86 rfl ?_
  refine V.lload (pc := 87) dX12_reckon_87 rfl ?_
  refine V.ldiv (pc := 89) dX12_reckon_89 (fun z => h0 ((lI_eq hb Bd.z).mp z)) ?_
  rw [lI_div ha hb]
  exact V.lret (pc := 90) dX12_reckon_90 rfl ⟨rfl, rfl, rfl, rfl, rfl, rfl⟩
theorem c_rk22Z {g : gG} {d : Nat} {T : mT} {n : Nat} {I : mI} {J : mJ} {F : mF} {m : Nat} {a b : Int} (hM : MS T F m) (ha : Bd a) (hb : Bd b) (h0 : b = 0) : Ct g mX12_reckon (d + 0) [.ref m, .int 22, .long (lI a), .long (lI b)] 0 0 T n I J F (fun r' T' n' I' J' F' => r' = some (.long (lI 0)) ∧ T' = T ∧ n' = n ∧ I' = up2 I m 29 1 ∧ J' = J ∧ F' = F) := by
  refine Ct.ofV (k := 0) (by decide) (Nat.le_of_ble_eq_true rfl) ?_
  show V g mX12_reckon (d + 0) _ 0 0 0 [some (.ref m), some (.int 22), some (.long (lI a)), none, some (.long (lI b)), none] [] T n I J F
  have e0 : (0 : Int64) = lI 0 := rfl
  refine V.iload_n (pc := 0) dX12_reckon_0 rfl ?_
  refine V.tIn 91 (pc := 1) dX12_reckon_1 (by decide) (by decide) (off := 90) (by decide) (by decide) ?_
  refine V.aload_n (pc := 91) dX12_reckon_91 rfl ?_
  refine V.lload (pc := 92) dX12_reckon_92 rfl ?_
  refine V.lconst (v := 0) (pc := 94) dX12_reckon_94 (by decide) ?_
  refine V.lcmp_ne 103 (pc := 95) dX12_reckon_95 dX12_reckon_96 (by decide) (fun h95 => absurd (by rw [h0]; rfl) h95) (fun h95 => ?_)
  refine V.iconst (v := 1) (pc := 99) dX12_reckon_99 (by decide) ?_
  refine V.goto 104 (pc := 100) dX12_reckon_100 (by decide) ?_
  refine V.putZ (pc := 104) dX12_reckon_104 fX12_283_11 (fun r h => by cases h; exact Or.inl rfl) rfl (by first | exact Or.inl rfl | exact Or.inr rfl | assumption) hM.o ?_
  refine V.aload_n (pc := 107) dX12_reckon_107 rfl ?_
  refine V.getI (pc := 108) dX12_reckon_108 fX12_283_11 rfl hM.o ?_
  rw [up2_same]
  refine V.if_eq 118 (pc := 111) dX12_reckon_111 (by decide) (fun h111 => absurd h111 (by decide)) (fun h111 => ?_)
  refine V.lconst (v := 0) (pc := 114) dX12_reckon_114 (by decide) ?_
  refine V.goto 122 (pc := 115) dX12_reckon_115 (by decide) ?_
  exact V.lret (pc := 122) dX12_reckon_122 rfl ⟨rfl, rfl, rfl, rfl, rfl, rfl⟩
theorem c_rk22N {g : gG} {d : Nat} {T : mT} {n : Nat} {I : mI} {J : mJ} {F : mF} {m : Nat} {a b : Int} (hM : MS T F m) (ha : Bd a) (hb : Bd b) (h0 : ¬ b = 0) : Ct g mX12_reckon (d + 0) [.ref m, .int 22, .long (lI a), .long (lI b)] 0 0 T n I J F (fun r' T' n' I' J' F' => r' = some (.long (lI (a.tmod b))) ∧ T' = T ∧ n' = n ∧ I' = up2 I m 29 0 ∧ J' = J ∧ F' = F) := by
  refine Ct.ofV (k := 0) (by decide) (Nat.le_of_ble_eq_true rfl) ?_
  show V g mX12_reckon (d + 0) _ 0 0 0 [some (.ref m), some (.int 22), some (.long (lI a)), none, some (.long (lI b)), none] [] T n I J F
  have e0 : (0 : Int64) = lI 0 := rfl
  refine V.iload_n (pc := 0) dX12_reckon_0 rfl ?_
  refine V.tIn 91 (pc := 1) dX12_reckon_1 (by decide) (by decide) (off := 90) (by decide) (by decide) ?_
  refine V.aload_n (pc := 91) dX12_reckon_91 rfl ?_
  refine V.lload (pc := 92) dX12_reckon_92 rfl ?_
  refine V.lconst (v := 0) (pc := 94) dX12_reckon_94 (by decide) ?_
  refine V.lcmp_ne 103 (pc := 95) dX12_reckon_95 dX12_reckon_96 (by decide) (fun h95 => ?_) (fun h95 => absurd ((lI_eq hb Bd.z).mp h95) h0)
  refine V.iconst (v := 0) (pc := 103) dX12_reckon_103 (by decide) ?_
  refine V.putZ (pc := 104) dX12_reckon_104 fX12_283_11 (fun r h => by cases h; exact Or.inl rfl) rfl (by first | exact Or.inl rfl | exact Or.inr rfl | assumption) hM.o ?_
  refine V.aload_n (pc := 107) dX12_reckon_107 rfl ?_
  refine V.getI (pc := 108) dX12_reckon_108 fX12_283_11 rfl hM.o ?_
  rw [up2_same]
  refine V.if_eq 118 (pc := 111) dX12_reckon_111 (by decide) (fun h111 => ?_) (fun h111 => absurd rfl h111)
  refine V.lload_n (pc := 118) dX12_reckon_118 rfl ?_
  refine V.lload (pc := 119) dX12_reckon_119 rfl ?_
  refine V.lrem (pc := 121) dX12_reckon_121 (fun z => h0 ((lI_eq hb Bd.z).mp z)) ?_
  rw [lI_rem ha hb]
  exact V.lret (pc := 122) dX12_reckon_122 rfl ⟨rfl, rfl, rfl, rfl, rfl, rfl⟩
theorem c_rk24Y {g : gG} {d : Nat} {T : mT} {n : Nat} {I : mI} {J : mJ} {F : mF} {m : Nat} {a b : Int} (hM : MS T F m) (ha : Bd a) (hb : Bd b) (h0 : a < b) : Ct g mX12_reckon (d + 0) [.ref m, .int 24, .long (lI a), .long (lI b)] 0 0 T n I J F (fun r' T' n' I' J' F' => r' = some (.long (lI 1)) ∧ T' = T ∧ n' = n ∧ I' = I ∧ J' = J ∧ F' = F) := by
  refine Ct.ofV (k := 0) (by decide) (Nat.le_of_ble_eq_true rfl) ?_
  show V g mX12_reckon (d + 0) _ 0 0 0 [some (.ref m), some (.int 24), some (.long (lI a)), none, some (.long (lI b)), none] [] T n I J F
  have e0 : (0 : Int64) = lI 0 := rfl
  refine V.iload_n (pc := 0) dX12_reckon_0 rfl ?_
  refine V.tIn 123 (pc := 1) dX12_reckon_1 (by decide) (by decide) (off := 122) (by decide) (by decide) ?_
  refine V.lload_n (pc := 123) dX12_reckon_123 rfl ?_
  refine V.lload (pc := 124) dX12_reckon_124 rfl ?_
  refine V.lcmp_ge 134 (pc := 126) dX12_reckon_126 dX12_reckon_127 (by decide) (fun h126 => absurd h126 (Int64.not_le.mpr ((lI_lt ha hb).mpr h0))) (fun h126 => ?_)
  refine V.lconst (v := 1) (pc := 130) dX12_reckon_130 (by decide) ?_
  refine V.goto 135 (pc := 131) dX12_reckon_131 (by decide) ?_
  exact V.lret (pc := 135) dX12_reckon_135 rfl ⟨rfl, rfl, rfl, rfl, rfl, rfl⟩
theorem c_rk24N {g : gG} {d : Nat} {T : mT} {n : Nat} {I : mI} {J : mJ} {F : mF} {m : Nat} {a b : Int} (hM : MS T F m) (ha : Bd a) (hb : Bd b) (h0 : ¬ (a < b)) : Ct g mX12_reckon (d + 0) [.ref m, .int 24, .long (lI a), .long (lI b)] 0 0 T n I J F (fun r' T' n' I' J' F' => r' = some (.long (lI 0)) ∧ T' = T ∧ n' = n ∧ I' = I ∧ J' = J ∧ F' = F) := by
  refine Ct.ofV (k := 0) (by decide) (Nat.le_of_ble_eq_true rfl) ?_
  show V g mX12_reckon (d + 0) _ 0 0 0 [some (.ref m), some (.int 24), some (.long (lI a)), none, some (.long (lI b)), none] [] T n I J F
  have e0 : (0 : Int64) = lI 0 := rfl
  refine V.iload_n (pc := 0) dX12_reckon_0 rfl ?_
  refine V.tIn 123 (pc := 1) dX12_reckon_1 (by decide) (by decide) (off := 122) (by decide) (by decide) ?_
  refine V.lload_n (pc := 123) dX12_reckon_123 rfl ?_
  refine V.lload (pc := 124) dX12_reckon_124 rfl ?_
  refine V.lcmp_ge 134 (pc := 126) dX12_reckon_126 dX12_reckon_127 (by decide) (fun h126 => ?_) (fun h126 => absurd ((lI_lt ha hb).mp (Int64.not_le.mp h126)) h0)
  refine V.lconst (v := 0) (pc := 134) dX12_reckon_134 (by decide) ?_
  exact V.lret (pc := 135) dX12_reckon_135 rfl ⟨rfl, rfl, rfl, rfl, rfl, rfl⟩
theorem c_rk25Y {g : gG} {d : Nat} {T : mT} {n : Nat} {I : mI} {J : mJ} {F : mF} {m : Nat} {a b : Int} (hM : MS T F m) (ha : Bd a) (hb : Bd b) (h0 : b < a) : Ct g mX12_reckon (d + 0) [.ref m, .int 25, .long (lI a), .long (lI b)] 0 0 T n I J F (fun r' T' n' I' J' F' => r' = some (.long (lI 1)) ∧ T' = T ∧ n' = n ∧ I' = I ∧ J' = J ∧ F' = F) := by
  refine Ct.ofV (k := 0) (by decide) (Nat.le_of_ble_eq_true rfl) ?_
  show V g mX12_reckon (d + 0) _ 0 0 0 [some (.ref m), some (.int 25), some (.long (lI a)), none, some (.long (lI b)), none] [] T n I J F
  have e0 : (0 : Int64) = lI 0 := rfl
  refine V.iload_n (pc := 0) dX12_reckon_0 rfl ?_
  refine V.tIn 136 (pc := 1) dX12_reckon_1 (by decide) (by decide) (off := 135) (by decide) (by decide) ?_
  refine V.lload_n (pc := 136) dX12_reckon_136 rfl ?_
  refine V.lload (pc := 137) dX12_reckon_137 rfl ?_
  refine V.lcmp_le 147 (pc := 139) dX12_reckon_139 dX12_reckon_140 (by decide) (fun h139 => absurd h139 (Int64.not_le.mpr ((lI_lt hb ha).mpr h0))) (fun h139 => ?_)
  refine V.lconst (v := 1) (pc := 143) dX12_reckon_143 (by decide) ?_
  refine V.goto 148 (pc := 144) dX12_reckon_144 (by decide) ?_
  exact V.lret (pc := 148) dX12_reckon_148 rfl ⟨rfl, rfl, rfl, rfl, rfl, rfl⟩
theorem c_rk25N {g : gG} {d : Nat} {T : mT} {n : Nat} {I : mI} {J : mJ} {F : mF} {m : Nat} {a b : Int} (hM : MS T F m) (ha : Bd a) (hb : Bd b) (h0 : ¬ (b < a)) : Ct g mX12_reckon (d + 0) [.ref m, .int 25, .long (lI a), .long (lI b)] 0 0 T n I J F (fun r' T' n' I' J' F' => r' = some (.long (lI 0)) ∧ T' = T ∧ n' = n ∧ I' = I ∧ J' = J ∧ F' = F) := by
  refine Ct.ofV (k := 0) (by decide) (Nat.le_of_ble_eq_true rfl) ?_
  show V g mX12_reckon (d + 0) _ 0 0 0 [some (.ref m), some (.int 25), some (.long (lI a)), none, some (.long (lI b)), none] [] T n I J F
  have e0 : (0 : Int64) = lI 0 := rfl
  refine V.iload_n (pc := 0) dX12_reckon_0 rfl ?_
  refine V.tIn 136 (pc := 1) dX12_reckon_1 (by decide) (by decide) (off := 135) (by decide) (by decide) ?_
  refine V.lload_n (pc := 136) dX12_reckon_136 rfl ?_
  refine V.lload (pc := 137) dX12_reckon_137 rfl ?_
  refine V.lcmp_le 147 (pc := 139) dX12_reckon_139 dX12_reckon_140 (by decide) (fun h139 => ?_) (fun h139 => absurd ((lI_lt hb ha).mp (Int64.not_le.mp h139)) h0)
  refine V.lconst (v := 0) (pc := 147) dX12_reckon_147 (by decide) ?_
  exact V.lret (pc := 148) dX12_reckon_148 rfl ⟨rfl, rfl, rfl, rfl, rfl, rfl⟩
theorem c_rk26Y {g : gG} {d : Nat} {T : mT} {n : Nat} {I : mI} {J : mJ} {F : mF} {m : Nat} {a b : Int} (hM : MS T F m) (ha : Bd a) (hb : Bd b) (h0 : a = b) : Ct g mX12_reckon (d + 0) [.ref m, .int 26, .long (lI a), .long (lI b)] 0 0 T n I J F (fun r' T' n' I' J' F' => r' = some (.long (lI 1)) ∧ T' = T ∧ n' = n ∧ I' = I ∧ J' = J ∧ F' = F) := by
  refine Ct.ofV (k := 0) (by decide) (Nat.le_of_ble_eq_true rfl) ?_
  show V g mX12_reckon (d + 0) _ 0 0 0 [some (.ref m), some (.int 26), some (.long (lI a)), none, some (.long (lI b)), none] [] T n I J F
  have e0 : (0 : Int64) = lI 0 := rfl
  refine V.iload_n (pc := 0) dX12_reckon_0 rfl ?_
  refine V.tOut 149 (pc := 1) dX12_reckon_1 (by decide) (by decide) ?_
  refine V.lload_n (pc := 149) dX12_reckon_149 rfl ?_
  refine V.lload (pc := 150) dX12_reckon_150 rfl ?_
  refine V.lcmp_ne 160 (pc := 152) dX12_reckon_152 dX12_reckon_153 (by decide) (fun h152 => absurd (by rw [h0]) h152) (fun h152 => ?_)
  refine V.lconst (v := 1) (pc := 156) dX12_reckon_156 (by decide) ?_
  refine V.goto 161 (pc := 157) dX12_reckon_157 (by decide) ?_
  exact V.lret (pc := 161) dX12_reckon_161 rfl ⟨rfl, rfl, rfl, rfl, rfl, rfl⟩
theorem c_rk26N {g : gG} {d : Nat} {T : mT} {n : Nat} {I : mI} {J : mJ} {F : mF} {m : Nat} {a b : Int} (hM : MS T F m) (ha : Bd a) (hb : Bd b) (h0 : ¬ (a = b)) : Ct g mX12_reckon (d + 0) [.ref m, .int 26, .long (lI a), .long (lI b)] 0 0 T n I J F (fun r' T' n' I' J' F' => r' = some (.long (lI 0)) ∧ T' = T ∧ n' = n ∧ I' = I ∧ J' = J ∧ F' = F) := by
  refine Ct.ofV (k := 0) (by decide) (Nat.le_of_ble_eq_true rfl) ?_
  show V g mX12_reckon (d + 0) _ 0 0 0 [some (.ref m), some (.int 26), some (.long (lI a)), none, some (.long (lI b)), none] [] T n I J F
  have e0 : (0 : Int64) = lI 0 := rfl
  refine V.iload_n (pc := 0) dX12_reckon_0 rfl ?_
  refine V.tOut 149 (pc := 1) dX12_reckon_1 (by decide) (by decide) ?_
  refine V.lload_n (pc := 149) dX12_reckon_149 rfl ?_
  refine V.lload (pc := 150) dX12_reckon_150 rfl ?_
  refine V.lcmp_ne 160 (pc := 152) dX12_reckon_152 dX12_reckon_153 (by decide) (fun h152 => ?_) (fun h152 => absurd ((lI_eq ha hb).mp h152) h0)
  refine V.lconst (v := 0) (pc := 160) dX12_reckon_160 (by decide) ?_
  exact V.lret (pc := 161) dX12_reckon_161 rfl ⟨rfl, rfl, rfl, rfl, rfl, rfl⟩
