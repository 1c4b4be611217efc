theorem n_tok {g : gG} {d : Nat} {T : mT} {n : Nat} {I : mI} {J : mJ} {F : mF} {a : Nat} (hT0 : T a = some (.inl 9)) (hn : n = a + 1) : Ct g mX10_init (d + 1) [.ref a] 3 1203 T n I J F (fun r' T' n' I' J' F' => r' = none ∧ n' = a + 4 ∧ NwF a T I J F T' I' J' F' ∧ T' (a) = some (.inl 9) ∧ F' (a) 0 = some (a + 1) ∧ T' (a + 1) = some (.inr (.int, 401)) ∧ F' (a) 1 = some (a + 2) ∧ T' (a + 2) = some (.inr (.int, 401)) ∧ F' (a) 2 = some (a + 3) ∧ T' (a + 3) = some (.inr (.int, 401))) := by
  refine Ct.ofV (k := 0) (by decide) (Nat.le_of_ble_eq_true rfl) ?_
  show V g mX10_init (d + 1) _ 3 1203 0 [some (.ref a)] [] T n I J F
  subst hn
  refine V.aload_n (pc := 0) dX10_init_0 rfl ?_
  refine V.obj (pc := 1) dX10_init_1 lX10_3 (by omega) (Nat.le_of_ble_eq_true rfl) ?_
  refine V.aload_n (pc := 4) dX10_init_4 rfl ?_
  refine V.sipush (v := 401) (pc := 5) dX10_init_5 (by decide) ?_
  refine V.room (bc := 2 + 1) (bs := 802 + 401) (by decide) (by decide) ?_
  refine V.newa (ty := .int) (N := 401) (pc := 8) dX10_init_8 rfl a_int (by decide) rfl rfl (by decide) (by decide) (by decide) ?_
  refine V.putR (b := (some _)) (pc := 10) dX10_init_10 fX10_9_9 (fun r h => by cases h; exact Or.inr ⟨rfl, rfl⟩) rfl (by first | exact hT0 | (simp (disch := omega) only [upT_lt]; exact hT0) | (simp (disch := omega) only [upT_lt, fT]; exact hT0)) ?_
  refine V.aload_n (pc := 13) dX10_init_13 rfl ?_
  refine V.sipush (v := 401) (pc := 14) dX10_init_14 (by decide) ?_
  refine V.room (bc := 1 + 1) (bs := 401 + 401) (by decide) (by decide) ?_
  refine V.newa (ty := .int) (N := 401) (pc := 17) dX10_init_17 rfl a_int (by decide) rfl rfl (by decide) (by decide) (by decide) ?_
  refine V.putR (b := (some _)) (pc := 19) dX10_init_19 fX10_15_9 (fun r h => by cases h; exact Or.inr ⟨rfl, rfl⟩) rfl (by first | exact hT0 | (simp (disch := omega) only [upT_lt]; exact hT0) | (simp (disch := omega) only [upT_lt, fT]; exact hT0)) ?_
  refine V.aload_n (pc := 22) dX10_init_22 rfl ?_
  refine V.sipush (v := 401) (pc := 23) dX10_init_23 (by decide) ?_
  refine V.room (bc := 0 + 1) (bs := 0 + 401) (by decide) (by decide) ?_
  refine V.newa (ty := .int) (N := 401) (pc := 26) dX10_init_26 rfl a_int (by decide) rfl rfl (by decide) (by decide) (by decide) ?_
  refine V.putR (b := (some _)) (pc := 28) dX10_init_28 fX10_18_9 (fun r h => by cases h; exact Or.inr ⟨rfl, rfl⟩) rfl (by first | exact hT0 | (simp (disch := omega) only [upT_lt]; exact hT0) | (simp (disch := omega) only [upT_lt, fT]; exact hT0)) ?_
  refine V.aload_n (pc := 31) dX10_init_31 rfl ?_
  refine V.iconst (v := 0) (pc := 32) dX10_init_32 (by decide) ?_
  refine V.putI (pc := 33) dX10_init_33 fX10_21_9 (fun r h => by cases h; exact Or.inl rfl) rfl (by first | exact hT0 | (simp (disch := omega) only [upT_lt]; exact hT0) | (simp (disch := omega) only [upT_lt, fT]; exact hT0)) ?_
  refine V.aload_n (pc := 36) dX10_init_36 rfl ?_
  refine V.anull (pc := 37) dX10_init_37 ?_
  refine V.putR (b := none) (pc := 38) dX10_init_38 fX10_25_9 (fun r h => by cases h; exact Or.inl rfl) rfl (by first | exact hT0 | (simp (disch := omega) only [upT_lt]; exact hT0) | (simp (disch := omega) only [upT_lt, fT]; exact hT0)) ?_
  refine V.aload_n (pc := 41) dX10_init_41 rfl ?_
  refine V.iconst (v := 0) (pc := 42) dX10_init_42 (by decide) ?_
  refine V.putI (pc := 43) dX10_init_43 fX10_28_9 (fun r h => by cases h; exact Or.inl rfl) rfl (by first | exact hT0 | (simp (disch := omega) only [upT_lt]; exact hT0) | (simp (disch := omega) only [upT_lt, fT]; exact hT0)) ?_
  refine V.aload_n (pc := 46) dX10_init_46 rfl ?_
  refine V.iconst (v := 0) (pc := 47) dX10_init_47 (by decide) ?_
  refine V.putI (pc := 48) dX10_init_48 fX10_31_9 (fun r h => by cases h; exact Or.inl rfl) rfl (by first | exact hT0 | (simp (disch := omega) only [upT_lt]; exact hT0) | (simp (disch := omega) only [upT_lt, fT]; exact hT0)) ?_
  exact V.vret (pc := 51) dX10_init_51 rfl ⟨rfl, rfl, ⟨fun b hb => by simp (disch := omega) only [upT_lt], fun b hb => by simp (disch := omega) only [up2_off, clr_off], fun b hb => by simp (disch := omega) only [up2_off, clr_off], fun b hb => by simp (disch := omega) only [up2_off, clr_off], fun b hb => upT_in (upT_in (upT_in (hb) (by simp)) (by simp)) (by simp)⟩, by simp (disch := omega) only [upT_lt, upT_at]; exact hT0, by simp (disch := omega) only [up2_off, up2_ne, up2_same, clr_off, clr_row], by simp (disch := omega) only [upT_lt, upT_at], by simp (disch := omega) only [up2_off, up2_ne, up2_same, clr_off, clr_row], by simp (disch := omega) only [upT_lt, upT_at], by simp (disch := omega) only [up2_off, up2_ne, up2_same, clr_off, clr_row], by simp (disch := omega) only [upT_lt, upT_at]⟩
theorem n_ask {g : gG} {d : Nat} {T : mT} {n : Nat} {I : mI} {J : mJ} {F : mF} {a : Nat} (hT0 : T a = some (.inl 0)) (hn : n = a + 1) : Ct g mX0_init (d + 1) [.ref a] 1 64 T n I J F (fun r' T' n' I' J' F' => r' = none ∧ n' = a + 2 ∧ NwF a T I J F T' I' J' F' ∧ T' (a) = some (.inl 0) ∧ F' (a) 0 = some (a + 1) ∧ T' (a + 1) = some (.inr (.long, 64))) := by
  refine Ct.ofV (k := 0) (by decide) (Nat.le_of_ble_eq_true rfl) ?_
  show V g mX0_init (d + 1) _ 1 64 0 [some (.ref a)] [] T n I J F
  subst hn
  refine V.aload_n (pc := 0) dX0_init_0 rfl ?_
  refine V.obj (pc := 1) dX0_init_1 lX0_3 (by omega) (Nat.le_of_ble_eq_true rfl) ?_
  refine V.aload_n (pc := 4) dX0_init_4 rfl ?_
  refine V.bipush (v := 64) (pc := 5) dX0_init_5 (by decide) ?_
  refine V.room (bc := 0 + 1) (bs := 0 + 64) (by decide) (by decide) ?_
  refine V.newa (ty := .long) (N := 64) (pc := 7) dX0_init_7 rfl a_long (by decide) rfl rfl (by decide) (by decide) (by decide) ?_
  refine V.putR (b := (some _)) (pc := 9) dX0_init_9 fX0_9_0 (fun r h => by cases h; exact Or.inr ⟨rfl, rfl⟩) rfl (by first | exact hT0 | (simp (disch := omega) only [upT_lt]; exact hT0) | (simp (disch := omega) only [upT_lt, fT]; exact hT0)) ?_
  refine V.aload_n (pc := 12) dX0_init_12 rfl ?_
  refine V.iconst (v := 0) (pc := 13) dX0_init_13 (by decide) ?_
  refine V.putI (pc := 14) dX0_init_14 fX0_15_0 (fun r h => by cases h; exact Or.inl rfl) rfl (by first | exact hT0 | (simp (disch := omega) only [upT_lt]; exact hT0) | (simp (disch := omega) only [upT_lt, fT]; exact hT0)) ?_
  refine V.aload_n (pc := 17) dX0_init_17 rfl ?_
  refine V.iconst (v := 1) (pc := 18) dX0_init_18 (by decide) ?_
  refine V.putZ (pc := 19) dX0_init_19 fX0_19_0 (fun r h => by cases h; exact Or.inl rfl) rfl (by first | exact Or.inl rfl | exact Or.inr rfl | assumption) (by first | exact hT0 | (simp (disch := omega) only [upT_lt]; exact hT0) | (simp (disch := omega) only [upT_lt, fT]; exact hT0)) ?_
  refine V.aload_n (pc := 22) dX0_init_22 rfl ?_
  refine V.iconst (v := 0) (pc := 23) dX0_init_23 (by decide) ?_
  refine V.putI (pc := 24) dX0_init_24 fX0_23_0 (fun r h => by cases h; exact Or.inl rfl) rfl (by first | exact hT0 | (simp (disch := omega) only [upT_lt]; exact hT0) | (simp (disch := omega) only [upT_lt, fT]; exact hT0)) ?_
  refine V.aload_n (pc := 27) dX0_init_27 rfl ?_
  refine V.anull (pc := 28) dX0_init_28 ?_
  refine V.putR (b := none) (pc := 29) dX0_init_29 fX0_26_0 (fun r h => by cases h; exact Or.inl rfl) rfl (by first | exact hT0 | (simp (disch := omega) only [upT_lt]; exact hT0) | (simp (disch := omega) only [upT_lt, fT]; exact hT0)) ?_
  refine V.aload_n (pc := 32) dX0_init_32 rfl ?_
  refine V.iconst (v := 0) (pc := 33) dX0_init_33 (by decide) ?_
  refine V.putI (pc := 34) dX0_init_34 fX0_30_0 (fun r h => by cases h; exact Or.inl rfl) rfl (by first | exact hT0 | (simp (disch := omega) only [upT_lt]; exact hT0) | (simp (disch := omega) only [upT_lt, fT]; exact hT0)) ?_
  exact V.vret (pc := 37) dX0_init_37 rfl ⟨rfl, rfl, ⟨fun b hb => by simp (disch := omega) only [upT_lt], fun b hb => by simp (disch := omega) only [up2_off, clr_off], fun b hb => by simp (disch := omega) only [up2_off, clr_off], fun b hb => by simp (disch := omega) only [up2_off, clr_off], fun b hb => upT_in (hb) (by simp)⟩, by simp (disch := omega) only [upT_lt, upT_at]; exact hT0, by simp (disch := omega) only [up2_off, up2_ne, up2_same, clr_off, clr_row], by simp (disch := omega) only [upT_lt, upT_at]⟩
theorem n_srch3 {g : gG} {d : Nat} {T : mT} {n : Nat} {I : mI} {J : mJ} {F : mF} {a : Nat} (hT0 : T a = some (.inl 3)) (hn : n = a + 1) : Ct g mX5_init (d + 1) [.ref a] 2 8 T n I J F (fun r' T' n' I' J' F' => r' = none ∧ n' = a + 3 ∧ NwF a T I J F T' I' J' F' ∧ T' (a) = some (.inl 3) ∧ F' (a) 0 = some (a + 1) ∧ T' (a + 1) = some (.inr (.int, 4)) ∧ F' (a) 1 = some (a + 2) ∧ T' (a + 2) = some (.inr (.int, 4))) := by
  refine Ct.ofV (k := 0) (by decide) (Nat.le_of_ble_eq_true rfl) ?_
  show V g mX5_init (d + 1) _ 2 8 0 [some (.ref a)] [] T n I J F
  subst hn
  refine V.aload_n (pc := 0) dX5_init_0 rfl ?_
  refine V.obj (pc := 1) dX5_init_1 lX5_3 (by omega) (Nat.le_of_ble_eq_true rfl) ?_
  refine V.aload_n (pc := 4) dX5_init_4 rfl ?_
  refine V.iconst (v := 4) (pc := 5) dX5_init_5 (by decide) ?_
  refine V.room (bc := 1 + 1) (bs := 4 + 4) (by decide) (by decide) ?_
  refine V.newa (ty := .int) (N := 4) (pc := 6) dX5_init_6 rfl a_int (by decide) rfl rfl (by decide) (by decide) (by decide) ?_
  refine V.putR (b := (some _)) (pc := 8) dX5_init_8 fX5_9_3 (fun r h => by cases h; exact Or.inr ⟨rfl, rfl⟩) rfl (by first | exact hT0 | (simp (disch := omega) only [upT_lt]; exact hT0) | (simp (disch := omega) only [upT_lt, fT]; exact hT0)) ?_
  refine V.aload_n (pc := 11) dX5_init_11 rfl ?_
  refine V.iconst (v := 4) (pc := 12) dX5_init_12 (by decide) ?_
  refine V.room (bc := 0 + 1) (bs := 0 + 4) (by decide) (by decide) ?_
  refine V.newa (ty := .int) (N := 4) (pc := 13) dX5_init_13 rfl a_int (by decide) rfl rfl (by decide) (by decide) (by decide) ?_
  refine V.putR (b := (some _)) (pc := 15) dX5_init_15 fX5_15_3 (fun r h => by cases h; exact Or.inr ⟨rfl, rfl⟩) rfl (by first | exact hT0 | (simp (disch := omega) only [upT_lt]; exact hT0) | (simp (disch := omega) only [upT_lt, fT]; exact hT0)) ?_
  refine V.aload_n (pc := 18) dX5_init_18 rfl ?_
  refine V.iconst (v := 0) (pc := 19) dX5_init_19 (by decide) ?_
  refine V.putI (pc := 20) dX5_init_20 fX5_18_3 (fun r h => by cases h; exact Or.inl rfl) rfl (by first | exact hT0 | (simp (disch := omega) only [upT_lt]; exact hT0) | (simp (disch := omega) only [upT_lt, fT]; exact hT0)) ?_
  exact V.vret (pc := 23) dX5_init_23 rfl ⟨rfl, rfl, ⟨fun b hb => by simp (disch := omega) only [upT_lt], fun b hb => by simp (disch := omega) only [up2_off, clr_off], fun b hb => by simp (disch := omega) only [up2_off, clr_off], fun b hb => by simp (disch := omega) only [up2_off, clr_off], fun b hb => upT_in (upT_in (hb) (by simp)) (by simp)⟩, by simp (disch := omega) only [upT_lt, upT_at]; exact hT0, by simp (disch := omega) only [up2_off, up2_ne, up2_same, clr_off, clr_row], by simp (disch := omega) only [upT_lt, upT_at], by simp (disch := omega) only [up2_off, up2_ne, up2_same, clr_off, clr_row], by simp (disch := omega) only [upT_lt, upT_at]⟩
theorem n_srch7 {g : gG} {d : Nat} {T : mT} {n : Nat} {I : mI} {J : mJ} {F : mF} {a : Nat} (hT0 : T a = some (.inl 6)) (hn : n = a + 1) : Ct g mX5_init (d + 1) [.ref a] 2 8 T n I J F (fun r' T' n' I' J' F' => r' = none ∧ n' = a + 3 ∧ NwF a T I J F T' I' J' F' ∧ T' (a) = some (.inl 6) ∧ F' (a) 0 = some (a + 1) ∧ T' (a + 1) = some (.inr (.int, 4)) ∧ F' (a) 1 = some (a + 2) ∧ T' (a + 2) = some (.inr (.int, 4))) := by
  refine Ct.ofV (k := 0) (by decide) (Nat.le_of_ble_eq_true rfl) ?_
  show V g mX5_init (d + 1) _ 2 8 0 [some (.ref a)] [] T n I J F
  subst hn
  refine V.aload_n (pc := 0) dX5_init_0 rfl ?_
  refine V.obj (pc := 1) dX5_init_1 lX5_3 (by omega) (Nat.le_of_ble_eq_true rfl) ?_
  refine V.aload_n (pc := 4) dX5_init_4 rfl ?_
  refine V.iconst (v := 4) (pc := 5) dX5_init_5 (by decide) ?_
  refine V.room (bc := 1 + 1) (bs := 4 + 4) (by decide) (by decide) ?_
  refine V.newa (ty := .int) (N := 4) (pc := 6) dX5_init_6 rfl a_int (by decide) rfl rfl (by decide) (by decide) (by decide) ?_
  refine V.putR (b := (some _)) (pc := 8) dX5_init_8 fX5_9_6 (fun r h => by cases h; exact Or.inr ⟨rfl, rfl⟩) rfl (by first | exact hT0 | (simp (disch := omega) only [upT_lt]; exact hT0) | (simp (disch := omega) only [upT_lt, fT]; exact hT0)) ?_
  refine V.aload_n (pc := 11) dX5_init_11 rfl ?_
  refine V.iconst (v := 4) (pc := 12) dX5_init_12 (by decide) ?_
  refine V.room (bc := 0 + 1) (bs := 0 + 4) (by decide) (by decide) ?_
  refine V.newa (ty := .int) (N := 4) (pc := 13) dX5_init_13 rfl a_int (by decide) rfl rfl (by decide) (by decide) (by decide) ?_
  refine V.putR (b := (some _)) (pc := 15) dX5_init_15 fX5_15_6 (fun r h => by cases h; exact Or.inr ⟨rfl, rfl⟩) rfl (by first | exact hT0 | (simp (disch := omega) only [upT_lt]; exact hT0) | (simp (disch := omega) only [upT_lt, fT]; exact hT0)) ?_
  refine V.aload_n (pc := 18) dX5_init_18 rfl ?_
  refine V.iconst (v := 0) (pc := 19) dX5_init_19 (by decide) ?_
  refine V.putI (pc := 20) dX5_init_20 fX5_18_6 (fun r h => by cases h; exact Or.inl rfl) rfl (by first | exact hT0 | (simp (disch := omega) only [upT_lt]; exact hT0) | (simp (disch := omega) only [upT_lt, fT]; exact hT0)) ?_
  exact V.vret (pc := 23) dX5_init_23 rfl ⟨rfl, rfl, ⟨fun b hb => by simp (disch := omega) only [upT_lt], fun b hb => by simp (disch := omega) only [up2_off, clr_off], fun b hb => by simp (disch := omega) only [up2_off, clr_off], fun b hb => by simp (disch := omega) only [up2_off, clr_off], fun b hb => upT_in (upT_in (hb) (by simp)) (by simp)⟩, by simp (disch := omega) only [upT_lt, upT_at]; exact hT0, by simp (disch := omega) only [up2_off, up2_ne, up2_same, clr_off, clr_row], by simp (disch := omega) only [upT_lt, upT_at], by simp (disch := omega) only [up2_off, up2_ne, up2_same, clr_off, clr_row], by simp (disch := omega) only [upT_lt, upT_at]⟩
theorem n_set {g : gG} {d : Nat} {T : mT} {n : Nat} {I : mI} {J : mJ} {F : mF} {a : Nat} (hT0 : T a = some (.inl 5)) (hn : n = a + 1) : Ct g mX6_init (d + 1) [.ref a] 4 12 T n I J F (fun r' T' n' I' J' F' => r' = none ∧ n' = a + 5 ∧ NwF a T I J F T' I' J' F' ∧ T' (a) = some (.inl 5) ∧ F' (a) 3 = some (a + 1) ∧ T' (a + 1) = some (.inr (.int, 4)) ∧ F' (a) 4 = some (a + 2) ∧ T' (a + 2) = some (.inr (.int, 4)) ∧ F' (a) 5 = some (a + 3) ∧ T' (a + 3) = some (.inr (.int, 4)) ∧ F' (a) 7 = some (a + 4) ∧ T' (a + 4) = some (.inr (.int, 0))) := by
  refine Ct.ofV (k := 0) (by decide) (Nat.le_of_ble_eq_true rfl) ?_
  show V g mX6_init (d + 1) _ 4 12 0 [some (.ref a)] [] T n I J F
  subst hn
  refine V.aload_n (pc := 0) dX6_init_0 rfl ?_
  refine V.obj (pc := 1) dX6_init_1 lX6_3 (by omega) (Nat.le_of_ble_eq_true rfl) ?_
  refine V.aload_n (pc := 4) dX6_init_4 rfl ?_
  refine V.iconst (v := 1) (pc := 5) dX6_init_5 (by decide) ?_
  refine V.putI (pc := 6) dX6_init_6 fX6_9_5 (fun r h => by cases h; exact Or.inl rfl) rfl (by first | exact hT0 | (simp (disch := omega) only [upT_lt]; exact hT0) | (simp (disch := omega) only [upT_lt, fT]; exact hT0)) ?_
  refine V.aload_n (pc := 9) dX6_init_9 rfl ?_
  refine V.iconst (v := 1) (pc := 10) dX6_init_10 (by decide) ?_
  refine V.putI (pc := 11) dX6_init_11 fX6_15_5 (fun r h => by cases h; exact Or.inl rfl) rfl (by first | exact hT0 | (simp (disch := omega) only [upT_lt]; exact hT0) | (simp (disch := omega) only [upT_lt, fT]; exact hT0)) ?_
  refine V.aload_n (pc := 14) dX6_init_14 rfl ?_
  refine V.iconst (v := 0) (pc := 15) dX6_init_15 (by decide) ?_
  refine V.putI (pc := 16) dX6_init_16 fX6_18_5 (fun r h => by cases h; exact Or.inl rfl) rfl (by first | exact hT0 | (simp (disch := omega) only [upT_lt]; exact hT0) | (simp (disch := omega) only [upT_lt, fT]; exact hT0)) ?_
  refine V.aload_n (pc := 19) dX6_init_19 rfl ?_
  refine V.iconst (v := 4) (pc := 20) dX6_init_20 (by decide) ?_
  refine V.room (bc := 3 + 1) (bs := 8 + 4) (by decide) (by decide) ?_
  refine V.newa (ty := .int) (N := 4) (pc := 21) dX6_init_21 rfl a_int (by decide) rfl rfl (by decide) (by decide) (by decide) ?_
  refine V.putR (b := (some _)) (pc := 23) dX6_init_23 fX6_21_5 (fun r h => by cases h; exact Or.inr ⟨rfl, rfl⟩) rfl (by first | exact hT0 | (simp (disch := omega) only [upT_lt]; exact hT0) | (simp (disch := omega) only [upT_lt, fT]; exact hT0)) ?_
  refine V.aload_n (pc := 26) dX6_init_26 rfl ?_
  refine V.iconst (v := 4) (pc := 27) dX6_init_27 (by decide) ?_
  refine V.room (bc := 2 + 1) (bs := 4 + 4) (by decide) (by decide) ?_
  refine V.newa (ty := .int) (N := 4) (pc := 28) dX6_init_28 rfl a_int (by decide) rfl rfl (by decide) (by decide) (by decide) ?_
  refine V.putR (b := (some _)) (pc := 30) dX6_init_30 fX6_25_5 (fun r h => by cases h; exact Or.inr ⟨rfl, rfl⟩) rfl (by first | exact hT0 | (simp (disch := omega) only [upT_lt]; exact hT0) | (simp (disch := omega) only [upT_lt, fT]; exact hT0)) ?_
  refine V.aload_n (pc := 33) dX6_init_33 rfl ?_
  refine V.iconst (v := 4) (pc := 34) dX6_init_34 (by decide) ?_
  refine V.room (bc := 1 + 1) (bs := 0 + 4) (by decide) (by decide) ?_
  refine V.newa (ty := .int) (N := 4) (pc := 35) dX6_init_35 rfl a_int (by decide) rfl rfl (by decide) (by decide) (by decide) ?_
  refine V.putR (b := (some _)) (pc := 37) dX6_init_37 fX6_28_5 (fun r h => by cases h; exact Or.inr ⟨rfl, rfl⟩) rfl (by first | exact hT0 | (simp (disch := omega) only [upT_lt]; exact hT0) | (simp (disch := omega) only [upT_lt, fT]; exact hT0)) ?_
  refine V.aload_n (pc := 40) dX6_init_40 rfl ?_
  refine V.iconst (v := 0) (pc := 41) dX6_init_41 (by decide) ?_
  refine V.putI (pc := 42) dX6_init_42 fX6_31_5 (fun r h => by cases h; exact Or.inl rfl) rfl (by first | exact hT0 | (simp (disch := omega) only [upT_lt]; exact hT0) | (simp (disch := omega) only [upT_lt, fT]; exact hT0)) ?_
  refine V.aload_n (pc := 45) dX6_init_45 rfl ?_
  refine V.iconst (v := 0) (pc := 46) dX6_init_46 (by decide) ?_
  refine V.room (bc := 0 + 1) (bs := 0 + 0) (by decide) (by decide) ?_
  refine V.newa (ty := .int) (N := 0) (pc := 47) dX6_init_47 rfl a_int (by decide) rfl rfl (by decide) (by decide) (by decide) ?_
  refine V.putR (b := (some _)) (pc := 49) dX6_init_49 fX6_34_5 (fun r h => by cases h; exact Or.inl rfl) rfl (by first | exact hT0 | (simp (disch := omega) only [upT_lt]; exact hT0) | (simp (disch := omega) only [upT_lt, fT]; exact hT0)) ?_
  refine V.aload_n (pc := 52) dX6_init_52 rfl ?_
  refine V.iconst (v := 0) (pc := 53) dX6_init_53 (by decide) ?_
  refine V.putI (pc := 54) dX6_init_54 fX6_37_5 (fun r h => by cases h; exact Or.inl rfl) rfl (by first | exact hT0 | (simp (disch := omega) only [upT_lt]; exact hT0) | (simp (disch := omega) only [upT_lt, fT]; exact hT0)) ?_
  exact V.vret (pc := 57) dX6_init_57 rfl ⟨rfl, rfl, ⟨fun b hb => by simp (disch := omega) only [upT_lt], fun b hb => by simp (disch := omega) only [up2_off, clr_off], fun b hb => by simp (disch := omega) only [up2_off, clr_off], fun b hb => by simp (disch := omega) only [up2_off, clr_off], fun b hb => upT_in (upT_in (upT_in (upT_in (hb) (by simp)) (by simp)) (by simp)) (by simp)⟩, by simp (disch := omega) only [upT_lt, upT_at]; exact hT0, by simp (disch := omega) only [up2_off, up2_ne, up2_same, clr_off, clr_row], by simp (disch := omega) only [upT_lt, upT_at], by simp (disch := omega) only [up2_off, up2_ne, up2_same, clr_off, clr_row], by simp (disch := omega) only [upT_lt, upT_at], by simp (disch := omega) only [up2_off, up2_ne, up2_same, clr_off, clr_row], by simp (disch := omega) only [upT_lt, upT_at], by simp (disch := omega) only [up2_off, up2_ne, up2_same, clr_off, clr_row], by simp (disch := omega) only [upT_lt, upT_at]⟩
theorem n_storm {g : gG} {d : Nat} {T : mT} {n : Nat} {I : mI} {J : mJ} {F : mF} {a : Nat} (hT0 : T a = some (.inl 8)) (hn : n = a + 1) : Ct g mX9_init (d + 1) [.ref a] 2 12 T n I J F (fun r' T' n' I' J' F' => r' = none ∧ n' = a + 3 ∧ NwF a T I J F T' I' J' F' ∧ T' (a) = some (.inl 8) ∧ F' (a) 1 = some (a + 1) ∧ T' (a + 1) = some (.inr (.int, 6)) ∧ F' (a) 2 = some (a + 2) ∧ T' (a + 2) = some (.inr (.int, 6)) ∧ I' (a) 0 = 0) := by
  refine Ct.ofV (k := 0) (by decide) (Nat.le_of_ble_eq_true rfl) ?_
  show V g mX9_init (d + 1) _ 2 12 0 [some (.ref a)] [] T n I J F
  subst hn
  refine V.aload_n (pc := 0) dX9_init_0 rfl ?_
  refine V.obj (pc := 1) dX9_init_1 lX9_3 (by omega) (Nat.le_of_ble_eq_true rfl) ?_
  refine V.aload_n (pc := 4) dX9_init_4 rfl ?_
  refine V.iconst (v := 0) (pc := 5) dX9_init_5 (by decide) ?_
  refine V.putI (pc := 6) dX9_init_6 fX9_9_8 (fun r h => by cases h; exact Or.inl rfl) rfl (by first | exact hT0 | (simp (disch := omega) only [upT_lt]; exact hT0) | (simp (disch := omega) only [upT_lt, fT]; exact hT0)) ?_
  refine V.aload_n (pc := 9) dX9_init_9 rfl ?_
  refine V.bipush (v := 6) (pc := 10) dX9_init_10 (by decide) ?_
  refine V.room (bc := 1 + 1) (bs := 6 + 6) (by decide) (by decide) ?_
  refine V.newa (ty := .int) (N := 6) (pc := 12) dX9_init_12 rfl a_int (by decide) rfl rfl (by decide) (by decide) (by decide) ?_
  refine V.putR (b := (some _)) (pc := 14) dX9_init_14 fX9_15_8 (fun r h => by cases h; exact Or.inr ⟨rfl, rfl⟩) rfl (by first | exact hT0 | (simp (disch := omega) only [upT_lt]; exact hT0) | (simp (disch := omega) only [upT_lt, fT]; exact hT0)) ?_
  refine V.aload_n (pc := 17) dX9_init_17 rfl ?_
  refine V.bipush (v := 6) (pc := 18) dX9_init_18 (by decide) ?_
  refine V.room (bc := 0 + 1) (bs := 0 + 6) (by decide) (by decide) ?_
  refine V.newa (ty := .int) (N := 6) (pc := 20) dX9_init_20 rfl a_int (by decide) rfl rfl (by decide) (by decide) (by decide) ?_
  refine V.putR (b := (some _)) (pc := 22) dX9_init_22 fX9_19_8 (fun r h => by cases h; exact Or.inr ⟨rfl, rfl⟩) rfl (by first | exact hT0 | (simp (disch := omega) only [upT_lt]; exact hT0) | (simp (disch := omega) only [upT_lt, fT]; exact hT0)) ?_
  refine V.aload_n (pc := 25) dX9_init_25 rfl ?_
  refine V.lconst (v := 0) (pc := 26) dX9_init_26 (by decide) ?_
  refine V.putJ (pc := 27) dX9_init_27 fX9_22_8 (fun r h => by cases h; exact Or.inl rfl) rfl (by first | exact hT0 | (simp (disch := omega) only [upT_lt]; exact hT0) | (simp (disch := omega) only [upT_lt, fT]; exact hT0)) ?_
  exact V.vret (pc := 30) dX9_init_30 rfl ⟨rfl, rfl, ⟨fun b hb => by simp (disch := omega) only [upT_lt], fun b hb => by simp (disch := omega) only [up2_off, clr_off], fun b hb => by simp (disch := omega) only [up2_off, clr_off], fun b hb => by simp (disch := omega) only [up2_off, clr_off], fun b hb => upT_in (upT_in (hb) (by simp)) (by simp)⟩, by simp (disch := omega) only [upT_lt, upT_at]; exact hT0, by simp (disch := omega) only [up2_off, up2_ne, up2_same, clr_off, clr_row], by simp (disch := omega) only [upT_lt, upT_at], by simp (disch := omega) only [up2_off, up2_ne, up2_same, clr_off, clr_row], by simp (disch := omega) only [upT_lt, upT_at], by first | (simp (disch := omega) only [up2_off, up2_ne, up2_same, clr_off, clr_row]; done) | (simp (disch := omega) only [up2_off, up2_ne, up2_same, clr_off, clr_row]; rfl)⟩
theorem n_near {g : gG} {d : Nat} {T : mT} {n : Nat} {I : mI} {J : mJ} {F : mF} {a : Nat} (hT0 : T a = some (.inl 3)) (hn : n = a + 1) : Ct g mX3_init (d + 2) [.ref a] 2 8 T n I J F (fun r' T' n' I' J' F' => r' = none ∧ n' = a + 3 ∧ NwF a T I J F T' I' J' F' ∧ SrS 3 T' F' a) := by
  refine Ct.ofV (k := 0) (by decide) (Nat.le_of_ble_eq_true rfl) ?_
  show V g mX3_init (d + 2) _ 2 8 0 [some (.ref a)] [] T n I J F
  subst hn
  refine V.aload_n (pc := 0) dX3_init_0 rfl ?_
  refine V.room (bc := 0 + 2) (bs := 0 + 8) (by decide) (by decide) ?_
  refine V.invI (mc := 2) (ms := 8) (as := []) (pc := 1) dX3_init_1 lX3_1 bX5_init nX5_init rfl rfl (n_srch3 (d := d + 0) (a := a) hT0 rfl) (by omega) rfl (Nat.le_of_ble_eq_true rfl) ?_
  rintro _ T2 _ I2 J2 F2 ⟨rfl, rfl, ⟨fT, fI, fJ, fF, fL⟩, s0, s1, s2, s3, s4⟩
  refine V.aload_n (pc := 4) dX3_init_4 rfl ?_
  refine V.lconst (v := 1) (pc := 5) dX3_init_5 (by decide) ?_
  refine V.putJ (pc := 6) dX3_init_6 fX3_7_3 (fun r h => by cases h; exact Or.inl rfl) rfl s0 ?_
  refine V.aload_n (pc := 9) dX3_init_9 rfl ?_
  refine V.lconst (v := 1) (pc := 10) dX3_init_10 (by decide) ?_
  refine V.putJ (pc := 11) dX3_init_11 fX3_13_3 (fun r h => by cases h; exact Or.inl rfl) rfl s0 ?_
  refine V.aload_n (pc := 14) dX3_init_14 rfl ?_
  refine V.lconst (v := 0) (pc := 15) dX3_init_15 (by decide) ?_
  refine V.putJ (pc := 16) dX3_init_16 fX3_16_3 (fun r h => by cases h; exact Or.inl rfl) rfl s0 ?_
  refine V.aload_n (pc := 19) dX3_init_19 rfl ?_
  refine V.lconst (v := 1) (pc := 20) dX3_init_20 (by decide) ?_
  refine V.putJ (pc := 21) dX3_init_21 fX3_19_3 (fun r h => by cases h; exact Or.inl rfl) rfl s0 ?_
  exact V.vret (pc := 24) dX3_init_24 rfl ⟨rfl, rfl, ⟨fT, fI, fun b hb => by simp (disch := omega) only [up2_off, fJ], fF, fL⟩, s0, ⟨s1, s2⟩, s3, s4⟩
theorem n_sight {g : gG} {d : Nat} {T : mT} {n : Nat} {I : mI} {J : mJ} {F : mF} {a : Nat} (hT0 : T a = some (.inl 6)) (hn : n = a + 1) : Ct g mX7_init (d + 2) [.ref a] 4 28 T n I J F (fun r' T' n' I' J' F' => r' = none ∧ n' = a + 5 ∧ NwF a T I J F T' I' J' F' ∧ SgS T' F' a) := by
  refine Ct.ofV (k := 0) (by decide) (Nat.le_of_ble_eq_true rfl) ?_
  show V g mX7_init (d + 2) _ 4 28 0 [some (.ref a)] [] T n I J F
  subst hn
  refine V.aload_n (pc := 0) dX7_init_0 rfl ?_
  refine V.room (bc := 2 + 2) (bs := 20 + 8) (by decide) (by decide) ?_
  refine V.invI (mc := 2) (ms := 8) (as := []) (pc := 1) dX7_init_1 lX7_3 bX5_init nX5_init rfl rfl (n_srch7 (d := d + 0) (a := a) hT0 rfl) (by omega) rfl (Nat.le_of_ble_eq_true rfl) ?_
  rintro _ T2 _ I2 J2 F2 ⟨rfl, rfl, ⟨fT, fI, fJ, fF, fL⟩, s0, s1, s2, s3, s4⟩
  refine V.aload_n (pc := 4) dX7_init_4 rfl ?_
  refine V.iconst (v := 1) (pc := 5) dX7_init_5 (by decide) ?_
  refine V.putI (pc := 6) dX7_init_6 fX7_9_6 (fun r h => by cases h; exact Or.inl rfl) rfl (by first | exact s0 | (simp (disch := omega) only [upT_lt]; exact s0)) ?_
  refine V.aload_n (pc := 9) dX7_init_9 rfl ?_
  refine V.iconst (v := 0) (pc := 10) dX7_init_10 (by decide) ?_
  refine V.putI (pc := 11) dX7_init_11 fX7_15_6 (fun r h => by cases h; exact Or.inl rfl) rfl (by first | exact s0 | (simp (disch := omega) only [upT_lt]; exact s0)) ?_
  refine V.aload_n (pc := 14) dX7_init_14 rfl ?_
  refine V.bipush (v := 10) (pc := 15) dX7_init_15 (by decide) ?_
  refine V.room (bc := 1 + 1) (bs := 10 + 10) (by decide) (by decide) ?_
  refine V.newa (ty := .int) (N := 10) (pc := 17) dX7_init_17 rfl a_int (by decide) rfl rfl (by decide) (by decide) (by decide) ?_
  refine V.putR (b := (some _)) (pc := 19) dX7_init_19 fX7_18_6 (fun r h => by cases h; exact Or.inr ⟨rfl, rfl⟩) rfl (by first | exact s0 | (simp (disch := omega) only [upT_lt]; exact s0)) ?_
  refine V.aload_n (pc := 22) dX7_init_22 rfl ?_
  refine V.bipush (v := 10) (pc := 23) dX7_init_23 (by decide) ?_
  refine V.room (bc := 0 + 1) (bs := 0 + 10) (by decide) (by decide) ?_
  refine V.newa (ty := .int) (N := 10) (pc := 25) dX7_init_25 rfl a_int (by decide) rfl rfl (by decide) (by decide) (by decide) ?_
  refine V.putR (b := (some _)) (pc := 27) dX7_init_27 fX7_22_6 (fun r h => by cases h; exact Or.inr ⟨rfl, rfl⟩) rfl (by first | exact s0 | (simp (disch := omega) only [upT_lt]; exact s0)) ?_
  refine V.aload_n (pc := 30) dX7_init_30 rfl ?_
  refine V.iconst (v := 0) (pc := 31) dX7_init_31 (by decide) ?_
  refine V.putI (pc := 32) dX7_init_32 fX7_25_6 (fun r h => by cases h; exact Or.inl rfl) rfl (by first | exact s0 | (simp (disch := omega) only [upT_lt]; exact s0)) ?_
  refine V.aload_n (pc := 35) dX7_init_35 rfl ?_
  refine V.iconst (v := 0) (pc := 36) dX7_init_36 (by decide) ?_
  refine V.putI (pc := 37) dX7_init_37 fX7_28_6 (fun r h => by cases h; exact Or.inl rfl) rfl (by first | exact s0 | (simp (disch := omega) only [upT_lt]; exact s0)) ?_
  exact V.vret (pc := 40) dX7_init_40 rfl ⟨rfl, rfl, ⟨fun b hb => by simp (disch := omega) only [upT_lt, fT], fun b hb => by simp (disch := omega) only [up2_off, clr_off, fI], fun b hb => by simp (disch := omega) only [up2_off, clr_off, fJ], fun b hb => by simp (disch := omega) only [up2_off, clr_off, fF], fun b hb => fL b (upT_in (upT_in hb (by simp)) (by simp))⟩, ⟨by simp (disch := omega) only [upT_lt, upT_at]; exact s0, ⟨by simp (disch := omega) only [up2_off, up2_ne, up2_same, clr_off, clr_row]; exact s1, by simp (disch := omega) only [upT_lt, upT_at]; exact s2⟩, by simp (disch := omega) only [up2_off, up2_ne, up2_same, clr_off, clr_row]; exact s3, by simp (disch := omega) only [upT_lt, upT_at]; exact s4⟩, ⟨by simp (disch := omega) only [up2_off, up2_ne, up2_same, clr_off, clr_row], by simp (disch := omega) only [upT_lt, upT_at]⟩, by simp (disch := omega) only [up2_off, up2_ne, up2_same, clr_off, clr_row], by simp (disch := omega) only [upT_lt, upT_at]⟩
theorem n_read {g : gG} {d : Nat} {T : mT} {n : Nat} {I : mI} {J : mJ} {F : mF} {a : Nat} (hT0 : T a = some (.inl 4)) (hn : n = a + 1) : Ct g mX4_init (d + 2) [.ref a] 6 1623 T n I J F (fun r' T' n' I' J' F' => r' = none ∧ n' = a + 7 ∧ NwF a T I J F T' I' J' F' ∧ (T' a = some (.inl 4) ∧ F' a 0 = some (a + 1) ∧ T' (a + 1) = some (.inl 9)) ∧ (F' (a + 1) 0 = some (a + 2) ∧ T' (a + 2) = some (.inr (.int, 401))) ∧ (F' (a + 1) 1 = some (a + 3) ∧ T' (a + 3) = some (.inr (.int, 401))) ∧ (F' (a + 1) 2 = some (a + 4) ∧ T' (a + 4) = some (.inr (.int, 401))) ∧ (F' a 8 = some (a + 5) ∧ T' (a + 5) = some (.inr (.int, 400))) ∧ F' a 9 = some (a + 6) ∧ T' (a + 6) = some (.inr (.int, 13))) := by
  refine Ct.ofV (k := 0) (by decide) (Nat.le_of_ble_eq_true rfl) ?_
  show V g mX4_init (d + 2) _ 6 1623 0 [some (.ref a)] [] T n I J F
  subst hn
  refine V.aload_n (pc := 0) dX4_init_0 rfl ?_
  refine V.obj (pc := 1) dX4_init_1 lX4_3 (by omega) (Nat.le_of_ble_eq_true rfl) ?_
  refine V.aload_n (pc := 4) dX4_init_4 rfl ?_
  refine V.room (bc := 5 + 1) (bs := 1616 + 7) (by decide) (by decide) ?_
  refine V.new (N := 7) (RX10, TX10, 7) (pc := 5) dX4_init_5 (ci := 9) rfl rfl kX4_9 iX10 jX10 ?_
  refine V.dup (pc := 8) dX4_init_8 rfl ?_
  refine V.room (bc := 2 + 3) (bs := 413 + 1203) (by decide) (by decide) ?_
  refine V.invI (mc := 3) (ms := 1203) (as := []) (pc := 9) dX4_init_9 lX4_11 bX10_init nX10_init rfl rfl (n_tok (d := d + 0) (a := a + 1) upT_at rfl) (by omega) rfl (Nat.le_of_ble_eq_true rfl) ?_
  rintro _ T2 _ I2 J2 F2 ⟨rfl, rfl, ⟨fT, fI, fJ, fF, fL⟩, s0, s1, s2, s3, s4, s5, s6⟩
  refine V.putR (b := (some _)) (pc := 12) dX4_init_12 fX4_12_4 (fun r h => by cases h; exact Or.inr ⟨rfl, rfl⟩) rfl (by first | exact hT0 | (simp (disch := omega) only [upT_lt]; exact hT0) | (simp (disch := omega) only [upT_lt, fT]; exact hT0)) ?_
  refine V.aload_n (pc := 15) dX4_init_15 rfl ?_
  refine V.iconst (v := 0) (pc := 16) dX4_init_16 (by decide) ?_
  refine V.putI (pc := 17) dX4_init_17 fX4_18_4 (fun r h => by cases h; exact Or.inl rfl) rfl (by first | exact hT0 | (simp (disch := omega) only [upT_lt]; exact hT0) | (simp (disch := omega) only [upT_lt, fT]; exact hT0)) ?_
  refine V.aload_n (pc := 20) dX4_init_20 rfl ?_
  refine V.iconst (v := (-1)) (pc := 21) dX4_init_21 (by decide) ?_
  refine V.putI (pc := 22) dX4_init_22 fX4_22_4 (fun r h => by cases h; exact Or.inl rfl) rfl (by first | exact hT0 | (simp (disch := omega) only [upT_lt]; exact hT0) | (simp (disch := omega) only [upT_lt, fT]; exact hT0)) ?_
  refine V.aload_n (pc := 25) dX4_init_25 rfl ?_
  refine V.iconst (v := 0) (pc := 26) dX4_init_26 (by decide) ?_
  refine V.putI (pc := 27) dX4_init_27 fX4_25_4 (fun r h => by cases h; exact Or.inl rfl) rfl (by first | exact hT0 | (simp (disch := omega) only [upT_lt]; exact hT0) | (simp (disch := omega) only [upT_lt, fT]; exact hT0)) ?_
  refine V.aload_n (pc := 30) dX4_init_30 rfl ?_
  refine V.iconst (v := 0) (pc := 31) dX4_init_31 (by decide) ?_
  refine V.putI (pc := 32) dX4_init_32 fX4_28_4 (fun r h => by cases h; exact Or.inl rfl) rfl (by first | exact hT0 | (simp (disch := omega) only [upT_lt]; exact hT0) | (simp (disch := omega) only [upT_lt, fT]; exact hT0)) ?_
  refine V.aload_n (pc := 35) dX4_init_35 rfl ?_
  refine V.iconst (v := 0) (pc := 36) dX4_init_36 (by decide) ?_
  refine V.putI (pc := 37) dX4_init_37 fX4_31_4 (fun r h => by cases h; exact Or.inl rfl) rfl (by first | exact hT0 | (simp (disch := omega) only [upT_lt]; exact hT0) | (simp (disch := omega) only [upT_lt, fT]; exact hT0)) ?_
  refine V.aload_n (pc := 40) dX4_init_40 rfl ?_
  refine V.iconst (v := 0) (pc := 41) dX4_init_41 (by decide) ?_
  refine V.putI (pc := 42) dX4_init_42 fX4_34_4 (fun r h => by cases h; exact Or.inl rfl) rfl (by first | exact hT0 | (simp (disch := omega) only [upT_lt]; exact hT0) | (simp (disch := omega) only [upT_lt, fT]; exact hT0)) ?_
  refine V.aload_n (pc := 45) dX4_init_45 rfl ?_
  refine V.iconst (v := 0) (pc := 46) dX4_init_46 (by decide) ?_
  refine V.putI (pc := 47) dX4_init_47 fX4_37_4 (fun r h => by cases h; exact Or.inl rfl) rfl (by first | exact hT0 | (simp (disch := omega) only [upT_lt]; exact hT0) | (simp (disch := omega) only [upT_lt, fT]; exact hT0)) ?_
  refine V.aload_n (pc := 50) dX4_init_50 rfl ?_
  refine V.sipush (v := 400) (pc := 51) dX4_init_51 (by decide) ?_
  refine V.room (bc := 1 + 1) (bs := 13 + 400) (by decide) (by decide) ?_
  refine V.newa (ty := .int) (N := 400) (pc := 54) dX4_init_54 rfl a_int (by decide) rfl rfl (by decide) (by decide) (by decide) ?_
  refine V.putR (b := (some _)) (pc := 56) dX4_init_56 fX4_40_4 (fun r h => by cases h; exact Or.inr ⟨rfl, rfl⟩) rfl (by first | exact hT0 | (simp (disch := omega) only [upT_lt]; exact hT0) | (simp (disch := omega) only [upT_lt, fT]; exact hT0)) ?_
  refine V.aload_n (pc := 59) dX4_init_59 rfl ?_
  refine V.bipush (v := 13) (pc := 60) dX4_init_60 (by decide) ?_
  refine V.room (bc := 0 + 1) (bs := 0 + 13) (by decide) (by decide) ?_
  refine V.newa (ty := .int) (N := 13) (pc := 62) dX4_init_62 rfl a_int (by decide) rfl rfl (by decide) (by decide) (by decide) ?_
  refine V.putR (b := (some _)) (pc := 64) dX4_init_64 fX4_44_4 (fun r h => by cases h; exact Or.inr ⟨rfl, rfl⟩) rfl (by first | exact hT0 | (simp (disch := omega) only [upT_lt]; exact hT0) | (simp (disch := omega) only [upT_lt, fT]; exact hT0)) ?_
  refine V.aload_n (pc := 67) dX4_init_67 rfl ?_
  refine V.iconst (v := (-1)) (pc := 68) dX4_init_68 (by decide) ?_
  refine V.putI (pc := 69) dX4_init_69 fX4_47_4 (fun r h => by cases h; exact Or.inl rfl) rfl (by first | exact hT0 | (simp (disch := omega) only [upT_lt]; exact hT0) | (simp (disch := omega) only [upT_lt, fT]; exact hT0)) ?_
  exact V.vret (pc := 72) dX4_init_72 rfl ⟨rfl, rfl, ⟨fun b hb => by simp (disch := omega) only [upT_lt, fT], fun b hb => by simp (disch := omega) only [up2_off, clr_off, fI], fun b hb => by simp (disch := omega) only [up2_off, clr_off, fJ], fun b hb => by simp (disch := omega) only [up2_off, clr_off, fF], fun b hb => upT_in (fL b (upT_in (upT_in hb (by simp)) (by simp))) (by simp)⟩, ⟨by simp (disch := omega) only [upT_lt, upT_at, fT]; exact hT0, by simp (disch := omega) only [up2_off, up2_ne, up2_same, clr_off, clr_row], by simp (disch := omega) only [upT_lt, upT_at]; exact s0⟩, ⟨by simp (disch := omega) only [up2_off, up2_ne, up2_same, clr_off, clr_row]; exact s1, by simp (disch := omega) only [upT_lt, upT_at]; exact s2⟩, ⟨by simp (disch := omega) only [up2_off, up2_ne, up2_same, clr_off, clr_row]; exact s3, by simp (disch := omega) only [upT_lt, upT_at]; exact s4⟩, ⟨by simp (disch := omega) only [up2_off, up2_ne, up2_same, clr_off, clr_row]; exact s5, by simp (disch := omega) only [upT_lt, upT_at]; exact s6⟩, ⟨by simp (disch := omega) only [up2_off, up2_ne, up2_same, clr_off, clr_row], by simp (disch := omega) only [upT_lt, upT_at]⟩, by simp (disch := omega) only [up2_off, up2_ne, up2_same, clr_off, clr_row], by simp (disch := omega) only [upT_lt, upT_at]⟩
