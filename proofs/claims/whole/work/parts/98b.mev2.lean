-- one step of the reference's reckoning
theorem c_reckon {g : gG} {d : Nat} {T : mT} {n : Nat} {I : mI} {J : mJ} {F : mF} {m op : Nat} {a b : Int} (x : Int32) (h1 : 19 ≤ op) (h2 : op ≤ 26) (hM : MS T F m) (h29 : I m 29 = 0) (hx : x = nI op) (ha : Bd a) (hb : Bd b) : Ct g mX12_reckon (d + 0) [.ref m, .int x, .long (lI a), .long (lI b)] 0 0 T n I J F (fun r' T' n' I' J' F' => r' = some (.long (lI (rkZ op a b))) ∧ T' = T ∧ n' = n ∧ J' = J ∧ F' = F ∧ (∀ c, c ≠ m → I' c = I c) ∧ (∀ t, t ≠ 29 → I' m t = I m t) ∧ I' m 29 = (if (op = 22 ∨ op = 23) ∧ b = 0 then 1 else 0)) := by
  subst hx
  have hc : op = 19 ∨ op = 20 ∨ op = 21 ∨ op = 22 ∨ op = 23 ∨ op = 24 ∨ op = 25 ∨ op = 26 := by omega
  rcases hc with rfl | rfl | rfl | rfl | rfl | rfl | rfl | rfl
  · exact (c_rk19 hM ha hb).imp (by rintro _ _ _ _ _ _ ⟨rfl, rfl, rfl, rfl, rfl, rfl⟩; exact ⟨rfl, rfl, rfl, rfl, rfl, fun _ _ => rfl, fun _ _ => rfl, by rw [h29, if_neg (by omega)]⟩)
  · exact (c_rk20 hM ha hb).imp (by rintro _ _ _ _ _ _ ⟨rfl, rfl, rfl, rfl, rfl, rfl⟩; exact ⟨rfl, rfl, rfl, rfl, rfl, fun _ _ => rfl, fun _ _ => rfl, by rw [h29, if_neg (by omega)]⟩)
  · exact (c_rk21 hM ha hb).imp (by rintro _ _ _ _ _ _ ⟨rfl, rfl, rfl, rfl, rfl, rfl⟩; exact ⟨rfl, rfl, rfl, rfl, rfl, fun _ _ => rfl, fun _ _ => rfl, by rw [h29, if_neg (by omega)]⟩)
  · by_cases h0 : b = 0
    · exact (c_rk22Z hM ha hb h0).imp (by rintro _ _ _ _ _ _ ⟨rfl, rfl, rfl, rfl, rfl, rfl⟩; exact ⟨by rw [rkZ, if_neg (by decide), if_neg (by decide), if_neg (by decide), if_pos rfl, if_pos h0], rfl, rfl, rfl, rfl, fun c hc => up2_off hc, fun t ht => up2_ne (by omega), by rw [up2_same, if_pos (by omega)]⟩)
    · exact (c_rk22N hM ha hb h0).imp (by rintro _ _ _ _ _ _ ⟨rfl, rfl, rfl, rfl, rfl, rfl⟩; exact ⟨by rw [rkZ, if_neg (by decide), if_neg (by decide), if_neg (by decide), if_pos rfl, if_neg h0], rfl, rfl, rfl, rfl, fun c hc => up2_off hc, fun t ht => up2_ne (by omega), by rw [up2_same, if_neg (by omega)]⟩)
  · by_cases h0 : b = 0
    · exact (c_rk23Z hM ha hb h0).imp (by rintro _ _ _ _ _ _ ⟨rfl, rfl, rfl, rfl, rfl, rfl⟩; exact ⟨by rw [rkZ, if_neg (by decide), if_neg (by decide), if_neg (by decide), if_neg (by decide), if_pos rfl, if_pos h0], rfl, rfl, rfl, rfl, fun c hc => up2_off hc, fun t ht => up2_ne (by omega), by rw [up2_same, if_pos (by omega)]⟩)
    · exact (c_rk23N hM ha hb h0).imp (by rintro _ _ _ _ _ _ ⟨rfl, rfl, rfl, rfl, rfl, rfl⟩; exact ⟨by rw [rkZ, if_neg (by decide), if_neg (by decide), if_neg (by decide), if_neg (by decide), if_pos rfl, if_neg h0], rfl, rfl, rfl, rfl, fun c hc => up2_off hc, fun t ht => up2_ne (by omega), by rw [up2_same, if_neg (by omega)]⟩)
  · by_cases h0 : a < b
    · exact (c_rk24Y hM ha hb h0).imp (by rintro _ _ _ _ _ _ ⟨rfl, rfl, rfl, rfl, rfl, rfl⟩; exact ⟨by rw [show rkZ 24 a b = b2i (decide (a < b)) from rfl, decide_eq_true h0]; rfl, rfl, rfl, rfl, rfl, fun _ _ => rfl, fun _ _ => rfl, by rw [h29, if_neg (by omega)]⟩)
    · exact (c_rk24N hM ha hb h0).imp (by rintro _ _ _ _ _ _ ⟨rfl, rfl, rfl, rfl, rfl, rfl⟩; exact ⟨by rw [show rkZ 24 a b = b2i (decide (a < b)) from rfl, decide_eq_false h0]; rfl, rfl, rfl, rfl, rfl, fun _ _ => rfl, fun _ _ => rfl, by rw [h29, if_neg (by omega)]⟩)
  · by_cases h0 : b < a
    · exact (c_rk25Y hM ha hb h0).imp (by rintro _ _ _ _ _ _ ⟨rfl, rfl, rfl, rfl, rfl, rfl⟩; exact ⟨by rw [show rkZ 25 a b = b2i (decide (b < a)) from rfl, decide_eq_true h0]; rfl, rfl, rfl, rfl, rfl, fun _ _ => rfl, fun _ _ => rfl, by rw [h29, if_neg (by omega)]⟩)
    · exact (c_rk25N hM ha hb h0).imp (by rintro _ _ _ _ _ _ ⟨rfl, rfl, rfl, rfl, rfl, rfl⟩; exact ⟨by rw [show rkZ 25 a b = b2i (decide (b < a)) from rfl, decide_eq_false h0]; rfl, rfl, rfl, rfl, rfl, fun _ _ => rfl, fun _ _ => rfl, by rw [h29, if_neg (by omega)]⟩)
  · by_cases h0 : a = b
    · exact (c_rk26Y hM ha hb h0).imp (by rintro _ _ _ _ _ _ ⟨rfl, rfl, rfl, rfl, rfl, rfl⟩; exact ⟨by rw [show rkZ 26 a b = b2i (decide (a = b)) from rfl, decide_eq_true h0]; rfl, rfl, rfl, rfl, rfl, fun _ _ => rfl, fun _ _ => rfl, by rw [h29, if_neg (by omega)]⟩)
    · exact (c_rk26N hM ha hb h0).imp (by rintro _ _ _ _ _ _ ⟨rfl, rfl, rfl, rfl, rfl, rfl⟩; exact ⟨by rw [show rkZ 26 a b = b2i (decide (a = b)) from rfl, decide_eq_false h0]; rfl, rfl, rfl, rfl, rfl, fun _ _ => rfl, fun _ _ => rfl, by rw [h29, if_neg (by omega)]⟩)

theorem in_I {z : Int} (h : -9223372036854775808 ≤ z ∧ z ≤ 9223372036854775807) : ((-1000000000 : Int64) ≤ lI z ∧ lI z ≤ (1000000000 : Int64)) ↔ (-1000000000 ≤ z ∧ z ≤ 1000000000) := by
  rw [Int64.le_iff_toInt_le, Int64.le_iff_toInt_le, lI_toInt h.1 h.2]
  exact Iff.rfl
theorem nI_m1 {s : Nat} : nI (s + 1) + (-1) = nI s := by
  rw [← iI_nat, ← iI_nat, show (-1 : Int32) = iI (-1) from rfl, iI_add]
  congr 1; omega
set_option maxHeartbeats 1000000 in
theorem k_num {g : gG} {d : Nat} {T : mT} {n : Nat} {I' : mI} {J' : mJ} {F : mF} {Q : mQ} {m b k q L : Nat} {va : Int32} {sp : Nat} (hM : MS T F m) (hkb : k < b) (hb : b ≤ 400) (hL : L + 900 ≤ 5550) (h26 : I' m 26 = nI L) (h29 : I' m 29 = 0) (hop : I' (m + 2) (L + 98 + 2 * k) = nI q) (hq : q = 0) (hs : sp < 400) (kk : V g mX12_reckonAll (d + 2) Q 0 0 10 [some (.ref m), some (.int va), some (.int (nI b)), some (.int (nI (sp + 1))), some (.int (nI (k + 1))), none, none] [] T n I' (up2 J' (m + 13) sp (lI (I' (m + 2) (L + 98 + 2 * k + 1)).toInt)) F) : V g mX12_reckonAll (d + 2) Q 0 0 10 [some (.ref m), some (.int va), some (.int (nI b)), some (.int (nI (sp))), some (.int (nI (k))), none, none] [] T n I' J' F := by
  have L19 : (19 : Int32) = nI 19 := rfl
  have L27 : (27 : Int32) = nI 27 := rfl
  have L28 : (28 : Int32) = nI 28 := rfl
  refine V.iload (pc := 10) dX12_reckonAll_10 rfl ?_
  refine V.iload_n (pc := 12) dX12_reckonAll_12 rfl ?_
  refine V.icmp_ge 245 (pc := 13) dX12_reckonAll_13 (by decide) (fun h13 => absurd h13 (nI_ge (by omega) (by omega))) (fun h13 => ?_)
  refine V.aload_n (pc := 16) dX12_reckonAll_16 rfl ?_
  refine V.getI (pc := 17) dX12_reckonAll_17 fX12_283_11 rfl hM.o ?_
  rw [h29]
  refine V.if_ne 245 (pc := 20) dX12_reckonAll_20 (by decide) (fun h20 => absurd rfl h20) (fun h20 => ?_)
  refine V.aload_n (pc := 23) dX12_reckonAll_23 rfl ?_
  refine V.getR (pc := 24) dX12_reckonAll_24 fX12_13_11 rfl hM.o hM.f3 ?_
  refine V.aload_n (pc := 27) dX12_reckonAll_27 rfl ?_
  refine V.getI (pc := 28) dX12_reckonAll_28 fX12_286_11 rfl hM.o ?_
  rw [h26]
  refine V.bipush (v := 98) (pc := 31) dX12_reckonAll_31 (by decide) ?_
  refine V.iadd (pc := 33) dX12_reckonAll_33 ?_
  refine V.iconst (v := 2) (pc := 34) dX12_reckonAll_34 (by decide) ?_
  refine V.iload (pc := 35) dX12_reckonAll_35 rfl ?_
  refine V.imul (pc := 37) dX12_reckonAll_37 ?_
  refine V.iadd (pc := 38) dX12_reckonAll_38 ?_
  refine V.iald' (k := L + 98 + 2 * k) (pc := 39) dX12_reckonAll_39 hM.t3 (by rw [show (98 : Int32) = nI 98 from rfl, show (2 : Int32) = nI 2 from rfl, nI_add, pk_mul, nI_add]) (by omega) (by decide) ?_
  rw [hop]
  refine V.is (pc := 40) dX12_reckonAll_40 (by decide) (st1_5 rfl) ?_
  refine V.aload_n (pc := 42) dX12_reckonAll_42 rfl ?_
  refine V.getR (pc := 43) dX12_reckonAll_43 fX12_13_11 rfl hM.o hM.f3 ?_
  refine V.aload_n (pc := 46) dX12_reckonAll_46 rfl ?_
  refine V.getI (pc := 47) dX12_reckonAll_47 fX12_286_11 rfl hM.o ?_
  rw [h26]
  refine V.bipush (v := 98) (pc := 50) dX12_reckonAll_50 (by decide) ?_
  refine V.iadd (pc := 52) dX12_reckonAll_52 ?_
  refine V.iconst (v := 2) (pc := 53) dX12_reckonAll_53 (by decide) ?_
  refine V.iload (pc := 54) dX12_reckonAll_54 rfl ?_
  refine V.imul (pc := 56) dX12_reckonAll_56 ?_
  refine V.iadd (pc := 57) dX12_reckonAll_57 ?_
  refine V.iconst (v := 1) (pc := 58) dX12_reckonAll_58 (by decide) ?_
  refine V.iadd (pc := 59) dX12_reckonAll_59 ?_
  refine V.iald' (k := L + 98 + 2 * k + 1) (pc := 60) dX12_reckonAll_60 hM.t3 (by rw [show (98 : Int32) = nI 98 from rfl, show (2 : Int32) = nI 2 from rfl, nI_add, pk_mul, nI_add, nI_1]) (by omega) (by decide) ?_
  refine V.is (pc := 61) dX12_reckonAll_61 (by decide) (st1_6 rfl) ?_
  refine V.iinc1 (pc := 63) dX12_reckonAll_63 (by decide) rfl (st1_4 rfl) ?_
  rw [nI_1]
  refine V.iload (pc := 66) dX12_reckonAll_66 rfl ?_
  refine V.bipush (v := 19) (pc := 68) dX12_reckonAll_68 (by decide) ?_
  refine V.icmp_ge 103 (pc := 70) dX12_reckonAll_70 (by decide) (fun h70 => absurd h70 (by rw [L19]; exact nI_ge (by omega) (by omega))) (fun h70 => ?_)
  refine V.aload_n (pc := 73) dX12_reckonAll_73 rfl ?_
  refine V.getR (pc := 74) dX12_reckonAll_74 fX12_62_11 rfl hM.o hM.f28 ?_
  refine V.iload_n (pc := 77) dX12_reckonAll_77 rfl ?_
  refine V.iload (pc := 78) dX12_reckonAll_78 rfl ?_
  refine V.if_ne 89 (pc := 80) dX12_reckonAll_80 (by decide) (fun h80 => absurd (by rw [hq]; rfl) h80) (fun h80 => ?_)
  refine V.iload (pc := 83) dX12_reckonAll_83 rfl ?_
  refine V.i2l (pc := 85) dX12_reckonAll_85 ?_
  rw [i2l_I]
  refine V.goto 96 (pc := 86) dX12_reckonAll_86 (by decide) ?_
  refine V.last' (k := sp) (pc := 96) dX12_reckonAll_96 hM.t28 rfl (by omega) (by decide) ?_
  refine V.iinc1 (pc := 97) dX12_reckonAll_97 (by decide) rfl (st1_3 rfl) ?_
  rw [nI_1]
  refine V.goto 242 (pc := 100) dX12_reckonAll_100 (by decide) ?_
  refine V.goto 10 (pc := 242) dX12_reckonAll_242 (by decide) ?_
  refine V.weak wk_5 ?_
  refine V.weak wk_6 ?_
  exact kk
set_option maxHeartbeats 1000000 in
theorem k_env {g : gG} {d : Nat} {T : mT} {n : Nat} {I' : mI} {J' : mJ} {F : mF} {Q : mQ} {m b k q L : Nat} {va : Int32} {sp : Nat} {z : Int} (hM : MS T F m) (hkb : k < b) (hb : b ≤ 400) (hL : L + 900 ≤ 5550) (h26 : I' m 26 = nI L) (h29 : I' m 29 = 0) (hop : I' (m + 2) (L + 98 + 2 * k) = nI q) (hq : 1 ≤ q ∧ q ≤ 5) (hz : J' (m + 12) q = lI z) (hs : sp < 400) (kk : V g mX12_reckonAll (d + 2) Q 0 0 10 [some (.ref m), some (.int va), some (.int (nI b)), some (.int (nI (sp + 1))), some (.int (nI (k + 1))), none, none] [] T n I' (up2 J' (m + 13) sp (lI z)) F) : V g mX12_reckonAll (d + 2) Q 0 0 10 [some (.ref m), some (.int va), some (.int (nI b)), some (.int (nI (sp))), some (.int (nI (k))), none, none] [] T n I' J' F := by
  have L19 : (19 : Int32) = nI 19 := rfl
  have L27 : (27 : Int32) = nI 27 := rfl
  have L28 : (28 : Int32) = nI 28 := rfl
  refine V.iload (pc := 10) dX12_reckonAll_10 rfl ?_
  refine V.iload_n (pc := 12) dX12_reckonAll_12 rfl ?_
  refine V.icmp_ge 245 (pc := 13) dX12_reckonAll_13 (by decide) (fun h13 => absurd h13 (nI_ge (by omega) (by omega))) (fun h13 => ?_)
  refine V.aload_n (pc := 16) dX12_reckonAll_16 rfl ?_
  refine V.getI (pc := 17) dX12_reckonAll_17 fX12_283_11 rfl hM.o ?_
  rw [h29]
  refine V.if_ne 245 (pc := 20) dX12_reckonAll_20 (by decide) (fun h20 => absurd rfl h20) (fun h20 => ?_)
  refine V.aload_n (pc := 23) dX12_reckonAll_23 rfl ?_
  refine V.getR (pc := 24) dX12_reckonAll_24 fX12_13_11 rfl hM.o hM.f3 ?_
  refine V.aload_n (pc := 27) dX12_reckonAll_27 rfl ?_
  refine V.getI (pc := 28) dX12_reckonAll_28 fX12_286_11 rfl hM.o ?_
  rw [h26]
  refine V.bipush (v := 98) (pc := 31) dX12_reckonAll_31 (by decide) ?_
  refine V.iadd (pc := 33) dX12_reckonAll_33 ?_
  refine V.iconst (v := 2) (pc := 34) dX12_reckonAll_34 (by decide) ?_
  refine V.iload (pc := 35) dX12_reckonAll_35 rfl ?_
  refine V.imul (pc := 37) dX12_reckonAll_37 ?_
  refine V.iadd (pc := 38) dX12_reckonAll_38 ?_
  refine V.iald' (k := L + 98 + 2 * k) (pc := 39) dX12_reckonAll_39 hM.t3 (by rw [show (98 : Int32) = nI 98 from rfl, show (2 : Int32) = nI 2 from rfl, nI_add, pk_mul, nI_add]) (by omega) (by decide) ?_
  rw [hop]
  refine V.is (pc := 40) dX12_reckonAll_40 (by decide) (st1_5 rfl) ?_
  refine V.aload_n (pc := 42) dX12_reckonAll_42 rfl ?_
  refine V.getR (pc := 43) dX12_reckonAll_43 fX12_13_11 rfl hM.o hM.f3 ?_
  refine V.aload_n (pc := 46) dX12_reckonAll_46 rfl ?_
  refine V.getI (pc := 47) dX12_reckonAll_47 fX12_286_11 rfl hM.o ?_
  rw [h26]
  refine V.bipush (v := 98) (pc := 50) dX12_reckonAll_50 (by decide) ?_
  refine V.iadd (pc := 52) dX12_reckonAll_52 ?_
  refine V.iconst (v := 2) (pc := 53) dX12_reckonAll_53 (by decide) ?_
  refine V.iload (pc := 54) dX12_reckonAll_54 rfl ?_
  refine V.imul (pc := 56) dX12_reckonAll_56 ?_
  refine V.iadd (pc := 57) dX12_reckonAll_57 ?_
  refine V.iconst (v := 1) (pc := 58) dX12_reckonAll_58 (by decide) ?_
  refine V.iadd (pc := 59) dX12_reckonAll_59 ?_
  refine V.iald' (k := L + 98 + 2 * k + 1) (pc := 60) dX12_reckonAll_60 hM.t3 (by rw [show (98 : Int32) = nI 98 from rfl, show (2 : Int32) = nI 2 from rfl, nI_add, pk_mul, nI_add, nI_1]) (by omega) (by decide) ?_
  refine V.is (pc := 61) dX12_reckonAll_61 (by decide) (st1_6 rfl) ?_
  refine V.iinc1 (pc := 63) dX12_reckonAll_63 (by decide) rfl (st1_4 rfl) ?_
  rw [nI_1]
  refine V.iload (pc := 66) dX12_reckonAll_66 rfl ?_
  refine V.bipush (v := 19) (pc := 68) dX12_reckonAll_68 (by decide) ?_
  refine V.icmp_ge 103 (pc := 70) dX12_reckonAll_70 (by decide) (fun h70 => absurd h70 (by rw [L19]; exact nI_ge (by omega) (by omega))) (fun h70 => ?_)
  refine V.aload_n (pc := 73) dX12_reckonAll_73 rfl ?_
  refine V.getR (pc := 74) dX12_reckonAll_74 fX12_62_11 rfl hM.o hM.f28 ?_
  refine V.iload_n (pc := 77) dX12_reckonAll_77 rfl ?_
  refine V.iload (pc := 78) dX12_reckonAll_78 rfl ?_
  refine V.if_ne 89 (pc := 80) dX12_reckonAll_80 (by decide) (fun h80 => ?_) (fun h80 => absurd h80 (by rw [show (0 : Int32) = nI 0 from rfl, nI_eq (by omega) (by omega)]; omega))
  refine V.aload_n (pc := 89) dX12_reckonAll_89 rfl ?_
  refine V.getR (pc := 90) dX12_reckonAll_90 fX12_59_11 rfl hM.o hM.f27 ?_
  refine V.iload (pc := 93) dX12_reckonAll_93 rfl ?_
  refine V.lald' (k := q) (pc := 95) dX12_reckonAll_95 hM.t27 rfl (by omega) (by decide) ?_
  rw [hz]
  refine V.last' (k := sp) (pc := 96) dX12_reckonAll_96 hM.t28 rfl (by omega) (by decide) ?_
  refine V.iinc1 (pc := 97) dX12_reckonAll_97 (by decide) rfl (st1_3 rfl) ?_
  rw [nI_1]
  refine V.goto 242 (pc := 100) dX12_reckonAll_100 (by decide) ?_
  refine V.goto 10 (pc := 242) dX12_reckonAll_242 (by decide) ?_
  refine V.weak wk_5 ?_
  refine V.weak wk_6 ?_
  exact kk
set_option maxHeartbeats 1000000 in
theorem k_opZ {g : gG} {d : Nat} {T : mT} {n : Nat} {I' : mI} {J' : mJ} {F : mF} {Q : mQ} {m b k q L : Nat} {va : Int32} {s : Nat} {x y : Int} (hM : MS T F m) (hkb : k < b) (hb : b ≤ 400) (hL : L + 900 ≤ 5550) (h26 : I' m 26 = nI L) (h29 : I' m 29 = 0) (hop : I' (m + 2) (L + 98 + 2 * k) = nI q) (hq : 19 ≤ q ∧ q ≤ 26) (hs : s + 2 ≤ 400) (bx : Bd x) (by_ : Bd y) (hA : J' (m + 13) s = lI x) (hB : J' (m + 13) (s + 1) = lI y) (h0 : (q = 22 ∨ q = 23) ∧ y = 0) (kk : ∀ I2 : mI, (∀ c, c ≠ m → I2 c = I' c) → (∀ t, t ≠ 29 → I2 m t = I' m t) → I2 m 29 = 1 → V g mX12_reckonAll (d + 2) Q 0 0 10 [some (.ref m), some (.int va), some (.int (nI b)), some (.int (nI (s + 1))), some (.int (nI (k + 1))), none, none] [] T n I2 (up2 J' (m + 13) s (lI (rkZ q x y))) F) : V g mX12_reckonAll (d + 2) Q 0 0 10 [some (.ref m), some (.int va), some (.int (nI b)), some (.int (nI (s + 2))), some (.int (nI (k))), none, none] [] T n I' J' F := by
  have L19 : (19 : Int32) = nI 19 := rfl
  have L27 : (27 : Int32) = nI 27 := rfl
  have L28 : (28 : Int32) = nI 28 := rfl
  refine V.iload (pc := 10) dX12_reckonAll_10 rfl ?_
  refine V.iload_n (pc := 12) dX12_reckonAll_12 rfl ?_
  refine V.icmp_ge 245 (pc := 13) dX12_reckonAll_13 (by decide) (fun h13 => absurd h13 (nI_ge (by omega) (by omega))) (fun h13 => ?_)
  refine V.aload_n (pc := 16) dX12_reckonAll_16 rfl ?_
  refine V.getI (pc := 17) dX12_reckonAll_17 fX12_283_11 rfl hM.o ?_
  rw [h29]
  refine V.if_ne 245 (pc := 20) dX12_reckonAll_20 (by decide) (fun h20 => absurd rfl h20) (fun h20 => ?_)
  refine V.aload_n (pc := 23) dX12_reckonAll_23 rfl ?_
  refine V.getR (pc := 24) dX12_reckonAll_24 fX12_13_11 rfl hM.o hM.f3 ?_
  refine V.aload_n (pc := 27) dX12_reckonAll_27 rfl ?_
  refine V.getI (pc := 28) dX12_reckonAll_28 fX12_286_11 rfl hM.o ?_
  rw [h26]
  refine V.bipush (v := 98) (pc := 31) dX12_reckonAll_31 (by decide) ?_
  refine V.iadd (pc := 33) dX12_reckonAll_33 ?_
  refine V.iconst (v := 2) (pc := 34) dX12_reckonAll_34 (by decide) ?_
  refine V.iload (pc := 35) dX12_reckonAll_35 rfl ?_
  refine V.imul (pc := 37) dX12_reckonAll_37 ?_
  refine V.iadd (pc := 38) dX12_reckonAll_38 ?_
  refine V.iald' (k := L + 98 + 2 * k) (pc := 39) dX12_reckonAll_39 hM.t3 (by rw [show (98 : Int32) = nI 98 from rfl, show (2 : Int32) = nI 2 from rfl, nI_add, pk_mul, nI_add]) (by omega) (by decide) ?_
  rw [hop]
  refine V.is (pc := 40) dX12_reckonAll_40 (by decide) (st1_5 rfl) ?_
  refine V.aload_n (pc := 42) dX12_reckonAll_42 rfl ?_
  refine V.getR (pc := 43) dX12_reckonAll_43 fX12_13_11 rfl hM.o hM.f3 ?_
  refine V.aload_n (pc := 46) dX12_reckonAll_46 rfl ?_
  refine V.getI (pc := 47) dX12_reckonAll_47 fX12_286_11 rfl hM.o ?_
  rw [h26]
  refine V.bipush (v := 98) (pc := 50) dX12_reckonAll_50 (by decide) ?_
  refine V.iadd (pc := 52) dX12_reckonAll_52 ?_
  refine V.iconst (v := 2) (pc := 53) dX12_reckonAll_53 (by decide) ?_
  refine V.iload (pc := 54) dX12_reckonAll_54 rfl ?_
  refine V.imul (pc := 56) dX12_reckonAll_56 ?_
  refine V.iadd (pc := 57) dX12_reckonAll_57 ?_
  refine V.iconst (v := 1) (pc := 58) dX12_reckonAll_58 (by decide) ?_
  refine V.iadd (pc := 59) dX12_reckonAll_59 ?_
  refine V.iald' (k := L + 98 + 2 * k + 1) (pc := 60) dX12_reckonAll_60 hM.t3 (by rw [show (98 : Int32) = nI 98 from rfl, show (2 : Int32) = nI 2 from rfl, nI_add, pk_mul, nI_add, nI_1]) (by omega) (by decide) ?_
  refine V.is (pc := 61) dX12_reckonAll_61 (by decide) (st1_6 rfl) ?_
  refine V.iinc1 (pc := 63) dX12_reckonAll_63 (by decide) rfl (st1_4 rfl) ?_
  rw [nI_1]
  refine V.iload (pc := 66) dX12_reckonAll_66 rfl ?_
  refine V.bipush (v := 19) (pc := 68) dX12_reckonAll_68 (by decide) ?_
  refine V.icmp_ge 103 (pc := 70) dX12_reckonAll_70 (by decide) (fun h70 => ?_) (fun h70 => absurd (by rw [L19]; exact nI_le (by omega) (by omega)) h70)
  refine V.iload (pc := 103) dX12_reckonAll_103 rfl ?_
  refine V.bipush (v := 27) (pc := 105) dX12_reckonAll_105 (by decide) ?_
  refine V.icmp_ge 180 (pc := 107) dX12_reckonAll_107 (by decide) (fun h107 => absurd h107 (by rw [L27]; exact nI_ge (by omega) (by omega))) (fun h107 => ?_)
  refine V.iinc (v := _ + (-1)) (pc := 110) dX12_reckonAll_110 (by decide) rfl rfl (st1_3 rfl) ?_
  rw [nI_m1]
  refine V.aload_n (pc := 113) dX12_reckonAll_113 rfl ?_
  refine V.getR (pc := 114) dX12_reckonAll_114 fX12_62_11 rfl hM.o hM.f28 ?_
  refine V.iload_n (pc := 117) dX12_reckonAll_117 rfl ?_
  refine V.iconst (v := 1) (pc := 118) dX12_reckonAll_118 (by decide) ?_
  refine V.isub (pc := 119) dX12_reckonAll_119 ?_
  rw [nI_pred]
  refine V.aload_n (pc := 120) dX12_reckonAll_120 rfl ?_
  refine V.iload (pc := 121) dX12_reckonAll_121 rfl ?_
  refine V.aload_n (pc := 123) dX12_reckonAll_123 rfl ?_
  refine V.getR (pc := 124) dX12_reckonAll_124 fX12_62_11 rfl hM.o hM.f28 ?_
  refine V.iload_n (pc := 127) dX12_reckonAll_127 rfl ?_
  refine V.iconst (v := 1) (pc := 128) dX12_reckonAll_128 (by decide) ?_
  refine V.isub (pc := 129) dX12_reckonAll_129 ?_
  rw [nI_pred]
  refine V.lald' (k := s) (pc := 130) dX12_reckonAll_130 hM.t28 rfl (by omega) (by decide) ?_
  rw [hA]
  refine V.aload_n (pc := 131) dX12_reckonAll_131 rfl ?_
  refine V.getR (pc := 132) dX12_reckonAll_132 fX12_62_11 rfl hM.o hM.f28 ?_
  refine V.iload_n (pc := 135) dX12_reckonAll_135 rfl ?_
  refine V.lald' (k := s + 1) (pc := 136) dX12_reckonAll_136 hM.t28 rfl (by omega) (by decide) ?_
  rw [hB]
  refine V.invV0 (as := [_, _, _]) (pc := 137) dX12_reckonAll_137 lX12_289 bX12_reckon nX12_reckon (ci := 11) rfl eX12_reckon hM.o (c_reckon (d := d + 1) (op := q) (a := x) (b := y) _ hq.1 hq.2 hM h29 rfl bx by_) (by omega) rfl (Nat.le_of_ble_eq_true rfl) ?_
  rintro _ _ _ I2 _ _ ⟨rfl, rfl, rfl, rfl, rfl, r1, r2, r3⟩
  refine V.last' (k := s) (pc := 140) dX12_reckonAll_140 hM.t28 rfl (by omega) (by decide) ?_
  refine V.aload_n (pc := 141) dX12_reckonAll_141 rfl ?_
  refine V.aload_n (pc := 142) dX12_reckonAll_142 rfl ?_
  refine V.getI (pc := 143) dX12_reckonAll_143 fX12_283_11 rfl hM.o ?_
  rw [r3, if_pos h0]
  refine V.if_ne 169 (pc := 146) dX12_reckonAll_146 (by decide) (fun h146 => ?_) (fun h146 => absurd h146 (by decide))
  refine V.iconst (v := 1) (pc := 169) dX12_reckonAll_169 (by decide) ?_
  refine V.goto 174 (pc := 170) dX12_reckonAll_170 (by decide) ?_
  refine V.putZ (pc := 174) dX12_reckonAll_174 fX12_283_11 (fun r h => by cases h; exact Or.inl rfl) rfl (by first | exact Or.inl rfl | exact Or.inr rfl | assumption) hM.o ?_
  refine V.goto 242 (pc := 177) dX12_reckonAll_177 (by decide) ?_
  refine V.goto 10 (pc := 242) dX12_reckonAll_242 (by decide) ?_
  refine V.weak wk_5 ?_
  refine V.weak wk_6 ?_
  exact kk _ (fun c hc => by rw [up2_off hc]; exact r1 c hc) (fun t ht => by rw [up2_ne (by omega)]; exact r2 t ht) up2_same
set_option maxHeartbeats 1000000 in
theorem k_opY {g : gG} {d : Nat} {T : mT} {n : Nat} {I' : mI} {J' : mJ} {F : mF} {Q : mQ} {m b k q L : Nat} {va : Int32} {s : Nat} {x y : Int} (hM : MS T F m) (hkb : k < b) (hb : b ≤ 400) (hL : L + 900 ≤ 5550) (h26 : I' m 26 = nI L) (h29 : I' m 29 = 0) (hop : I' (m + 2) (L + 98 + 2 * k) = nI q) (hq : 19 ≤ q ∧ q ≤ 26) (hs : s + 2 ≤ 400) (bx : Bd x) (by_ : Bd y) (hA : J' (m + 13) s = lI x) (hB : J' (m + 13) (s + 1) = lI y) (h0 : ¬ ((q = 22 ∨ q = 23) ∧ y = 0)) (h1 : -1000000000 ≤ rkZ q x y ∧ rkZ q x y ≤ 1000000000) (kk : ∀ I2 : mI, (∀ c, c ≠ m → I2 c = I' c) → (∀ t, t ≠ 29 → I2 m t = I' m t) → I2 m 29 = 0 → V g mX12_reckonAll (d + 2) Q 0 0 10 [some (.ref m), some (.int va), some (.int (nI b)), some (.int (nI (s + 1))), some (.int (nI (k + 1))), none, none] [] T n I2 (up2 J' (m + 13) s (lI (rkZ q x y))) F) : V g mX12_reckonAll (d + 2) Q 0 0 10 [some (.ref m), some (.int va), some (.int (nI b)), some (.int (nI (s + 2))), some (.int (nI (k))), none, none] [] T n I' J' F := by
  have L19 : (19 : Int32) = nI 19 := rfl
  have L27 : (27 : Int32) = nI 27 := rfl
  have L28 : (28 : Int32) = nI 28 := rfl
  refine V.iload (pc := 10) dX12_reckonAll_10 rfl ?_
  refine V.iload_n (pc := 12) dX12_reckonAll_12 rfl ?_
  refine V.icmp_ge 245 (pc := 13) dX12_reckonAll_13 (by decide) (fun h13 => absurd h13 (nI_ge (by omega) (by omega))) (fun h13 => ?_)
  refine V.aload_n (pc := 16) dX12_reckonAll_16 rfl ?_
  refine V.getI (pc := 17) dX12_reckonAll_17 fX12_283_11 rfl hM.o ?_
  rw [h29]
  refine V.if_ne 245 (pc := 20) dX12_reckonAll_20 (by decide) (fun h20 => absurd rfl h20) (fun h20 => ?_)
  refine V.aload_n (pc := 23) dX12_reckonAll_23 rfl ?_
  refine V.getR (pc := 24) dX12_reckonAll_24 fX12_13_11 rfl hM.o hM.f3 ?_
  refine V.aload_n (pc := 27) dX12_reckonAll_27 rfl ?_
  refine V.getI (pc := 28) dX12_reckonAll_28 fX12_286_11 rfl hM.o ?_
  rw [h26]
  refine V.bipush (v := 98) (pc := 31) dX12_reckonAll_31 (by decide) ?_
  refine V.iadd (pc := 33) dX12_reckonAll_33 ?_
  refine V.iconst (v := 2) (pc := 34) dX12_reckonAll_34 (by decide) ?_
  refine V.iload (pc := 35) dX12_reckonAll_35 rfl ?_
  refine V.imul (pc := 37) dX12_reckonAll_37 ?_
  refine V.iadd (pc := 38) dX12_reckonAll_38 ?_
  refine V.iald' (k := L + 98 + 2 * k) (pc := 39) dX12_reckonAll_39 hM.t3 (by rw [show (98 : Int32) = nI 98 from rfl, show (2 : Int32) = nI 2 from rfl, nI_add, pk_mul, nI_add]) (by omega) (by decide) ?_
  rw [hop]
  refine V.is (pc := 40) dX12_reckonAll_40 (by decide) (st1_5 rfl) ?_
  refine V.aload_n (pc := 42) dX12_reckonAll_42 rfl ?_
  refine V.getR (pc := 43) dX12_reckonAll_43 fX12_13_11 rfl hM.o hM.f3 ?_
  refine V.aload_n (pc := 46) dX12_reckonAll_46 rfl ?_
  refine V.getI (pc := 47) dX12_reckonAll_47 fX12_286_11 rfl hM.o ?_
  rw [h26]
  refine V.bipush (v := 98) (pc := 50) dX12_reckonAll_50 (by decide) ?_
  refine V.iadd (pc := 52) dX12_reckonAll_52 ?_
  refine V.iconst (v := 2) (pc := 53) dX12_reckonAll_53 (by decide) ?_
  refine V.iload (pc := 54) dX12_reckonAll_54 rfl ?_
  refine V.imul (pc := 56) dX12_reckonAll_56 ?_
  refine V.iadd (pc := 57) dX12_reckonAll_57 ?_
  refine V.iconst (v := 1) (pc := 58) dX12_reckonAll_58 (by decide) ?_
  refine V.iadd (pc := 59) dX12_reckonAll_59 ?_
  refine V.iald' (k := L + 98 + 2 * k + 1) (pc := 60) dX12_reckonAll_60 hM.t3 (by rw [show (98 : Int32) = nI 98 from rfl, show (2 : Int32) = nI 2 from rfl, nI_add, pk_mul, nI_add, nI_1]) (by omega) (by decide) ?_
  refine V.is (pc := 61) dX12_reckonAll_61 (by decide) (st1_6 rfl) ?_
  refine V.iinc1 (pc := 63) dX12_reckonAll_63 (by decide) rfl (st1_4 rfl) ?_
  rw [nI_1]
  refine V.iload (pc := 66) dX12_reckonAll_66 rfl ?_
  refine V.bipush (v := 19) (pc := 68) dX12_reckonAll_68 (by decide) ?_
  refine V.icmp_ge 103 (pc := 70) dX12_reckonAll_70 (by decide) (fun h70 => ?_) (fun h70 => absurd (by rw [L19]; exact nI_le (by omega) (by omega)) h70)
  refine V.iload (pc := 103) dX12_reckonAll_103 rfl ?_
  refine V.bipush (v := 27) (pc := 105) dX12_reckonAll_105 (by decide) ?_
  refine V.icmp_ge 180 (pc := 107) dX12_reckonAll_107 (by decide) (fun h107 => absurd h107 (by rw [L27]; exact nI_ge (by omega) (by omega))) (fun h107 => ?_)
  refine V.iinc (v := _ + (-1)) (pc := 110) dX12_reckonAll_110 (by decide) rfl rfl (st1_3 rfl) ?_
  rw [nI_m1]
  refine V.aload_n (pc := 113) dX12_reckonAll_113 rfl ?_
  refine V.getR (pc := 114) dX12_reckonAll_114 fX12_62_11 rfl hM.o hM.f28 ?_
  refine V.iload_n (pc := 117) dX12_reckonAll_117 rfl ?_
  refine V.iconst (v := 1) (pc := 118) dX12_reckonAll_118 (by decide) ?_
  refine V.isub (pc := 119) dX12_reckonAll_119 ?_
  rw [nI_pred]
  refine V.aload_n (pc := 120) dX12_reckonAll_120 rfl ?_
  refine V.iload (pc := 121) dX12_reckonAll_121 rfl ?_
  refine V.aload_n (pc := 123) dX12_reckonAll_123 rfl ?_
  refine V.getR (pc := 124) dX12_reckonAll_124 fX12_62_11 rfl hM.o hM.f28 ?_
  refine V.iload_n (pc := 127) dX12_reckonAll_127 rfl ?_
  refine V.iconst (v := 1) (pc := 128) dX12_reckonAll_128 (by decide) ?_
  refine V.isub (pc := 129) dX12_reckonAll_129 ?_
  rw [nI_pred]
  refine V.lald' (k := s) (pc := 130) dX12_reckonAll_130 hM.t28 rfl (by omega) (by decide) ?_
  rw [hA]
  refine V.aload_n (pc := 131) dX12_reckonAll_131 rfl ?_
  refine V.getR (pc := 132) dX12_reckonAll_132 fX12_62_11 rfl hM.o hM.f28 ?_
  refine V.iload_n (pc := 135) dX12_reckonAll_135 rfl ?_
  refine V.lald' (k := s + 1) (pc := 136) dX12_reckonAll_136 hM.t28 rfl (by omega) (by decide) ?_
  rw [hB]
  refine V.invV0 (as := [_, _, _]) (pc := 137) dX12_reckonAll_137 lX12_289 bX12_reckon nX12_reckon (ci := 11) rfl eX12_reckon hM.o (c_reckon (d := d + 1) (op := q) (a := x) (b := y) _ hq.1 hq.2 hM h29 rfl bx by_) (by omega) rfl (Nat.le_of_ble_eq_true rfl) ?_
  rintro _ _ _ I2 _ _ ⟨rfl, rfl, rfl, rfl, rfl, r1, r2, r3⟩
  refine V.last' (k := s) (pc := 140) dX12_reckonAll_140 hM.t28 rfl (by omega) (by decide) ?_
  refine V.aload_n (pc := 141) dX12_reckonAll_141 rfl ?_
  refine V.aload_n (pc := 142) dX12_reckonAll_142 rfl ?_
  refine V.getI (pc := 143) dX12_reckonAll_143 fX12_283_11 rfl hM.o ?_
  rw [r3, if_neg h0]
  refine V.if_ne 169 (pc := 146) dX12_reckonAll_146 (by decide) (fun h146 => absurd rfl h146) (fun h146 => ?_)
  refine V.aload_n (pc := 149) dX12_reckonAll_149 rfl ?_
  refine V.getR (pc := 150) dX12_reckonAll_150 fX12_62_11 rfl hM.o hM.f28 ?_
  refine V.iload_n (pc := 153) dX12_reckonAll_153 rfl ?_
  refine V.iconst (v := 1) (pc := 154) dX12_reckonAll_154 (by decide) ?_
  refine V.isub (pc := 155) dX12_reckonAll_155 ?_
  rw [nI_pred]
  refine V.lald' (k := s) (pc := 156) dX12_reckonAll_156 hM.t28 rfl (by omega) (by decide) ?_
  rw [up2_same]
  refine V.ldc2 (pc := 157) dX12_reckonAll_157 qX12_293 ?_
  refine V.ldc2 (pc := 160) dX12_reckonAll_160 qX12_295 ?_
  refine V.pS (as := [_, _, _]) (pc := 163) dX12_reckonAll_163 lX12_98 bX12_in sX12_in (c_in (d := d + 1) _ _ _) (by omega) rfl (Nat.le_of_ble_eq_true rfl) ?_
  rw [bi_c (in_I (rkZ_bd bx by_))]
  rw [bi_t h1]
  refine V.if_ne 173 (pc := 166) dX12_reckonAll_166 (by decide) (fun h166 => ?_) (fun h166 => absurd h166 (by decide))
  refine V.iconst (v := 0) (pc := 173) dX12_reckonAll_173 (by decide) ?_
  refine V.putZ (pc := 174) dX12_reckonAll_174 fX12_283_11 (fun r h => by cases h; exact Or.inl rfl) rfl (by first | exact Or.inl rfl | exact Or.inr rfl | assumption) hM.o ?_
  refine V.goto 242 (pc := 177) dX12_reckonAll_177 (by decide) ?_
  refine V.goto 10 (pc := 242) dX12_reckonAll_242 (by decide) ?_
  refine V.weak wk_5 ?_
  refine V.weak wk_6 ?_
  exact kk _ (fun c hc => by rw [up2_off hc]; exact r1 c hc) (fun t ht => by rw [up2_ne (by omega)]; exact r2 t ht) up2_same
set_option maxHeartbeats 1000000 in
theorem k_opN {g : gG} {d : Nat} {T : mT} {n : Nat} {I' : mI} {J' : mJ} {F : mF} {Q : mQ} {m b k q L : Nat} {va : Int32} {s : Nat} {x y : Int} (hM : MS T F m) (hkb : k < b) (hb : b ≤ 400) (hL : L + 900 ≤ 5550) (h26 : I' m 26 = nI L) (h29 : I' m 29 = 0) (hop : I' (m + 2) (L + 98 + 2 * k) = nI q) (hq : 19 ≤ q ∧ q ≤ 26) (hs : s + 2 ≤ 400) (bx : Bd x) (by_ : Bd y) (hA : J' (m + 13) s = lI x) (hB : J' (m + 13) (s + 1) = lI y) (h0 : ¬ ((q = 22 ∨ q = 23) ∧ y = 0)) (h1 : ¬ (-1000000000 ≤ rkZ q x y ∧ rkZ q x y ≤ 1000000000)) (kk : ∀ I2 : mI, (∀ c, c ≠ m → I2 c = I' c) → (∀ t, t ≠ 29 → I2 m t = I' m t) → I2 m 29 = 1 → V g mX12_reckonAll (d + 2) Q 0 0 10 [some (.ref m), some (.int va), some (.int (nI b)), some (.int (nI (s + 1))), some (.int (nI (k + 1))), none, none] [] T n I2 (up2 J' (m + 13) s (lI (rkZ q x y))) F) : V g mX12_reckonAll (d + 2) Q 0 0 10 [some (.ref m), some (.int va), some (.int (nI b)), some (.int (nI (s + 2))), some (.int (nI (k))), none, none] [] T n I' J' F := by
  have L19 : (19 : Int32) = nI 19 := rfl
  have L27 : (27 : Int32) = nI 27 := rfl
  have L28 : (28 : Int32) = nI 28 := rfl
  refine V.iload (pc := 10) dX12_reckonAll_10 rfl ?_
  refine V.iload_n (pc := 12) dX12_reckonAll_12 rfl ?_
  refine V.icmp_ge 245 (pc := 13) dX12_reckonAll_13 (by decide) (fun h13 => absurd h13 (nI_ge (by omega) (by omega))) (fun h13 => ?_)
  refine V.aload_n (pc := 16) dX12_reckonAll_16 rfl ?_
  refine V.getI (pc := 17) dX12_reckonAll_17 fX12_283_11 rfl hM.o ?_
  rw [h29]
  refine V.if_ne 245 (pc := 20) dX12_reckonAll_20 (by decide) (fun h20 => absurd rfl h20) (fun h20 => ?_)
  refine V.aload_n (pc := 23) dX12_reckonAll_23 rfl ?_
  refine V.getR (pc := 24) dX12_reckonAll_24 fX12_13_11 rfl hM.o hM.f3 ?_
  refine V.aload_n (pc := 27) dX12_reckonAll_27 rfl ?_
  refine V.getI (pc := 28) dX12_reckonAll_28 fX12_286_11 rfl hM.o ?_
  rw [h26]
  refine V.bipush (v := 98) (pc := 31) dX12_reckonAll_31 (by decide) ?_
  refine V.iadd (pc := 33) dX12_reckonAll_33 ?_
  refine V.iconst (v := 2) (pc := 34) dX12_reckonAll_34 (by decide) ?_
  refine V.iload (pc := 35) dX12_reckonAll_35 rfl ?_
  refine V.imul (pc := 37) dX12_reckonAll_37 ?_
  refine V.iadd (pc := 38) dX12_reckonAll_38 ?_
  refine V.iald' (k := L + 98 + 2 * k) (pc := 39) dX12_reckonAll_39 hM.t3 (by rw [show (98 : Int32) = nI 98 from rfl, show (2 : Int32) = nI 2 from rfl, nI_add, pk_mul, nI_add]) (by omega) (by decide) ?_
  rw [hop]
  refine V.is (pc := 40) dX12_reckonAll_40 (by decide) (st1_5 rfl) ?_
  refine V.aload_n (pc := 42) dX12_reckonAll_42 rfl ?_
  refine V.getR (pc := 43) dX12_reckonAll_43 fX12_13_11 rfl hM.o hM.f3 ?_
  refine V.aload_n (pc := 46) dX12_reckonAll_46 rfl ?_
  refine V.getI (pc := 47) dX12_reckonAll_47 fX12_286_11 rfl hM.o ?_
  rw [h26]
  refine V.bipush (v := 98) (pc := 50) dX12_reckonAll_50 (by decide) ?_
  refine V.iadd (pc := 52) dX12_reckonAll_52 ?_
  refine V.iconst (v := 2) (pc := 53) dX12_reckonAll_53 (by decide) ?_
  refine V.iload (pc := 54) dX12_reckonAll_54 rfl ?_
  refine V.imul (pc := 56) dX12_reckonAll_56 ?_
  refine V.iadd (pc := 57) dX12_reckonAll_57 ?_
  refine V.iconst (v := 1) (pc := 58) dX12_reckonAll_58 (by decide) ?_
  refine V.iadd (pc := 59) dX12_reckonAll_59 ?_
  refine V.iald' (k := L + 98 + 2 * k + 1) (pc := 60) dX12_reckonAll_60 hM.t3 (by rw [show (98 : Int32) = nI 98 from rfl, show (2 : Int32) = nI 2 from rfl, nI_add, pk_mul, nI_add, nI_1]) (by omega) (by decide) ?_
  refine V.is (pc := 61) dX12_reckonAll_61 (by decide) (st1_6 rfl) ?_
  refine V.iinc1 (pc := 63) dX12_reckonAll_63 (by decide) rfl (st1_4 rfl) ?_
  rw [nI_1]
  refine V.iload (pc := 66) dX12_reckonAll_66 rfl ?_
  refine V.bipush (v := 19) (pc := 68) dX12_reckonAll_68 (by decide) ?_
  refine V.icmp_ge 103 (pc := 70) dX12_reckonAll_70 (by decide) (fun h70 => ?_) (fun h70 => absurd (by rw [L19]; exact nI_le (by omega) (by omega)) h70)
  refine V.iload (pc := 103) dX12_reckonAll_103 rfl ?_
  refine V.bipush (v := 27) (pc := 105) dX12_reckonAll_105 (by decide) ?_
  refine V.icmp_ge 180 (pc := 107) dX12_reckonAll_107 (by decide) (fun h107 => absurd h107 (by rw [L27]; exact nI_ge (by omega) (by omega))) (fun h107 => ?_)
  refine V.iinc (v := _ + (-1)) (pc := 110) dX12_reckonAll_110 (by decide) rfl rfl (st1_3 rfl) ?_
  rw [nI_m1]
  refine V.aload_n (pc := 113) dX12_reckonAll_113 rfl ?_
  refine V.getR (pc := 114) dX12_reckonAll_114 fX12_62_11 rfl hM.o hM.f28 ?_
  refine V.iload_n (pc := 117) dX12_reckonAll_117 rfl ?_
  refine V.iconst (v := 1) (pc := 118) dX12_reckonAll_118 (by decide) ?_
  refine V.isub (pc := 119) dX12_reckonAll_119 ?_
  rw [nI_pred]
  refine V.aload_n (pc := 120) dX12_reckonAll_120 rfl ?_
  refine V.iload (pc := 121) dX12_reckonAll_121 rfl ?_
  refine V.aload_n (pc := 123) dX12_reckonAll_123 rfl ?_
  refine V.getR (pc := 124) dX12_reckonAll_124 fX12_62_11 rfl hM.o hM.f28 ?_
  refine V.iload_n (pc := 127) dX12_reckonAll_127 rfl ?_
  refine V.iconst (v := 1) (pc := 128) dX12_reckonAll_128 (by decide) ?_
  refine V.isub (pc := 129) dX12_reckonAll_129 ?_
  rw [nI_pred]
  refine V.lald' (k := s) (pc := 130) dX12_reckonAll_130 hM.t28 rfl (by omega) (by decide) ?_
  rw [hA]
  refine V.aload_n (pc := 131) dX12_reckonAll_131 rfl ?_
  refine V.getR (pc := 132) dX12_reckonAll_132 fX12_62_11 rfl hM.o hM.f28 ?_
  refine V.iload_n (pc := 135) dX12_reckonAll_135 rfl ?_
  refine V.lald' (k := s + 1) (pc := 136) dX12_reckonAll_136 hM.t28 rfl (by omega) (by decide) ?_
  rw [hB]
  refine V.invV0 (as := [_, _, _]) (pc := 137) dX12_reckonAll_137 lX12_289 bX12_reckon nX12_reckon (ci := 11) rfl eX12_reckon hM.o (c_reckon (d := d + 1) (op := q) (a := x) (b := y) _ hq.1 hq.2 hM h29 rfl bx by_) (by omega) rfl (Nat.le_of_ble_eq_true rfl) ?_
  rintro _ _ _ I2 _ _ ⟨rfl, rfl, rfl, rfl, rfl, r1, r2, r3⟩
  refine V.last' (k := s) (pc := 140) dX12_reckonAll_140 hM.t28 rfl (by omega) (by decide) ?_
  refine V.aload_n (pc := 141) dX12_reckonAll_141 rfl ?_
  refine V.aload_n (pc := 142) dX12_reckonAll_142 rfl ?_
  refine V.getI (pc := 143) dX12_reckonAll_143 fX12_283_11 rfl hM.o ?_
  rw [r3, if_neg h0]
  refine V.if_ne 169 (pc := 146) dX12_reckonAll_146 (by decide) (fun h146 => absurd rfl h146) (fun h146 => ?_)
  refine V.aload_n (pc := 149) dX12_reckonAll_149 rfl ?_
  refine V.getR (pc := 150) dX12_reckonAll_150 fX12_62_11 rfl hM.o hM.f28 ?_
  refine V.iload_n (pc := 153) dX12_reckonAll_153 rfl ?_
  refine V.iconst (v := 1) (pc := 154) dX12_reckonAll_154 (by decide) ?_
  refine V.isub (pc := 155) dX12_reckonAll_155 ?_
  rw [nI_pred]
  refine V.lald' (k := s) (pc := 156) dX12_reckonAll_156 hM.t28 rfl (by omega) (by decide) ?_
  rw [up2_same]
  refine V.ldc2 (pc := 157) dX12_reckonAll_157 qX12_293 ?_
  refine V.ldc2 (pc := 160) dX12_reckonAll_160 qX12_295 ?_
  refine V.pS (as := [_, _, _]) (pc := 163) dX12_reckonAll_163 lX12_98 bX12_in sX12_in (c_in (d := d + 1) _ _ _) (by omega) rfl (Nat.le_of_ble_eq_true rfl) ?_
  rw [bi_c (in_I (rkZ_bd bx by_))]
  rw [bi_f h1]
  refine V.if_ne 173 (pc := 166) dX12_reckonAll_166 (by decide) (fun h166 => absurd rfl h166) (fun h166 => ?_)
  refine V.iconst (v := 1) (pc := 169) dX12_reckonAll_169 (by decide) ?_
  refine V.goto 174 (pc := 170) dX12_reckonAll_170 (by decide) ?_
  refine V.putZ (pc := 174) dX12_reckonAll_174 fX12_283_11 (fun r h => by cases h; exact Or.inl rfl) rfl (by first | exact Or.inl rfl | exact Or.inr rfl | assumption) hM.o ?_
  refine V.goto 242 (pc := 177) dX12_reckonAll_177 (by decide) ?_
  refine V.goto 10 (pc := 242) dX12_reckonAll_242 (by decide) ?_
  refine V.weak wk_5 ?_
  refine V.weak wk_6 ?_
  exact kk _ (fun c hc => by rw [up2_off hc]; exact r1 c hc) (fun t ht => by rw [up2_ne (by omega)]; exact r2 t ht) up2_same
set_option maxHeartbeats 1000000 in
theorem k_not {g : gG} {d : Nat} {T : mT} {n : Nat} {I' : mI} {J' : mJ} {F : mF} {Q : mQ} {m b k q L : Nat} {va : Int32} {s : Nat} {x : Int} (hM : MS T F m) (hkb : k < b) (hb : b ≤ 400) (hL : L + 900 ≤ 5550) (h26 : I' m 26 = nI L) (h29 : I' m 29 = 0) (hop : I' (m + 2) (L + 98 + 2 * k) = nI q) (hq : q = 27) (hs : s + 1 ≤ 400) (hA : J' (m + 13) s = lI x) (kk : V g mX12_reckonAll (d + 2) Q 0 0 10 [some (.ref m), some (.int va), some (.int (nI b)), some (.int (nI (s + 1))), some (.int (nI (k + 1))), none, none] [] T n I' (up2 J' (m + 13) s (lI (1 - x))) F) : V g mX12_reckonAll (d + 2) Q 0 0 10 [some (.ref m), some (.int va), some (.int (nI b)), some (.int (nI (s + 1))), some (.int (nI (k))), none, none] [] T n I' J' F := by
  have L19 : (19 : Int32) = nI 19 := rfl
  have L27 : (27 : Int32) = nI 27 := rfl
  have L28 : (28 : Int32) = nI 28 := rfl
  refine V.iload (pc := 10) dX12_reckonAll_10 rfl ?_
  refine V.iload_n (pc := 12) dX12_reckonAll_12 rfl ?_
  refine V.icmp_ge 245 (pc := 13) dX12_reckonAll_13 (by decide) (fun h13 => absurd h13 (nI_ge (by omega) (by omega))) (fun h13 => ?_)
  refine V.aload_n (pc := 16) dX12_reckonAll_16 rfl ?_
  refine V.getI (pc := 17) dX12_reckonAll_17 fX12_283_11 rfl hM.o ?_
  rw [h29]
  refine V.if_ne 245 (pc := 20) dX12_reckonAll_20 (by decide) (fun h20 => absurd rfl h20) (fun h20 => ?_)
  refine V.aload_n (pc := 23) dX12_reckonAll_23 rfl ?_
  refine V.getR (pc := 24) dX12_reckonAll_24 fX12_13_11 rfl hM.o hM.f3 ?_
  refine V.aload_n (pc := 27) dX12_reckonAll_27 rfl ?_
  refine V.getI (pc := 28) dX12_reckonAll_28 fX12_286_11 rfl hM.o ?_
  rw [h26]
  refine V.bipush (v := 98) (pc := 31) dX12_reckonAll_31 (by decide) ?_
  refine V.iadd (pc := 33) dX12_reckonAll_33 ?_
  refine V.iconst (v := 2) (pc := 34) dX12_reckonAll_34 (by decide) ?_
  refine V.iload (pc := 35) dX12_reckonAll_35 rfl ?_
  refine V.imul (pc := 37) dX12_reckonAll_37 ?_
  refine V.iadd (pc := 38) dX12_reckonAll_38 ?_
  refine V.iald' (k := L + 98 + 2 * k) (pc := 39) dX12_reckonAll_39 hM.t3 (by rw [show (98 : Int32) = nI 98 from rfl, show (2 : Int32) = nI 2 from rfl, nI_add, pk_mul, nI_add]) (by omega) (by decide) ?_
  rw [hop]
  refine V.is (pc := 40) dX12_reckonAll_40 (by decide) (st1_5 rfl) ?_
  refine V.aload_n (pc := 42) dX12_reckonAll_42 rfl ?_
  refine V.getR (pc := 43) dX12_reckonAll_43 fX12_13_11 rfl hM.o hM.f3 ?_
  refine V.aload_n (pc := 46) dX12_reckonAll_46 rfl ?_
  refine V.getI (pc := 47) dX12_reckonAll_47 fX12_286_11 rfl hM.o ?_
  rw [h26]
  refine V.bipush (v := 98) (pc := 50) dX12_reckonAll_50 (by decide) ?_
  refine V.iadd (pc := 52) dX12_reckonAll_52 ?_
  refine V.iconst (v := 2) (pc := 53) dX12_reckonAll_53 (by decide) ?_
  refine V.iload (pc := 54) dX12_reckonAll_54 rfl ?_
  refine V.imul (pc := 56) dX12_reckonAll_56 ?_
  refine V.iadd (pc := 57) dX12_reckonAll_57 ?_
  refine V.iconst (v := 1) (pc := 58) dX12_reckonAll_58 (by decide) ?_
  refine V.iadd (pc := 59) dX12_reckonAll_59 ?_
  refine V.iald' (k := L + 98 + 2 * k + 1) (pc := 60) dX12_reckonAll_60 hM.t3 (by rw [show (98 : Int32) = nI 98 from rfl, show (2 : Int32) = nI 2 from rfl, nI_add, pk_mul, nI_add, nI_1]) (by omega) (by decide) ?_
  refine V.is (pc := 61) dX12_reckonAll_61 (by decide) (st1_6 rfl) ?_
  refine V.iinc1 (pc := 63) dX12_reckonAll_63 (by decide) rfl (st1_4 rfl) ?_
  rw [nI_1]
  refine V.iload (pc := 66) dX12_reckonAll_66 rfl ?_
  refine V.bipush (v := 19) (pc := 68) dX12_reckonAll_68 (by decide) ?_
  refine V.icmp_ge 103 (pc := 70) dX12_reckonAll_70 (by decide) (fun h70 => ?_) (fun h70 => absurd (by rw [L19]; exact nI_le (by omega) (by omega)) h70)
  refine V.iload (pc := 103) dX12_reckonAll_103 rfl ?_
  refine V.bipush (v := 27) (pc := 105) dX12_reckonAll_105 (by decide) ?_
  refine V.icmp_ge 180 (pc := 107) dX12_reckonAll_107 (by decide) (fun h107 => ?_) (fun h107 => absurd (by rw [L27]; exact nI_le (by omega) (by omega)) h107)
  refine V.iload (pc := 180) dX12_reckonAll_180 rfl ?_
  refine V.bipush (v := 27) (pc := 182) dX12_reckonAll_182 (by decide) ?_
  refine V.icmp_ne 208 (pc := 184) dX12_reckonAll_184 (by decide) (fun h184 => absurd (by rw [hq]; rfl) h184) (fun h184 => ?_)
  refine V.aload_n (pc := 187) dX12_reckonAll_187 rfl ?_
  refine V.getR (pc := 188) dX12_reckonAll_188 fX12_62_11 rfl hM.o hM.f28 ?_
  refine V.iload_n (pc := 191) dX12_reckonAll_191 rfl ?_
  refine V.iconst (v := 1) (pc := 192) dX12_reckonAll_192 (by decide) ?_
  refine V.isub (pc := 193) dX12_reckonAll_193 ?_
  rw [nI_pred]
  refine V.lconst (v := 1) (pc := 194) dX12_reckonAll_194 (by decide) ?_
  refine V.aload_n (pc := 195) dX12_reckonAll_195 rfl ?_
  refine V.getR (pc := 196) dX12_reckonAll_196 fX12_62_11 rfl hM.o hM.f28 ?_
  refine V.iload_n (pc := 199) dX12_reckonAll_199 rfl ?_
  refine V.iconst (v := 1) (pc := 200) dX12_reckonAll_200 (by decide) ?_
  refine V.isub (pc := 201) dX12_reckonAll_201 ?_
  rw [nI_pred]
  refine V.lald' (k := s) (pc := 202) dX12_reckonAll_202 hM.t28 rfl (by omega) (by decide) ?_
  rw [hA]
  refine V.lsub (pc := 203) dX12_reckonAll_203 ?_
  rw [show (1 : Int64) = lI 1 from rfl, lI_sub]
  refine V.last' (k := s) (pc := 204) dX12_reckonAll_204 hM.t28 rfl (by omega) (by decide) ?_
  refine V.goto 242 (pc := 205) dX12_reckonAll_205 (by decide) ?_
  refine V.goto 10 (pc := 242) dX12_reckonAll_242 (by decide) ?_
  refine V.weak wk_5 ?_
  refine V.weak wk_6 ?_
  exact kk
set_option maxHeartbeats 1000000 in
theorem k_jmp28 {g : gG} {d : Nat} {T : mT} {n : Nat} {I' : mI} {J' : mJ} {F : mF} {Q : mQ} {m b k q L : Nat} {va : Int32} {s t : Nat} {x : Int} (hM : MS T F m) (hkb : k < b) (hb : b ≤ 400) (hL : L + 900 ≤ 5550) (h26 : I' m 26 = nI L) (h29 : I' m 29 = 0) (hop : I' (m + 2) (L + 98 + 2 * k) = nI q) (hq : q = 28) (hs : s + 1 ≤ 400) (hA : J' (m + 13) s = lI x) (hx : x = 0) (ht : I' (m + 2) (L + 98 + 2 * k + 1) = nI t) (kk : V g mX12_reckonAll (d + 2) Q 0 0 10 [some (.ref m), some (.int va), some (.int (nI b)), some (.int (nI (s + 1))), some (.int (nI (t))), none, none] [] T n I' J' F) : V g mX12_reckonAll (d + 2) Q 0 0 10 [some (.ref m), some (.int va), some (.int (nI b)), some (.int (nI (s + 1))), some (.int (nI (k))), none, none] [] T n I' J' F := by
  have L19 : (19 : Int32) = nI 19 := rfl
  have L27 : (27 : Int32) = nI 27 := rfl
  have L28 : (28 : Int32) = nI 28 := rfl
  refine V.iload (pc := 10) dX12_reckonAll_10 rfl ?_
  refine V.iload_n (pc := 12) dX12_reckonAll_12 rfl ?_
  refine V.icmp_ge 245 (pc := 13) dX12_reckonAll_13 (by decide) (fun h13 => absurd h13 (nI_ge (by omega) (by omega))) (fun h13 => ?_)
  refine V.aload_n (pc := 16) dX12_reckonAll_16 rfl ?_
  refine V.getI (pc := 17) dX12_reckonAll_17 fX12_283_11 rfl hM.o ?_
  rw [h29]
  refine V.if_ne 245 (pc := 20) dX12_reckonAll_20 (by decide) (fun h20 => absurd rfl h20) (fun h20 => ?_)
  refine V.aload_n (pc := 23) dX12_reckonAll_23 rfl ?_
  refine V.getR (pc := 24) dX12_reckonAll_24 fX12_13_11 rfl hM.o hM.f3 ?_
  refine V.aload_n (pc := 27) dX12_reckonAll_27 rfl ?_
  refine V.getI (pc := 28) dX12_reckonAll_28 fX12_286_11 rfl hM.o ?_
  rw [h26]
  refine V.bipush (v := 98) (pc := 31) dX12_reckonAll_31 (by decide) ?_
  refine V.iadd (pc := 33) dX12_reckonAll_33 ?_
  refine V.iconst (v := 2) (pc := 34) dX12_reckonAll_34 (by decide) ?_
  refine V.iload (pc := 35) dX12_reckonAll_35 rfl ?_
  refine V.imul (pc := 37) dX12_reckonAll_37 ?_
  refine V.iadd (pc := 38) dX12_reckonAll_38 ?_
  refine V.iald' (k := L + 98 + 2 * k) (pc := 39) dX12_reckonAll_39 hM.t3 (by rw [show (98 : Int32) = nI 98 from rfl, show (2 : Int32) = nI 2 from rfl, nI_add, pk_mul, nI_add]) (by omega) (by decide) ?_
  rw [hop]
  refine V.is (pc := 40) dX12_reckonAll_40 (by decide) (st1_5 rfl) ?_
  refine V.aload_n (pc := 42) dX12_reckonAll_42 rfl ?_
  refine V.getR (pc := 43) dX12_reckonAll_43 fX12_13_11 rfl hM.o hM.f3 ?_
  refine V.aload_n (pc := 46) dX12_reckonAll_46 rfl ?_
  refine V.getI (pc := 47) dX12_reckonAll_47 fX12_286_11 rfl hM.o ?_
  rw [h26]
  refine V.bipush (v := 98) (pc := 50) dX12_reckonAll_50 (by decide) ?_
  refine V.iadd (pc := 52) dX12_reckonAll_52 ?_
  refine V.iconst (v := 2) (pc := 53) dX12_reckonAll_53 (by decide) ?_
  refine V.iload (pc := 54) dX12_reckonAll_54 rfl ?_
  refine V.imul (pc := 56) dX12_reckonAll_56 ?_
  refine V.iadd (pc := 57) dX12_reckonAll_57 ?_
  refine V.iconst (v := 1) (pc := 58) dX12_reckonAll_58 (by decide) ?_
  refine V.iadd (pc := 59) dX12_reckonAll_59 ?_
  refine V.iald' (k := L + 98 + 2 * k + 1) (pc := 60) dX12_reckonAll_60 hM.t3 (by rw [show (98 : Int32) = nI 98 from rfl, show (2 : Int32) = nI 2 from rfl, nI_add, pk_mul, nI_add, nI_1]) (by omega) (by decide) ?_
  rw [ht]
  refine V.is (pc := 61) dX12_reckonAll_61 (by decide) (st1_6 rfl) ?_
  refine V.iinc1 (pc := 63) dX12_reckonAll_63 (by decide) rfl (st1_4 rfl) ?_
  rw [nI_1]
  refine V.iload (pc := 66) dX12_reckonAll_66 rfl ?_
  refine V.bipush (v := 19) (pc := 68) dX12_reckonAll_68 (by decide) ?_
  refine V.icmp_ge 103 (pc := 70) dX12_reckonAll_70 (by decide) (fun h70 => ?_) (fun h70 => absurd (by rw [L19]; exact nI_le (by omega) (by omega)) h70)
  refine V.iload (pc := 103) dX12_reckonAll_103 rfl ?_
  refine V.bipush (v := 27) (pc := 105) dX12_reckonAll_105 (by decide) ?_
  refine V.icmp_ge 180 (pc := 107) dX12_reckonAll_107 (by decide) (fun h107 => ?_) (fun h107 => absurd (by rw [L27]; exact nI_le (by omega) (by omega)) h107)
  refine V.iload (pc := 180) dX12_reckonAll_180 rfl ?_
  refine V.bipush (v := 27) (pc := 182) dX12_reckonAll_182 (by decide) ?_
  refine V.icmp_ne 208 (pc := 184) dX12_reckonAll_184 (by decide) (fun h184 => ?_) (fun h184 => absurd h184 (by rw [hq]; decide))
  refine V.aload_n (pc := 208) dX12_reckonAll_208 rfl ?_
  refine V.getR (pc := 209) dX12_reckonAll_209 fX12_62_11 rfl hM.o hM.f28 ?_
  refine V.iload_n (pc := 212) dX12_reckonAll_212 rfl ?_
  refine V.iconst (v := 1) (pc := 213) dX12_reckonAll_213 (by decide) ?_
  refine V.isub (pc := 214) dX12_reckonAll_214 ?_
  rw [nI_pred]
  refine V.lald' (k := s) (pc := 215) dX12_reckonAll_215 hM.t28 rfl (by omega) (by decide) ?_
  rw [hA]
  refine V.iload (pc := 216) dX12_reckonAll_216 rfl ?_
  refine V.bipush (v := 28) (pc := 218) dX12_reckonAll_218 (by decide) ?_
  refine V.icmp_ne 227 (pc := 220) dX12_reckonAll_220 (by decide) (fun h220 => absurd (by rw [hq]; rfl) h220) (fun h220 => ?_)
  refine V.lconst (v := 0) (pc := 223) dX12_reckonAll_223 (by decide) ?_
  refine V.goto 228 (pc := 224) dX12_reckonAll_224 (by decide) ?_
  refine V.lcmp_ne 239 (pc := 228) dX12_reckonAll_228 dX12_reckonAll_229 (by decide) (fun h228 => absurd (by rw [hx]; rfl) h228) (fun h228 => ?_)
  refine V.iload (pc := 232) dX12_reckonAll_232 rfl ?_
  refine V.is (pc := 234) dX12_reckonAll_234 (by decide) (st1_4 rfl) ?_
  refine V.goto 242 (pc := 236) dX12_reckonAll_236 (by decide) ?_
  refine V.goto 10 (pc := 242) dX12_reckonAll_242 (by decide) ?_
  refine V.weak wk_5 ?_
  refine V.weak wk_6 ?_
  exact kk
set_option maxHeartbeats 1000000 in
theorem k_pop28 {g : gG} {d : Nat} {T : mT} {n : Nat} {I' : mI} {J' : mJ} {F : mF} {Q : mQ} {m b k q L : Nat} {va : Int32} {s : Nat} {x : Int} (hM : MS T F m) (hkb : k < b) (hb : b ≤ 400) (hL : L + 900 ≤ 5550) (h26 : I' m 26 = nI L) (h29 : I' m 29 = 0) (hop : I' (m + 2) (L + 98 + 2 * k) = nI q) (hq : q = 28) (hs : s + 1 ≤ 400) (hA : J' (m + 13) s = lI x) (bx : Bd x) (hx : ¬ x = 0) (kk : V g mX12_reckonAll (d + 2) Q 0 0 10 [some (.ref m), some (.int va), some (.int (nI b)), some (.int (nI (s))), some (.int (nI (k + 1))), none, none] [] T n I' J' F) : V g mX12_reckonAll (d + 2) Q 0 0 10 [some (.ref m), some (.int va), some (.int (nI b)), some (.int (nI (s + 1))), some (.int (nI (k))), none, none] [] T n I' J' F := by
  have L19 : (19 : Int32) = nI 19 := rfl
  have L27 : (27 : Int32) = nI 27 := rfl
  have L28 : (28 : Int32) = nI 28 := rfl
  refine V.iload (pc := 10) dX12_reckonAll_10 rfl ?_
  refine V.iload_n (pc := 12) dX12_reckonAll_12 rfl ?_
  refine V.icmp_ge 245 (pc := 13) dX12_reckonAll_13 (by decide) (fun h13 => absurd h13 (nI_ge (by omega) (by omega))) (fun h13 => ?_)
  refine V.aload_n (pc := 16) dX12_reckonAll_16 rfl ?_
  refine V.getI (pc := 17) dX12_reckonAll_17 fX12_283_11 rfl hM.o ?_
  rw [h29]
  refine V.if_ne 245 (pc := 20) dX12_reckonAll_20 (by decide) (fun h20 => absurd rfl h20) (fun h20 => ?_)
  refine V.aload_n (pc := 23) dX12_reckonAll_23 rfl ?_
  refine V.getR (pc := 24) dX12_reckonAll_24 fX12_13_11 rfl hM.o hM.f3 ?_
  refine V.aload_n (pc := 27) dX12_reckonAll_27 rfl ?_
  refine V.getI (pc := 28) dX12_reckonAll_28 fX12_286_11 rfl hM.o ?_
  rw [h26]
  refine V.bipush (v := 98) (pc := 31) dX12_reckonAll_31 (by decide) ?_
  refine V.iadd (pc := 33) dX12_reckonAll_33 ?_
  refine V.iconst (v := 2) (pc := 34) dX12_reckonAll_34 (by decide) ?_
  refine V.iload (pc := 35) dX12_reckonAll_35 rfl ?_
  refine V.imul (pc := 37) dX12_reckonAll_37 ?_
  refine V.iadd (pc := 38) dX12_reckonAll_38 ?_
  refine V.iald' (k := L + 98 + 2 * k) (pc := 39) dX12_reckonAll_39 hM.t3 (by rw [show (98 : Int32) = nI 98 from rfl, show (2 : Int32) = nI 2 from rfl, nI_add, pk_mul, nI_add]) (by omega) (by decide) ?_
  rw [hop]
  refine V.is (pc := 40) dX12_reckonAll_40 (by decide) (st1_5 rfl) ?_
  refine V.aload_n (pc := 42) dX12_reckonAll_42 rfl ?_
  refine V.getR (pc := 43) dX12_reckonAll_43 fX12_13_11 rfl hM.o hM.f3 ?_
  refine V.aload_n (pc := 46) dX12_reckonAll_46 rfl ?_
  refine V.getI (pc := 47) dX12_reckonAll_47 fX12_286_11 rfl hM.o ?_
  rw [h26]
  refine V.bipush (v := 98) (pc := 50) dX12_reckonAll_50 (by decide) ?_
  refine V.iadd (pc := 52) dX12_reckonAll_52 ?_
  refine V.iconst (v := 2) (pc := 53) dX12_reckonAll_53 (by decide) ?_
  refine V.iload (pc := 54) dX12_reckonAll_54 rfl ?_
  refine V.imul (pc := 56) dX12_reckonAll_56 ?_
  refine V.iadd (pc := 57) dX12_reckonAll_57 ?_
  refine V.iconst (v := 1) (pc := 58) dX12_reckonAll_58 (by decide) ?_
  refine V.iadd (pc := 59) dX12_reckonAll_59 ?_
  refine V.iald' (k := L + 98 + 2 * k + 1) (pc := 60) dX12_reckonAll_60 hM.t3 (by rw [show (98 : Int32) = nI 98 from rfl, show (2 : Int32) = nI 2 from rfl, nI_add, pk_mul, nI_add, nI_1]) (by omega) (by decide) ?_
  refine V.is (pc := 61) dX12_reckonAll_61 (by decide) (st1_6 rfl) ?_
  refine V.iinc1 (pc := 63) dX12_reckonAll_63 (by decide) rfl (st1_4 rfl) ?_
  rw [nI_1]
  refine V.iload (pc := 66) dX12_reckonAll_66 rfl ?_
  refine V.bipush (v := 19) (pc := 68) dX12_reckonAll_68 (by decide) ?_
  refine V.icmp_ge 103 (pc := 70) dX12_reckonAll_70 (by decide) (fun h70 => ?_) (fun h70 => absurd (by rw [L19]; exact nI_le (by omega) (by omega)) h70)
  refine V.iload (pc := 103) dX12_reckonAll_103 rfl ?_
  refine V.bipush (v := 27) (pc := 105) dX12_reckonAll_105 (by decide) ?_
  refine V.icmp_ge 180 (pc := 107) dX12_reckonAll_107 (by decide) (fun h107 => ?_) (fun h107 => absurd (by rw [L27]; exact nI_le (by omega) (by omega)) h107)
  refine V.iload (pc := 180) dX12_reckonAll_180 rfl ?_
  refine V.bipush (v := 27) (pc := 182) dX12_reckonAll_182 (by decide) ?_
  refine V.icmp_ne 208 (pc := 184) dX12_reckonAll_184 (by decide) (fun h184 => ?_) (fun h184 => absurd h184 (by rw [hq]; decide))
  refine V.aload_n (pc := 208) dX12_reckonAll_208 rfl ?_
  refine V.getR (pc := 209) dX12_reckonAll_209 fX12_62_11 rfl hM.o hM.f28 ?_
  refine V.iload_n (pc := 212) dX12_reckonAll_212 rfl ?_
  refine V.iconst (v := 1) (pc := 213) dX12_reckonAll_213 (by decide) ?_
  refine V.isub (pc := 214) dX12_reckonAll_214 ?_
  rw [nI_pred]
  refine V.lald' (k := s) (pc := 215) dX12_reckonAll_215 hM.t28 rfl (by omega) (by decide) ?_
  rw [hA]
  refine V.iload (pc := 216) dX12_reckonAll_216 rfl ?_
  refine V.bipush (v := 28) (pc := 218) dX12_reckonAll_218 (by decide) ?_
  refine V.icmp_ne 227 (pc := 220) dX12_reckonAll_220 (by decide) (fun h220 => absurd (by rw [hq]; rfl) h220) (fun h220 => ?_)
  refine V.lconst (v := 0) (pc := 223) dX12_reckonAll_223 (by decide) ?_
  refine V.goto 228 (pc := 224) dX12_reckonAll_224 (by decide) ?_
  refine V.lcmp_ne 239 (pc := 228) dX12_reckonAll_228 dX12_reckonAll_229 (by decide) (fun h228 => ?_) (fun h228 => absurd ((lI_eq bx (show Bd 0 by unfold Bd; omega)).mp h228) hx)
  refine V.iinc (v := _ + (-1)) (pc := 239) dX12_reckonAll_239 (by decide) rfl rfl (st1_3 rfl) ?_
  rw [nI_m1]
  refine V.goto 10 (pc := 242) dX12_reckonAll_242 (by decide) ?_
  refine V.weak wk_5 ?_
  refine V.weak wk_6 ?_
  exact kk
set_option maxHeartbeats 1000000 in
theorem k_jmp29 {g : gG} {d : Nat} {T : mT} {n : Nat} {I' : mI} {J' : mJ} {F : mF} {Q : mQ} {m b k q L : Nat} {va : Int32} {s t : Nat} {x : Int} (hM : MS T F m) (hkb : k < b) (hb : b ≤ 400) (hL : L + 900 ≤ 5550) (h26 : I' m 26 = nI L) (h29 : I' m 29 = 0) (hop : I' (m + 2) (L + 98 + 2 * k) = nI q) (hq : q = 29) (hs : s + 1 ≤ 400) (hA : J' (m + 13) s = lI x) (hx : x = 1) (ht : I' (m + 2) (L + 98 + 2 * k + 1) = nI t) (kk : V g mX12_reckonAll (d + 2) Q 0 0 10 [some (.ref m), some (.int va), some (.int (nI b)), some (.int (nI (s + 1))), some (.int (nI (t))), none, none] [] T n I' J' F) : V g mX12_reckonAll (d + 2) Q 0 0 10 [some (.ref m), some (.int va), some (.int (nI b)), some (.int (nI (s + 1))), some (.int (nI (k))), none, none] [] T n I' J' F := by
  have L19 : (19 : Int32) = nI 19 := rfl
  have L27 : (27 : Int32) = nI 27 := rfl
  have L28 : (28 : Int32) = nI 28 := rfl
  refine V.iload (pc := 10) dX12_reckonAll_10 rfl ?_
  refine V.iload_n (pc := 12) dX12_reckonAll_12 rfl ?_
  refine V.icmp_ge 245 (pc := 13) dX12_reckonAll_13 (by decide) (fun h13 => absurd h13 (nI_ge (by omega) (by omega))) (fun h13 => ?_)
  refine V.aload_n (pc := 16) dX12_reckonAll_16 rfl ?_
  refine V.getI (pc := 17) dX12_reckonAll_17 fX12_283_11 rfl hM.o ?_
  rw [h29]
  refine V.if_ne 245 (pc := 20) dX12_reckonAll_20 (by decide) (fun h20 => absurd rfl h20) (fun h20 => ?_)
  refine V.aload_n (pc := 23) dX12_reckonAll_23 rfl ?_
  refine V.getR (pc := 24) dX12_reckonAll_24 fX12_13_11 rfl hM.o hM.f3 ?_
  refine V.aload_n (pc := 27) dX12_reckonAll_27 rfl ?_
  refine V.getI (pc := 28) dX12_reckonAll_28 fX12_286_11 rfl hM.o ?_
  rw [h26]
  refine V.bipush (v := 98) (pc := 31) dX12_reckonAll_31 (by decide) ?_
  refine V.iadd (pc := 33) dX12_reckonAll_33 ?_
  refine V.iconst (v := 2) (pc := 34) dX12_reckonAll_34 (by decide) ?_
  refine V.iload (pc := 35) dX12_reckonAll_35 rfl ?_
  refine V.imul (pc := 37) dX12_reckonAll_37 ?_
  refine V.iadd (pc := 38) dX12_reckonAll_38 ?_
  refine V.iald' (k := L + 98 + 2 * k) (pc := 39) dX12_reckonAll_39 hM.t3 (by rw [show (98 : Int32) = nI 98 from rfl, show (2 : Int32) = nI 2 from rfl, nI_add, pk_mul, nI_add]) (by omega) (by decide) ?_
  rw [hop]
  refine V.is (pc := 40) dX12_reckonAll_40 (by decide) (st1_5 rfl) ?_
  refine V.aload_n (pc := 42) dX12_reckonAll_42 rfl ?_
  refine V.getR (pc := 43) dX12_reckonAll_43 fX12_13_11 rfl hM.o hM.f3 ?_
  refine V.aload_n (pc := 46) dX12_reckonAll_46 rfl ?_
  refine V.getI (pc := 47) dX12_reckonAll_47 fX12_286_11 rfl hM.o ?_
  rw [h26]
  refine V.bipush (v := 98) (pc := 50) dX12_reckonAll_50 (by decide) ?_
  refine V.iadd (pc := 52) dX12_reckonAll_52 ?_
  refine V.iconst (v := 2) (pc := 53) dX12_reckonAll_53 (by decide) ?_
  refine V.iload (pc := 54) dX12_reckonAll_54 rfl ?_
  refine V.imul (pc := 56) dX12_reckonAll_56 ?_
  refine V.iadd (pc := 57) dX12_reckonAll_57 ?_
  refine V.iconst (v := 1) (pc := 58) dX12_reckonAll_58 (by decide) ?_
  refine V.iadd (pc := 59) dX12_reckonAll_59 ?_
  refine V.iald' (k := L + 98 + 2 * k + 1) (pc := 60) dX12_reckonAll_60 hM.t3 (by rw [show (98 : Int32) = nI 98 from rfl, show (2 : Int32) = nI 2 from rfl, nI_add, pk_mul, nI_add, nI_1]) (by omega) (by decide) ?_
  rw [ht]
  refine V.is (pc := 61) dX12_reckonAll_61 (by decide) (st1_6 rfl) ?_
  refine V.iinc1 (pc := 63) dX12_reckonAll_63 (by decide) rfl (st1_4 rfl) ?_
  rw [nI_1]
  refine V.iload (pc := 66) dX12_reckonAll_66 rfl ?_
  refine V.bipush (v := 19) (pc := 68) dX12_reckonAll_68 (by decide) ?_
  refine V.icmp_ge 103 (pc := 70) dX12_reckonAll_70 (by decide) (fun h70 => ?_) (fun h70 => absurd (by rw [L19]; exact nI_le (by omega) (by omega)) h70)
  refine V.iload (pc := 103) dX12_reckonAll_103 rfl ?_
  refine V.bipush (v := 27) (pc := 105) dX12_reckonAll_105 (by decide) ?_
  refine V.icmp_ge 180 (pc := 107) dX12_reckonAll_107 (by decide) (fun h107 => ?_) (fun h107 => absurd (by rw [L27]; exact nI_le (by omega) (by omega)) h107)
  refine V.iload (pc := 180) dX12_reckonAll_180 rfl ?_
  refine V.bipush (v := 27) (pc := 182) dX12_reckonAll_182 (by decide) ?_
  refine V.icmp_ne 208 (pc := 184) dX12_reckonAll_184 (by decide) (fun h184 => ?_) (fun h184 => absurd h184 (by rw [hq]; decide))
  refine V.aload_n (pc := 208) dX12_reckonAll_208 rfl ?_
  refine V.getR (pc := 209) dX12_reckonAll_209 fX12_62_11 rfl hM.o hM.f28 ?_
  refine V.iload_n (pc := 212) dX12_reckonAll_212 rfl ?_
  refine V.iconst (v := 1) (pc := 213) dX12_reckonAll_213 (by decide) ?_
  refine V.isub (pc := 214) dX12_reckonAll_214 ?_
  rw [nI_pred]
  refine V.lald' (k := s) (pc := 215) dX12_reckonAll_215 hM.t28 rfl (by omega) (by decide) ?_
  rw [hA]
  refine V.iload (pc := 216) dX12_reckonAll_216 rfl ?_
  refine V.bipush (v := 28) (pc := 218) dX12_reckonAll_218 (by decide) ?_
  refine V.icmp_ne 227 (pc := 220) dX12_reckonAll_220 (by decide) (fun h220 => ?_) (fun h220 => absurd h220 (by rw [hq]; decide))
  refine V.lconst (v := 1) (pc := 227) dX12_reckonAll_227 (by decide) ?_
  refine V.lcmp_ne 239 (pc := 228) dX12_reckonAll_228 dX12_reckonAll_229 (by decide) (fun h228 => absurd (by rw [hx]; rfl) h228) (fun h228 => ?_)
  refine V.iload (pc := 232) dX12_reckonAll_232 rfl ?_
  refine V.is (pc := 234) dX12_reckonAll_234 (by decide) (st1_4 rfl) ?_
  refine V.goto 242 (pc := 236) dX12_reckonAll_236 (by decide) ?_
  refine V.goto 10 (pc := 242) dX12_reckonAll_242 (by decide) ?_
  refine V.weak wk_5 ?_
  refine V.weak wk_6 ?_
  exact kk
set_option maxHeartbeats 1000000 in
theorem k_pop29 {g : gG} {d : Nat} {T : mT} {n : Nat} {I' : mI} {J' : mJ} {F : mF} {Q : mQ} {m b k q L : Nat} {va : Int32} {s : Nat} {x : Int} (hM : MS T F m) (hkb : k < b) (hb : b ≤ 400) (hL : L + 900 ≤ 5550) (h26 : I' m 26 = nI L) (h29 : I' m 29 = 0) (hop : I' (m + 2) (L + 98 + 2 * k) = nI q) (hq : q = 29) (hs : s + 1 ≤ 400) (hA : J' (m + 13) s = lI x) (bx : Bd x) (hx : ¬ x = 1) (kk : V g mX12_reckonAll (d + 2) Q 0 0 10 [some (.ref m), some (.int va), some (.int (nI b)), some (.int (nI (s))), some (.int (nI (k + 1))), none, none] [] T n I' J' F) : V g mX12_reckonAll (d + 2) Q 0 0 10 [some (.ref m), some (.int va), some (.int (nI b)), some (.int (nI (s + 1))), some (.int (nI (k))), none, none] [] T n I' J' F := by
  have L19 : (19 : Int32) = nI 19 := rfl
  have L27 : (27 : Int32) = nI 27 := rfl
  have L28 : (28 : Int32) = nI 28 := rfl
  refine V.iload (pc := 10) dX12_reckonAll_10 rfl ?_
  refine V.iload_n (pc := 12) dX12_reckonAll_12 rfl ?_
  refine V.icmp_ge 245 (pc := 13) dX12_reckonAll_13 (by decide) (fun h13 => absurd h13 (nI_ge (by omega) (by omega))) (fun h13 => ?_)
  refine V.aload_n (pc := 16) dX12_reckonAll_16 rfl ?_
  refine V.getI (pc := 17) dX12_reckonAll_17 fX12_283_11 rfl hM.o ?_
  rw [h29]
  refine V.if_ne 245 (pc := 20) dX12_reckonAll_20 (by decide) (fun h20 => absurd rfl h20) (fun h20 => ?_)
  refine V.aload_n (pc := 23) dX12_reckonAll_23 rfl ?_
  refine V.getR (pc := 24) dX12_reckonAll_24 fX12_13_11 rfl hM.o hM.f3 ?_
  refine V.aload_n (pc := 27) dX12_reckonAll_27 rfl ?_
  refine V.getI (pc := 28) dX12_reckonAll_28 fX12_286_11 rfl hM.o ?_
  rw [h26]
  refine V.bipush (v := 98) (pc := 31) dX12_reckonAll_31 (by decide) ?_
  refine V.iadd (pc := 33) dX12_reckonAll_33 ?_
  refine V.iconst (v := 2) (pc := 34) dX12_reckonAll_34 (by decide) ?_
  refine V.iload (pc := 35) dX12_reckonAll_35 rfl ?_
  refine V.imul (pc := 37) dX12_reckonAll_37 ?_
  refine V.iadd (pc := 38) dX12_reckonAll_38 ?_
  refine V.iald' (k := L + 98 + 2 * k) (pc := 39) dX12_reckonAll_39 hM.t3 (by rw [show (98 : Int32) = nI 98 from rfl, show (2 : Int32) = nI 2 from rfl, nI_add, pk_mul, nI_add]) (by omega) (by decide) ?_
  rw [hop]
  refine V.is (pc := 40) dX12_reckonAll_40 (by decide) (st1_5 rfl) ?_
  refine V.aload_n (pc := 42) dX12_reckonAll_42 rfl ?_
  refine V.getR (pc := 43) dX12_reckonAll_43 fX12_13_11 rfl hM.o hM.f3 ?_
  refine V.aload_n (pc := 46) dX12_reckonAll_46 rfl ?_
  refine V.getI (pc := 47) dX12_reckonAll_47 fX12_286_11 rfl hM.o ?_
  rw [h26]
  refine V.bipush (v := 98) (pc := 50) dX12_reckonAll_50 (by decide) ?_
  refine V.iadd (pc := 52) dX12_reckonAll_52 ?_
  refine V.iconst (v := 2) (pc := 53) dX12_reckonAll_53 (by decide) ?_
  refine V.iload (pc := 54) dX12_reckonAll_54 rfl ?_
  refine V.imul (pc := 56) dX12_reckonAll_56 ?_
  refine V.iadd (pc := 57) dX12_reckonAll_57 ?_
  refine V.iconst (v := 1) (pc := 58) dX12_reckonAll_58 (by decide) ?_
  refine V.iadd (pc := 59) dX12_reckonAll_59 ?_
  refine V.iald' (k := L + 98 + 2 * k + 1) (pc := 60) dX12_reckonAll_60 hM.t3 (by rw [show (98 : Int32) = nI 98 from rfl, show (2 : Int32) = nI 2 from rfl, nI_add, pk_mul, nI_add, nI_1]) (by omega) (by decide) ?_
  refine V.is (pc := 61) dX12_reckonAll_61 (by decide) (st1_6 rfl) ?_
  refine V.iinc1 (pc := 63) dX12_reckonAll_63 (by decide) rfl (st1_4 rfl) ?_
  rw [nI_1]
  refine V.iload (pc := 66) dX12_reckonAll_66 rfl ?_
  refine V.bipush (v := 19) (pc := 68) dX12_reckonAll_68 (by decide) ?_
  refine V.icmp_ge 103 (pc := 70) dX12_reckonAll_70 (by decide) (fun h70 => ?_) (fun h70 => absurd (by rw [L19]; exact nI_le (by omega) (by omega)) h70)
  refine V.iload (pc := 103) dX12_reckonAll_103 rfl ?_
  refine V.bipush (v := 27) (pc := 105) dX12_reckonAll_105 (by decide) ?_
  refine V.icmp_ge 180 (pc := 107) dX12_reckonAll_107 (by decide) (fun h107 => ?_) (fun h107 => absurd (by rw [L27]; exact nI_le (by omega) (by omega)) h107)
  refine V.iload (pc := 180) dX12_reckonAll_180 rfl ?_
  refine V.bipush (v := 27) (pc := 182) dX12_reckonAll_182 (by decide) ?_
  refine V.icmp_ne 208 (pc := 184) dX12_reckonAll_184 (by decide) (fun h184 => ?_) (fun h184 => absurd h184 (by rw [hq]; decide))
  refine V.aload_n (pc := 208) dX12_reckonAll_208 rfl ?_
  refine V.getR (pc := 209) dX12_reckonAll_209 fX12_62_11 rfl hM.o hM.f28 ?_
  refine V.iload_n (pc := 212) dX12_reckonAll_212 rfl ?_
  refine V.iconst (v := 1) (pc := 213) dX12_reckonAll_213 (by decide) ?_
  refine V.isub (pc := 214) dX12_reckonAll_214 ?_
  rw [nI_pred]
  refine V.lald' (k := s) (pc := 215) dX12_reckonAll_215 hM.t28 rfl (by omega) (by decide) ?_
  rw [hA]
  refine V.iload (pc := 216) dX12_reckonAll_216 rfl ?_
  refine V.bipush (v := 28) (pc := 218) dX12_reckonAll_218 (by decide) ?_
  refine V.icmp_ne 227 (pc := 220) dX12_reckonAll_220 (by decide) (fun h220 => ?_) (fun h220 => absurd h220 (by rw [hq]; decide))
  refine V.lconst (v := 1) (pc := 227) dX12_reckonAll_227 (by decide) ?_
  refine V.lcmp_ne 239 (pc := 228) dX12_reckonAll_228 dX12_reckonAll_229 (by decide) (fun h228 => ?_) (fun h228 => absurd ((lI_eq bx (show Bd 1 by unfold Bd; omega)).mp h228) hx)
  refine V.iinc (v := _ + (-1)) (pc := 239) dX12_reckonAll_239 (by decide) rfl rfl (st1_3 rfl) ?_
  rw [nI_m1]
  refine V.goto 10 (pc := 242) dX12_reckonAll_242 (by decide) ?_
  refine V.weak wk_5 ?_
  refine V.weak wk_6 ?_
  exact kk
