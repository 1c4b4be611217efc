-- joinLastTwo
theorem nI_p2 {s : Nat} : nI (s + 2) - 2 = nI s := by rw [show (2 : Int32) = nI 2 from rfl, pk_sub (by omega)]; rfl
theorem x_j11Y {g : gG} {d : Nat} {T : mT} {n : Nat} {I : mI} {J : mJ} {F : mF} {k s : Nat} {a b : Int} (hAk : AkS T F k) (h1 : I k 1 = nI (s + 2)) (hs : s + 2 ≤ 64) (hA : J (k + 1) s = lI a) (hB : J (k + 1) (s + 1) = lI b) (ha : Bd a) (hb : Bd b) (h0 : a < b) : Ct g mX0_joinLastTwo (d + 2) [.ref k, .int 11] 0 0 T n I J F (fun r' T' n' I' J' F' => r' = some (.int 1) ∧ T' = T ∧ n' = n ∧ I' = up2 (up2 I k 1 (nI s)) k 2 1 ∧ J' = J ∧ F' = F) := by
  refine Ct.ofV (k := 4) (by decide) (Nat.le_of_ble_eq_true rfl) ?_
  show V g mX0_joinLastTwo (d + 2) _ 0 0 0 [some (.ref k), some (.int 11), none, none, none, none] [] T n I J F
  have e0 : (0 : Int64) = lI 0 := rfl
  refine V.aload_n (pc := 0) dX0_joinLastTwo_0 rfl ?_
  refine V.getI (pc := 1) dX0_joinLastTwo_1 fX0_15_0 rfl hAk.o ?_
  rw [h1]
  refine V.iconst (v := 2) (pc := 4) dX0_joinLastTwo_4 (by decide) ?_
  refine V.icmp_lt 20 (pc := 5) dX0_joinLastTwo_5 (by decide) (fun h5 => absurd h5 (by rw [lt32, nI_toInt (by omega)]; show ¬ _ < (2 : Int); omega)) (fun h5 => ?_)
  refine V.aload_n (pc := 8) dX0_joinLastTwo_8 rfl ?_
  refine V.getI (pc := 9) dX0_joinLastTwo_9 fX0_15_0 rfl hAk.o ?_
  rw [h1]
  refine V.aload_n (pc := 12) dX0_joinLastTwo_12 rfl ?_
  refine V.getR (pc := 13) dX0_joinLastTwo_13 fX0_9_0 rfl hAk.o hAk.f0 ?_
  refine V.alen (pc := 16) dX0_joinLastTwo_16 hAk.t0 ty_l (by rfl) ?_
  refine V.icmp_le 22 (pc := 17) dX0_joinLastTwo_17 (by decide) (fun h17 => ?_) (fun h17 => absurd (by rw [le32, nI_toInt (by omega)]; show _ ≤ (64 : Int); omega) h17)
  refine V.aload_n (pc := 22) dX0_joinLastTwo_22 rfl ?_
  refine V.getR (pc := 23) dX0_joinLastTwo_23 fX0_9_0 rfl hAk.o hAk.f0 ?_
  refine V.aload_n (pc := 26) dX0_joinLastTwo_26 rfl ?_
  refine V.getI (pc := 27) dX0_joinLastTwo_27 fX0_15_0 rfl hAk.o ?_
  rw [h1]
  refine V.iconst (v := 2) (pc := 30) dX0_joinLastTwo_30 (by decide) ?_
  refine V.isub (pc := 31) dX0_joinLastTwo_31 ?_
  rw [nI_p2]
  refine V.lald' (k := s) (pc := 32) dX0_joinLastTwo_32 hAk.t0 rfl (by omega) (by decide) ?_
  rw [hA]
  refine V.lsn (pc := 33) dX0_joinLastTwo_33 (by decide) (st2_2 rfl) ?_
  refine V.aload_n (pc := 34) dX0_joinLastTwo_34 rfl ?_
  refine V.getR (pc := 35) dX0_joinLastTwo_35 fX0_9_0 rfl hAk.o hAk.f0 ?_
  refine V.aload_n (pc := 38) dX0_joinLastTwo_38 rfl ?_
  refine V.getI (pc := 39) dX0_joinLastTwo_39 fX0_15_0 rfl hAk.o ?_
  rw [h1]
  refine V.iconst (v := 1) (pc := 42) dX0_joinLastTwo_42 (by decide) ?_
  refine V.isub (pc := 43) dX0_joinLastTwo_43 ?_
  rw [nI_pred]
  refine V.lald' (k := s + 1) (pc := 44) dX0_joinLastTwo_44 hAk.t0 rfl (by omega) (by decide) ?_
  rw [hB]
  refine V.ls (pc := 45) dX0_joinLastTwo_45 (by decide) (st2_4 rfl) ?_
  refine V.aload_n (pc := 47) dX0_joinLastTwo_47 rfl ?_
  refine V.dup (pc := 48) dX0_joinLastTwo_48 rfl ?_
  refine V.getI (pc := 49) dX0_joinLastTwo_49 fX0_15_0 rfl hAk.o ?_
  rw [h1]
  refine V.iconst (v := 2) (pc := 52) dX0_joinLastTwo_52 (by decide) ?_
  refine V.isub (pc := 53) dX0_joinLastTwo_53 ?_
  rw [nI_p2]
  refine V.putI (pc := 54) dX0_joinLastTwo_54 fX0_15_0 (fun r h => by cases h; exact Or.inl rfl) rfl hAk.o ?_
  refine V.iload_n (pc := 57) dX0_joinLastTwo_57 rfl ?_
  refine V.tIn 104 (pc := 58) dX0_joinLastTwo_58 (by decide) (by decide) (off := 46) (by decide) (by decide) ?_
  refine V.aload_n (pc := 104) dX0_joinLastTwo_104 rfl ?_
  refine V.lload_n (pc := 105) dX0_joinLastTwo_105 rfl ?_
  refine V.lload (pc := 106) dX0_joinLastTwo_106 rfl ?_
  refine V.lcmp_ge 116 (pc := 108) dX0_joinLastTwo_108 dX0_joinLastTwo_109 (by decide) (fun h108 => absurd h108 (Int64.not_le.mpr ((lI_lt ha hb).mpr h0))) (fun h108 => ?_)
  refine V.iconst (v := 1) (pc := 112) dX0_joinLastTwo_112 (by decide) ?_
  refine V.goto 117 (pc := 113) dX0_joinLastTwo_113 (by decide) ?_
  refine V.putZ (pc := 117) dX0_joinLastTwo_117 fX0_19_0 (fun r h => by cases h; exact Or.inl rfl) rfl (by first | exact Or.inl rfl | exact Or.inr rfl | assumption) hAk.o ?_
  refine V.iconst (v := 1) (pc := 120) dX0_joinLastTwo_120 (by decide) ?_
  exact V.zret (pc := 121) dX0_joinLastTwo_121 rfl (by first | exact Or.inl rfl | exact Or.inr rfl | exact bi_or | assumption) ⟨rfl, rfl, rfl, rfl, rfl, rfl⟩
theorem x_j11N {g : gG} {d : Nat} {T : mT} {n : Nat} {I : mI} {J : mJ} {F : mF} {k s : Nat} {a b : Int} (hAk : AkS T F k) (h1 : I k 1 = nI (s + 2)) (hs : s + 2 ≤ 64) (hA : J (k + 1) s = lI a) (hB : J (k + 1) (s + 1) = lI b) (ha : Bd a) (hb : Bd b) (h0 : ¬ (a < b)) : Ct g mX0_joinLastTwo (d + 2) [.ref k, .int 11] 0 0 T n I J F (fun r' T' n' I' J' F' => r' = some (.int 1) ∧ T' = T ∧ n' = n ∧ I' = up2 (up2 I k 1 (nI s)) k 2 0 ∧ J' = J ∧ F' = F) := by
  refine Ct.ofV (k := 4) (by decide) (Nat.le_of_ble_eq_true rfl) ?_
  show V g mX0_joinLastTwo (d + 2) _ 0 0 0 [some (.ref k), some (.int 11), none, none, none, none] [] T n I J F
  have e0 : (0 : Int64) = lI 0 := rfl
  refine V.aload_n (pc := 0) dX0_joinLastTwo_0 rfl ?_
  refine V.getI (pc := 1) dX0_joinLastTwo_1 fX0_15_0 rfl hAk.o ?_
  rw [h1]
  refine V.iconst (v := 2) (pc := 4) dX0_joinLastTwo_4 (by decide) ?_
  refine V.icmp_lt 20 (pc := 5) dX0_joinLastTwo_5 (by decide) (fun h5 => absurd h5 (by rw [lt32, nI_toInt (by omega)]; show ¬ _ < (2 : Int); omega)) (fun h5 => ?_)
  refine V.aload_n (pc := 8) dX0_joinLastTwo_8 rfl ?_
  refine V.getI (pc := 9) dX0_joinLastTwo_9 fX0_15_0 rfl hAk.o ?_
  rw [h1]
  refine V.aload_n (pc := 12) dX0_joinLastTwo_12 rfl ?_
  refine V.getR (pc := 13) dX0_joinLastTwo_13 fX0_9_0 rfl hAk.o hAk.f0 ?_
  refine V.alen (pc := 16) dX0_joinLastTwo_16 hAk.t0 ty_l (by rfl) ?_
  refine V.icmp_le 22 (pc := 17) dX0_joinLastTwo_17 (by decide) (fun h17 => ?_) (fun h17 => absurd (by rw [le32, nI_toInt (by omega)]; show _ ≤ (64 : Int); omega) h17)
  refine V.aload_n (pc := 22) dX0_joinLastTwo_22 rfl ?_
  refine V.getR (pc := 23) dX0_joinLastTwo_23 fX0_9_0 rfl hAk.o hAk.f0 ?_
  refine V.aload_n (pc := 26) dX0_joinLastTwo_26 rfl ?_
  refine V.getI (pc := 27) dX0_joinLastTwo_27 fX0_15_0 rfl hAk.o ?_
  rw [h1]
  refine V.iconst (v := 2) (pc := 30) dX0_joinLastTwo_30 (by decide) ?_
  refine V.isub (pc := 31) dX0_joinLastTwo_31 ?_
  rw [nI_p2]
  refine V.lald' (k := s) (pc := 32) dX0_joinLastTwo_32 hAk.t0 rfl (by omega) (by decide) ?_
  rw [hA]
  refine V.lsn (pc := 33) dX0_joinLastTwo_33 (by decide) (st2_2 rfl) ?_
  refine V.aload_n (pc := 34) dX0_joinLastTwo_34 rfl ?_
  refine V.getR (pc := 35) dX0_joinLastTwo_35 fX0_9_0 rfl hAk.o hAk.f0 ?_
  refine V.aload_n (pc := 38) dX0_joinLastTwo_38 rfl ?_
  refine V.getI (pc := 39) dX0_joinLastTwo_39 fX0_15_0 rfl hAk.o ?_
  rw [h1]
  refine V.iconst (v := 1) (pc := 42) dX0_joinLastTwo_42 (by decide) ?_
  refine V.isub (pc := 43) dX0_joinLastTwo_43 ?_
  rw [nI_pred]
  refine V.lald' (k := s + 1) (pc := 44) dX0_joinLastTwo_44 hAk.t0 rfl (by omega) (by decide) ?_
  rw [hB]
  refine V.ls (pc := 45) dX0_joinLastTwo_45 (by decide) (st2_4 rfl) ?_
  refine V.aload_n (pc := 47) dX0_joinLastTwo_47 rfl ?_
  refine V.dup (pc := 48) dX0_joinLastTwo_48 rfl ?_
  refine V.getI (pc := 49) dX0_joinLastTwo_49 fX0_15_0 rfl hAk.o ?_
  rw [h1]
  refine V.iconst (v := 2) (pc := 52) dX0_joinLastTwo_52 (by decide) ?_
  refine V.isub (pc := 53) dX0_joinLastTwo_53 ?_
  rw [nI_p2]
  refine V.putI (pc := 54) dX0_joinLastTwo_54 fX0_15_0 (fun r h => by cases h; exact Or.inl rfl) rfl hAk.o ?_
  refine V.iload_n (pc := 57) dX0_joinLastTwo_57 rfl ?_
  refine V.tIn 104 (pc := 58) dX0_joinLastTwo_58 (by decide) (by decide) (off := 46) (by decide) (by decide) ?_
  refine V.aload_n (pc := 104) dX0_joinLastTwo_104 rfl ?_
  refine V.lload_n (pc := 105) dX0_joinLastTwo_105 rfl ?_
  refine V.lload (pc := 106) dX0_joinLastTwo_106 rfl ?_
  refine V.lcmp_ge 116 (pc := 108) dX0_joinLastTwo_108 dX0_joinLastTwo_109 (by decide) (fun h108 => ?_) (fun h108 => absurd ((lI_lt ha hb).mp (Int64.not_le.mp h108)) h0)
  refine V.iconst (v := 0) (pc := 116) dX0_joinLastTwo_116 (by decide) ?_
  refine V.putZ (pc := 117) dX0_joinLastTwo_117 fX0_19_0 (fun r h => by cases h; exact Or.inl rfl) rfl (by first | exact Or.inl rfl | exact Or.inr rfl | assumption) hAk.o ?_
  refine V.iconst (v := 1) (pc := 120) dX0_joinLastTwo_120 (by decide) ?_
  exact V.zret (pc := 121) dX0_joinLastTwo_121 rfl (by first | exact Or.inl rfl | exact Or.inr rfl | exact bi_or | assumption) ⟨rfl, rfl, rfl, rfl, rfl, rfl⟩
theorem x_j12Y {g : gG} {d : Nat} {T : mT} {n : Nat} {I : mI} {J : mJ} {F : mF} {k s : Nat} {a b : Int} (hAk : AkS T F k) (h1 : I k 1 = nI (s + 2)) (hs : s + 2 ≤ 64) (hA : J (k + 1) s = lI a) (hB : J (k + 1) (s + 1) = lI b) (ha : Bd a) (hb : Bd b) (h0 : b < a) : Ct g mX0_joinLastTwo (d + 2) [.ref k, .int 12] 0 0 T n I J F (fun r' T' n' I' J' F' => r' = some (.int 1) ∧ T' = T ∧ n' = n ∧ I' = up2 (up2 I k 1 (nI s)) k 2 1 ∧ J' = J ∧ F' = F) := by
  refine Ct.ofV (k := 4) (by decide) (Nat.le_of_ble_eq_true rfl) ?_
  show V g mX0_joinLastTwo (d + 2) _ 0 0 0 [some (.ref k), some (.int 12), none, none, none, none] [] T n I J F
  have e0 : (0 : Int64) = lI 0 := rfl
  refine V.aload_n (pc := 0) dX0_joinLastTwo_0 rfl ?_
  refine V.getI (pc := 1) dX0_joinLastTwo_1 fX0_15_0 rfl hAk.o ?_
  rw [h1]
  refine V.iconst (v := 2) (pc := 4) dX0_joinLastTwo_4 (by decide) ?_
  refine V.icmp_lt 20 (pc := 5) dX0_joinLastTwo_5 (by decide) (fun h5 => absurd h5 (by rw [lt32, nI_toInt (by omega)]; show ¬ _ < (2 : Int); omega)) (fun h5 => ?_)
  refine V.aload_n (pc := 8) dX0_joinLastTwo_8 rfl ?_
  refine V.getI (pc := 9) dX0_joinLastTwo_9 fX0_15_0 rfl hAk.o ?_
  rw [h1]
  refine V.aload_n (pc := 12) dX0_joinLastTwo_12 rfl ?_
  refine V.getR (pc := 13) dX0_joinLastTwo_13 fX0_9_0 rfl hAk.o hAk.f0 ?_
  refine V.alen (pc := 16) dX0_joinLastTwo_16 hAk.t0 ty_l (by rfl) ?_
  refine V.icmp_le 22 (pc := 17) dX0_joinLastTwo_17 (by decide) (fun h17 => ?_) (fun h17 => absurd (by rw [le32, nI_toInt (by omega)]; show _ ≤ (64 : Int); omega) h17)
  refine V.aload_n (pc := 22) dX0_joinLastTwo_22 rfl ?_
  refine V.getR (pc := 23) dX0_joinLastTwo_23 fX0_9_0 rfl hAk.o hAk.f0 ?_
  refine V.aload_n (pc := 26) dX0_joinLastTwo_26 rfl ?_
  refine V.getI (pc := 27) dX0_joinLastTwo_27 fX0_15_0 rfl hAk.o ?_
  rw [h1]
  refine V.iconst (v := 2) (pc := 30) dX0_joinLastTwo_30 (by decide) ?_
  refine V.isub (pc := 31) dX0_joinLastTwo_31 ?_
  rw [nI_p2]
  refine V.lald' (k := s) (pc := 32) dX0_joinLastTwo_32 hAk.t0 rfl (by omega) (by decide) ?_
  rw [hA]
  refine V.lsn (pc := 33) dX0_joinLastTwo_33 (by decide) (st2_2 rfl) ?_
  refine V.aload_n (pc := 34) dX0_joinLastTwo_34 rfl ?_
  refine V.getR (pc := 35) dX0_joinLastTwo_35 fX0_9_0 rfl hAk.o hAk.f0 ?_
  refine V.aload_n (pc := 38) dX0_joinLastTwo_38 rfl ?_
  refine V.getI (pc := 39) dX0_joinLastTwo_39 fX0_15_0 rfl hAk.o ?_
  rw [h1]
  refine V.iconst (v := 1) (pc := 42) dX0_joinLastTwo_42 (by decide) ?_
  refine V.isub (pc := 43) dX0_joinLastTwo_43 ?_
  rw [nI_pred]
  refine V.lald' (k := s + 1) (pc := 44) dX0_joinLastTwo_44 hAk.t0 rfl (by omega) (by decide) ?_
  rw [hB]
  refine V.ls (pc := 45) dX0_joinLastTwo_45 (by decide) (st2_4 rfl) ?_
  refine V.aload_n (pc := 47) dX0_joinLastTwo_47 rfl ?_
  refine V.dup (pc := 48) dX0_joinLastTwo_48 rfl ?_
  refine V.getI (pc := 49) dX0_joinLastTwo_49 fX0_15_0 rfl hAk.o ?_
  rw [h1]
  refine V.iconst (v := 2) (pc := 52) dX0_joinLastTwo_52 (by decide) ?_
  refine V.isub (pc := 53) dX0_joinLastTwo_53 ?_
  rw [nI_p2]
  refine V.putI (pc := 54) dX0_joinLastTwo_54 fX0_15_0 (fun r h => by cases h; exact Or.inl rfl) rfl hAk.o ?_
  refine V.iload_n (pc := 57) dX0_joinLastTwo_57 rfl ?_
  refine V.tIn 122 (pc := 58) dX0_joinLastTwo_58 (by decide) (by decide) (off := 64) (by decide) (by decide) ?_
  refine V.aload_n (pc := 122) dX0_joinLastTwo_122 rfl ?_
  refine V.lload_n (pc := 123) dX0_joinLastTwo_123 rfl ?_
  refine V.lload (pc := 124) dX0_joinLastTwo_124 rfl ?_
  refine V.lcmp_le 134 (pc := 126) dX0_joinLastTwo_126 dX0_joinLastTwo_127 (by decide) (fun h126 => absurd h126 (Int64.not_le.mpr ((lI_lt hb ha).mpr h0))) (fun h126 => ?_)
  refine V.iconst (v := 1) (pc := 130) dX0_joinLastTwo_130 (by decide) ?_
  refine V.goto 135 (pc := 131) dX0_joinLastTwo_131 (by decide) ?_
  refine V.putZ (pc := 135) dX0_joinLastTwo_135 fX0_19_0 (fun r h => by cases h; exact Or.inl rfl) rfl (by first | exact Or.inl rfl | exact Or.inr rfl | assumption) hAk.o ?_
  refine V.iconst (v := 1) (pc := 138) dX0_joinLastTwo_138 (by decide) ?_
  exact V.zret (pc := 139) dX0_joinLastTwo_139 rfl (by first | exact Or.inl rfl | exact Or.inr rfl | exact bi_or | assumption) ⟨rfl, rfl, rfl, rfl, rfl, rfl⟩
theorem x_j12N {g : gG} {d : Nat} {T : mT} {n : Nat} {I : mI} {J : mJ} {F : mF} {k s : Nat} {a b : Int} (hAk : AkS T F k) (h1 : I k 1 = nI (s + 2)) (hs : s + 2 ≤ 64) (hA : J (k + 1) s = lI a) (hB : J (k + 1) (s + 1) = lI b) (ha : Bd a) (hb : Bd b) (h0 : ¬ (b < a)) : Ct g mX0_joinLastTwo (d + 2) [.ref k, .int 12] 0 0 T n I J F (fun r' T' n' I' J' F' => r' = some (.int 1) ∧ T' = T ∧ n' = n ∧ I' = up2 (up2 I k 1 (nI s)) k 2 0 ∧ J' = J ∧ F' = F) := by
  refine Ct.ofV (k := 4) (by decide) (Nat.le_of_ble_eq_true rfl) ?_
  show V g mX0_joinLastTwo (d + 2) _ 0 0 0 [some (.ref k), some (.int 12), none, none, none, none] [] T n I J F
  have e0 : (0 : Int64) = lI 0 := rfl
  refine V.aload_n (pc := 0) dX0_joinLastTwo_0 rfl ?_
  refine V.getI (pc := 1) dX0_joinLastTwo_1 fX0_15_0 rfl hAk.o ?_
  rw [h1]
  refine V.iconst (v := 2) (pc := 4) dX0_joinLastTwo_4 (by decide) ?_
  refine V.icmp_lt 20 (pc := 5) dX0_joinLastTwo_5 (by decide) (fun h5 => absurd h5 (by rw [lt32, nI_toInt (by omega)]; show ¬ _ < (2 : Int); omega)) (fun h5 => ?_)
  refine V.aload_n (pc := 8) dX0_joinLastTwo_8 rfl ?_
  refine V.getI (pc := 9) dX0_joinLastTwo_9 fX0_15_0 rfl hAk.o ?_
  rw [h1]
  refine V.aload_n (pc := 12) dX0_joinLastTwo_12 rfl ?_
  refine V.getR (pc := 13) dX0_joinLastTwo_13 fX0_9_0 rfl hAk.o hAk.f0 ?_
  refine V.alen (pc := 16) dX0_joinLastTwo_16 hAk.t0 ty_l (by rfl) ?_
  refine V.icmp_le 22 (pc := 17) dX0_joinLastTwo_17 (by decide) (fun h17 => ?_) (fun h17 => absurd (by rw [le32, nI_toInt (by omega)]; show _ ≤ (64 : Int); omega) h17)
  refine V.aload_n (pc := 22) dX0_joinLastTwo_22 rfl ?_
  refine V.getR (pc := 23) dX0_joinLastTwo_23 fX0_9_0 rfl hAk.o hAk.f0 ?_
  refine V.aload_n (pc := 26) dX0_joinLastTwo_26 rfl ?_
  refine V.getI (pc := 27) dX0_joinLastTwo_27 fX0_15_0 rfl hAk.o ?_
  rw [h1]
  refine V.iconst (v := 2) (pc := 30) dX0_joinLastTwo_30 (by decide) ?_
  refine V.isub (pc := 31) dX0_joinLastTwo_31 ?_
  rw [nI_p2]
  refine V.lald' (k := s) (pc := 32) dX0_joinLastTwo_32 hAk.t0 rfl (by omega) (by decide) ?_
  rw [hA]
  refine V.lsn (pc := 33) dX0_joinLastTwo_33 (by decide) (st2_2 rfl) ?_
  refine V.aload_n (pc := 34) dX0_joinLastTwo_34 rfl ?_
  refine V.getR (pc := 35) dX0_joinLastTwo_35 fX0_9_0 rfl hAk.o hAk.f0 ?_
  refine V.aload_n (pc := 38) dX0_joinLastTwo_38 rfl ?_
  refine V.getI (pc := 39) dX0_joinLastTwo_39 fX0_15_0 rfl hAk.o ?_
  rw [h1]
  refine V.iconst (v := 1) (pc := 42) dX0_joinLastTwo_42 (by decide) ?_
  refine V.isub (pc := 43) dX0_joinLastTwo_43 ?_
  rw [nI_pred]
  refine V.lald' (k := s + 1) (pc := 44) dX0_joinLastTwo_44 hAk.t0 rfl (by omega) (by decide) ?_
  rw [hB]
  refine V.ls (pc := 45) dX0_joinLastTwo_45 (by decide) (st2_4 rfl) ?_
  refine V.aload_n (pc := 47) dX0_joinLastTwo_47 rfl ?_
  refine V.dup (pc := 48) dX0_joinLastTwo_48 rfl ?_
  refine V.getI (pc := 49) dX0_joinLastTwo_49 fX0_15_0 rfl hAk.o ?_
  rw [h1]
  refine V.iconst (v := 2) (pc := 52) dX0_joinLastTwo_52 (by decide) ?_
  refine V.isub (pc := 53) dX0_joinLastTwo_53 ?_
  rw [nI_p2]
  refine V.putI (pc := 54) dX0_joinLastTwo_54 fX0_15_0 (fun r h => by cases h; exact Or.inl rfl) rfl hAk.o ?_
  refine V.iload_n (pc := 57) dX0_joinLastTwo_57 rfl ?_
  refine V.tIn 122 (pc := 58) dX0_joinLastTwo_58 (by decide) (by decide) (off := 64) (by decide) (by decide) ?_
  refine V.aload_n (pc := 122) dX0_joinLastTwo_122 rfl ?_
  refine V.lload_n (pc := 123) dX0_joinLastTwo_123 rfl ?_
  refine V.lload (pc := 124) dX0_joinLastTwo_124 rfl ?_
  refine V.lcmp_le 134 (pc := 126) dX0_joinLastTwo_126 dX0_joinLastTwo_127 (by decide) (fun h126 => ?_) (fun h126 => absurd ((lI_lt hb ha).mp (Int64.not_le.mp h126)) h0)
  refine V.iconst (v := 0) (pc := 134) dX0_joinLastTwo_134 (by decide) ?_
  refine V.putZ (pc := 135) dX0_joinLastTwo_135 fX0_19_0 (fun r h => by cases h; exact Or.inl rfl) rfl (by first | exact Or.inl rfl | exact Or.inr rfl | assumption) hAk.o ?_
  refine V.iconst (v := 1) (pc := 138) dX0_joinLastTwo_138 (by decide) ?_
  exact V.zret (pc := 139) dX0_joinLastTwo_139 rfl (by first | exact Or.inl rfl | exact Or.inr rfl | exact bi_or | assumption) ⟨rfl, rfl, rfl, rfl, rfl, rfl⟩
theorem x_j13Y {g : gG} {d : Nat} {T : mT} {n : Nat} {I : mI} {J : mJ} {F : mF} {k s : Nat} {a b : Int} (hAk : AkS T F k) (h1 : I k 1 = nI (s + 2)) (hs : s + 2 ≤ 64) (hA : J (k + 1) s = lI a) (hB : J (k + 1) (s + 1) = lI b) (ha : Bd a) (hb : Bd b) (h0 : a = b) : Ct g mX0_joinLastTwo (d + 2) [.ref k, .int 13] 0 0 T n I J F (fun r' T' n' I' J' F' => r' = some (.int 1) ∧ T' = T ∧ n' = n ∧ I' = up2 (up2 I k 1 (nI s)) k 2 1 ∧ J' = J ∧ F' = F) := by
  refine Ct.ofV (k := 4) (by decide) (Nat.le_of_ble_eq_true rfl) ?_
  show V g mX0_joinLastTwo (d + 2) _ 0 0 0 [some (.ref k), some (.int 13), none, none, none, none] [] T n I J F
  have e0 : (0 : Int64) = lI 0 := rfl
  refine V.aload_n (pc := 0) dX0_joinLastTwo_0 rfl ?_
  refine V.getI (pc := 1) dX0_joinLastTwo_1 fX0_15_0 rfl hAk.o ?_
  rw [h1]
  refine V.iconst (v := 2) (pc := 4) dX0_joinLastTwo_4 (by decide) ?_
  refine V.icmp_lt 20 (pc := 5) dX0_joinLastTwo_5 (by decide) (fun h5 => absurd h5 (by rw [lt32, nI_toInt (by omega)]; show ¬ _ < (2 : Int); omega)) (fun h5 => ?_)
  refine V.aload_n (pc := 8) dX0_joinLastTwo_8 rfl ?_
  refine V.getI (pc := 9) dX0_joinLastTwo_9 fX0_15_0 rfl hAk.o ?_
  rw [h1]
  refine V.aload_n (pc := 12) dX0_joinLastTwo_12 rfl ?_
  refine V.getR (pc := 13) dX0_joinLastTwo_13 fX0_9_0 rfl hAk.o hAk.f0 ?_
  refine V.alen (pc := 16) dX0_joinLastTwo_16 hAk.t0 ty_l (by rfl) ?_
  refine V.icmp_le 22 (pc := 17) dX0_joinLastTwo_17 (by decide) (fun h17 => ?_) (fun h17 => absurd (by rw [le32, nI_toInt (by omega)]; show _ ≤ (64 : Int); omega) h17)
  refine V.aload_n (pc := 22) dX0_joinLastTwo_22 rfl ?_
  refine V.getR (pc := 23) dX0_joinLastTwo_23 fX0_9_0 rfl hAk.o hAk.f0 ?_
  refine V.aload_n (pc := 26) dX0_joinLastTwo_26 rfl ?_
  refine V.getI (pc := 27) dX0_joinLastTwo_27 fX0_15_0 rfl hAk.o ?_
  rw [h1]
  refine V.iconst (v := 2) (pc := 30) dX0_joinLastTwo_30 (by decide) ?_
  refine V.isub (pc := 31) dX0_joinLastTwo_31 ?_
  rw [nI_p2]
  refine V.lald' (k := s) (pc := 32) dX0_joinLastTwo_32 hAk.t0 rfl (by omega) (by decide) ?_
  rw [hA]
  refine V.lsn (pc := 33) dX0_joinLastTwo_33 (by decide) (st2_2 rfl) ?_
  refine V.aload_n (pc := 34) dX0_joinLastTwo_34 rfl ?_
  refine V.getR (pc := 35) dX0_joinLastTwo_35 fX0_9_0 rfl hAk.o hAk.f0 ?_
  refine V.aload_n (pc := 38) dX0_joinLastTwo_38 rfl ?_
  refine V.getI (pc := 39) dX0_joinLastTwo_39 fX0_15_0 rfl hAk.o ?_
  rw [h1]
  refine V.iconst (v := 1) (pc := 42) dX0_joinLastTwo_42 (by decide) ?_
  refine V.isub (pc := 43) dX0_joinLastTwo_43 ?_
  rw [nI_pred]
  refine V.lald' (k := s + 1) (pc := 44) dX0_joinLastTwo_44 hAk.t0 rfl (by omega) (by decide) ?_
  rw [hB]
  refine V.ls (pc := 45) dX0_joinLastTwo_45 (by decide) (st2_4 rfl) ?_
  refine V.aload_n (pc := 47) dX0_joinLastTwo_47 rfl ?_
  refine V.dup (pc := 48) dX0_joinLastTwo_48 rfl ?_
  refine V.getI (pc := 49) dX0_joinLastTwo_49 fX0_15_0 rfl hAk.o ?_
  rw [h1]
  refine V.iconst (v := 2) (pc := 52) dX0_joinLastTwo_52 (by decide) ?_
  refine V.isub (pc := 53) dX0_joinLastTwo_53 ?_
  rw [nI_p2]
  refine V.putI (pc := 54) dX0_joinLastTwo_54 fX0_15_0 (fun r h => by cases h; exact Or.inl rfl) rfl hAk.o ?_
  refine V.iload_n (pc := 57) dX0_joinLastTwo_57 rfl ?_
  refine V.tIn 140 (pc := 58) dX0_joinLastTwo_58 (by decide) (by decide) (off := 82) (by decide) (by decide) ?_
  refine V.aload_n (pc := 140) dX0_joinLastTwo_140 rfl ?_
  refine V.lload_n (pc := 141) dX0_joinLastTwo_141 rfl ?_
  refine V.lload (pc := 142) dX0_joinLastTwo_142 rfl ?_
  refine V.lcmp_ne 152 (pc := 144) dX0_joinLastTwo_144 dX0_joinLastTwo_145 (by decide) (fun h144 => absurd (by rw [h0]) h144) (fun h144 => ?_)
  refine V.iconst (v := 1) (pc := 148) dX0_joinLastTwo_148 (by decide) ?_
  refine V.goto 153 (pc := 149) dX0_joinLastTwo_149 (by decide) ?_
  refine V.putZ (pc := 153) dX0_joinLastTwo_153 fX0_19_0 (fun r h => by cases h; exact Or.inl rfl) rfl (by first | exact Or.inl rfl | exact Or.inr rfl | assumption) hAk.o ?_
  refine V.iconst (v := 1) (pc := 156) dX0_joinLastTwo_156 (by decide) ?_
  exact V.zret (pc := 157) dX0_joinLastTwo_157 rfl (by first | exact Or.inl rfl | exact Or.inr rfl | exact bi_or | assumption) ⟨rfl, rfl, rfl, rfl, rfl, rfl⟩
theorem x_j13N {g : gG} {d : Nat} {T : mT} {n : Nat} {I : mI} {J : mJ} {F : mF} {k s : Nat} {a b : Int} (hAk : AkS T F k) (h1 : I k 1 = nI (s + 2)) (hs : s + 2 ≤ 64) (hA : J (k + 1) s = lI a) (hB : J (k + 1) (s + 1) = lI b) (ha : Bd a) (hb : Bd b) (h0 : ¬ (a = b)) : Ct g mX0_joinLastTwo (d + 2) [.ref k, .int 13] 0 0 T n I J F (fun r' T' n' I' J' F' => r' = some (.int 1) ∧ T' = T ∧ n' = n ∧ I' = up2 (up2 I k 1 (nI s)) k 2 0 ∧ J' = J ∧ F' = F) := by
  refine Ct.ofV (k := 4) (by decide) (Nat.le_of_ble_eq_true rfl) ?_
  show V g mX0_joinLastTwo (d + 2) _ 0 0 0 [some (.ref k), some (.int 13), none, none, none, none] [] T n I J F
  have e0 : (0 : Int64) = lI 0 := rfl
  refine V.aload_n (pc := 0) dX0_joinLastTwo_0 rfl ?_
  refine V.getI (pc := 1) dX0_joinLastTwo_1 fX0_15_0 rfl hAk.o ?_
  rw [h1]
  refine V.iconst (v := 2) (pc := 4) dX0_joinLastTwo_4 (by decide) ?_
  refine V.icmp_lt 20 (pc := 5) dX0_joinLastTwo_5 (by decide) (fun h5 => absurd h5 (by rw [lt32, nI_toInt (by omega)]; show ¬ _ < (2 : Int); omega)) (fun h5 => ?_)
  refine V.aload_n (pc := 8) dX0_joinLastTwo_8 rfl ?_
  refine V.getI (pc := 9) dX0_joinLastTwo_9 fX0_15_0 rfl hAk.o ?_
  rw [h1]
  refine V.aload_n (pc := 12) dX0_joinLastTwo_12 rfl ?_
  refine V.getR (pc := 13) dX0_joinLastTwo_13 fX0_9_0 rfl hAk.o hAk.f0 ?_
  refine V.alen (pc := 16) dX0_joinLastTwo_16 hAk.t0 ty_l (by rfl) ?_
  refine V.icmp_le 22 (pc := 17) dX0_joinLastTwo_17 (by decide) (fun h17 => ?_) (fun h17 => absurd (by rw [le32, nI_toInt (by omega)]; show _ ≤ (64 : Int); omega) h17)
  refine V.aload_n (pc := 22) dX0_joinLastTwo_22 rfl ?_
  refine V.getR (pc := 23) dX0_joinLastTwo_23 fX0_9_0 rfl hAk.o hAk.f0 ?_
  refine V.aload_n (pc := 26) dX0_joinLastTwo_26 rfl ?_
  refine V.getI (pc := 27) dX0_joinLastTwo_27 fX0_15_0 rfl hAk.o ?_
  rw [h1]
  refine V.iconst (v := 2) (pc := 30) dX0_joinLastTwo_30 (by decide) ?_
  refine V.isub (pc := 31) dX0_joinLastTwo_31 ?_
  rw [nI_p2]
  refine V.lald' (k := s) (pc := 32) dX0_joinLastTwo_32 hAk.t0 rfl (by omega) (by decide) ?_
  rw [hA]
  refine V.lsn (pc := 33) dX0_joinLastTwo_33 (by decide) (st2_2 rfl) ?_
  refine V.aload_n (pc := 34) dX0_joinLastTwo_34 rfl ?_
  refine V.getR (pc := 35) dX0_joinLastTwo_35 fX0_9_0 rfl hAk.o hAk.f0 ?_
  refine V.aload_n (pc := 38) dX0_joinLastTwo_38 rfl ?_
  refine V.getI (pc := 39) dX0_joinLastTwo_39 fX0_15_0 rfl hAk.o ?_
  rw [h1]
  refine V.iconst (v := 1) (pc := 42) dX0_joinLastTwo_42 (by decide) ?_
  refine V.isub (pc := 43) dX0_joinLastTwo_43 ?_
  rw [nI_pred]
  refine V.lald' (k := s + 1) (pc := 44) dX0_joinLastTwo_44 hAk.t0 rfl (by omega) (by decide) ?_
  rw [hB]
  refine V.ls (pc := 45) dX0_joinLastTwo_45 (by decide) (st2_4 rfl) ?_
  refine V.aload_n (pc := 47) dX0_joinLastTwo_47 rfl ?_
  refine V.dup (pc := 48) dX0_joinLastTwo_48 rfl ?_
  refine V.getI (pc := 49) dX0_joinLastTwo_49 fX0_15_0 rfl hAk.o ?_
  rw [h1]
  refine V.iconst (v := 2) (pc := 52) dX0_joinLastTwo_52 (by decide) ?_
  refine V.isub (pc := 53) dX0_joinLastTwo_53 ?_
  rw [nI_p2]
  refine V.putI (pc := 54) dX0_joinLastTwo_54 fX0_15_0 (fun r h => by cases h; exact Or.inl rfl) rfl hAk.o ?_
  refine V.iload_n (pc := 57) dX0_joinLastTwo_57 rfl ?_
  refine V.tIn 140 (pc := 58) dX0_joinLastTwo_58 (by decide) (by decide) (off := 82) (by decide) (by decide) ?_
  refine V.aload_n (pc := 140) dX0_joinLastTwo_140 rfl ?_
  refine V.lload_n (pc := 141) dX0_joinLastTwo_141 rfl ?_
  refine V.lload (pc := 142) dX0_joinLastTwo_142 rfl ?_
  refine V.lcmp_ne 152 (pc := 144) dX0_joinLastTwo_144 dX0_joinLastTwo_145 (by decide) (fun h144 => ?_) (fun h144 => absurd ((lI_eq ha hb).mp h144) h0)
  refine V.iconst (v := 0) (pc := 152) dX0_joinLastTwo_152 (by decide) ?_
  refine V.putZ (pc := 153) dX0_joinLastTwo_153 fX0_19_0 (fun r h => by cases h; exact Or.inl rfl) rfl (by first | exact Or.inl rfl | exact Or.inr rfl | assumption) hAk.o ?_
  refine V.iconst (v := 1) (pc := 156) dX0_joinLastTwo_156 (by decide) ?_
  exact V.zret (pc := 157) dX0_joinLastTwo_157 rfl (by first | exact Or.inl rfl | exact Or.inr rfl | exact bi_or | assumption) ⟨rfl, rfl, rfl, rfl, rfl, rfl⟩
theorem x_j6Y {g : gG} {d : Nat} {T : mT} {n : Nat} {I : mI} {J : mJ} {F : mF} {k s : Nat} {a b : Int} (hAk : AkS T F k) (h1 : I k 1 = nI (s + 2)) (hs : s + 2 ≤ 64) (hA : J (k + 1) s = lI a) (hB : J (k + 1) (s + 1) = lI b) (ha : Bd a) (hb : Bd b) (hr : (-1000000000 ≤ rkZ 19 a b ∧ rkZ 19 a b ≤ 1000000000)) : Ct g mX0_joinLastTwo (d + 2) [.ref k, .int 6] 0 0 T n I J F (fun r' T' n' I' J' F' => r' = some (.int 1) ∧ T' = T ∧ n' = n ∧ I' = up2 (up2 I k 1 (nI s)) k 1 (nI (s + 1)) ∧ J' = up2 J (k + 1) s (lI (rkZ 19 a b)) ∧ F' = F) := by
  refine Ct.ofV (k := 4) (by decide) (Nat.le_of_ble_eq_true rfl) ?_
  show V g mX0_joinLastTwo (d + 2) _ 0 0 0 [some (.ref k), some (.int 6), none, none, none, none] [] T n I J F
  have e0 : (0 : Int64) = lI 0 := rfl
  refine V.aload_n (pc := 0) dX0_joinLastTwo_0 rfl ?_
  refine V.getI (pc := 1) dX0_joinLastTwo_1 fX0_15_0 rfl hAk.o ?_
  rw [h1]
  refine V.iconst (v := 2) (pc := 4) dX0_joinLastTwo_4 (by decide) ?_
  refine V.icmp_lt 20 (pc := 5) dX0_joinLastTwo_5 (by decide) (fun h5 => absurd h5 (by rw [lt32, nI_toInt (by omega)]; show ¬ _ < (2 : Int); omega)) (fun h5 => ?_)
  refine V.aload_n (pc := 8) dX0_joinLastTwo_8 rfl ?_
  refine V.getI (pc := 9) dX0_joinLastTwo_9 fX0_15_0 rfl hAk.o ?_
  rw [h1]
  refine V.aload_n (pc := 12) dX0_joinLastTwo_12 rfl ?_
  refine V.getR (pc := 13) dX0_joinLastTwo_13 fX0_9_0 rfl hAk.o hAk.f0 ?_
  refine V.alen (pc := 16) dX0_joinLastTwo_16 hAk.t0 ty_l (by rfl) ?_
  refine V.icmp_le 22 (pc := 17) dX0_joinLastTwo_17 (by decide) (fun h17 => ?_) (fun h17 => absurd (by rw [le32, nI_toInt (by omega)]; show _ ≤ (64 : Int); omega) h17)
  refine V.aload_n (pc := 22) dX0_joinLastTwo_22 rfl ?_
  refine V.getR (pc := 23) dX0_joinLastTwo_23 fX0_9_0 rfl hAk.o hAk.f0 ?_
  refine V.aload_n (pc := 26) dX0_joinLastTwo_26 rfl ?_
  refine V.getI (pc := 27) dX0_joinLastTwo_27 fX0_15_0 rfl hAk.o ?_
  rw [h1]
  refine V.iconst (v := 2) (pc := 30) dX0_joinLastTwo_30 (by decide) ?_
  refine V.isub (pc := 31) dX0_joinLastTwo_31 ?_
  rw [nI_p2]
  refine V.lald' (k := s) (pc := 32) dX0_joinLastTwo_32 hAk.t0 rfl (by omega) (by decide) ?_
  rw [hA]
  refine V.lsn (pc := 33) dX0_joinLastTwo_33 (by decide) (st2_2 rfl) ?_
  refine V.aload_n (pc := 34) dX0_joinLastTwo_34 rfl ?_
  refine V.getR (pc := 35) dX0_joinLastTwo_35 fX0_9_0 rfl hAk.o hAk.f0 ?_
  refine V.aload_n (pc := 38) dX0_joinLastTwo_38 rfl ?_
  refine V.getI (pc := 39) dX0_joinLastTwo_39 fX0_15_0 rfl hAk.o ?_
  rw [h1]
  refine V.iconst (v := 1) (pc := 42) dX0_joinLastTwo_42 (by decide) ?_
  refine V.isub (pc := 43) dX0_joinLastTwo_43 ?_
  rw [nI_pred]
  refine V.lald' (k := s + 1) (pc := 44) dX0_joinLastTwo_44 hAk.t0 rfl (by omega) (by decide) ?_
  rw [hB]
  refine V.ls (pc := 45) dX0_joinLastTwo_45 (by decide) (st2_4 rfl) ?_
  refine V.aload_n (pc := 47) dX0_joinLastTwo_47 rfl ?_
  refine V.dup (pc := 48) dX0_joinLastTwo_48 rfl ?_
  refine V.getI (pc := 49) dX0_joinLastTwo_49 fX0_15_0 rfl hAk.o ?_
  rw [h1]
  refine V.iconst (v := 2) (pc := 52) dX0_joinLastTwo_52 (by decide) ?_
  refine V.isub (pc := 53) dX0_joinLastTwo_53 ?_
  rw [nI_p2]
  refine V.putI (pc := 54) dX0_joinLastTwo_54 fX0_15_0 (fun r h => by cases h; exact Or.inl rfl) rfl hAk.o ?_
  refine V.iload_n (pc := 57) dX0_joinLastTwo_57 rfl ?_
  refine V.tIn 158 (pc := 58) dX0_joinLastTwo_58 (by decide) (by decide) (off := 100) (by decide) (by decide) ?_
  refine V.aload_n (pc := 158) dX0_joinLastTwo_158 rfl ?_
  refine V.lload_n (pc := 159) dX0_joinLastTwo_159 rfl ?_
  refine V.lload (pc := 160) dX0_joinLastTwo_160 rfl ?_
  refine V.ladd (pc := 162) dX0_joinLastTwo_162 ?_
  rw [lI_add, show a + b = rkZ 19 a b from rfl]
  refine V.invV0 (as := [_]) (pc := 163) dX0_joinLastTwo_163 lX0_80 bX0_openSum nX0_openSum (ci := 0) rfl eX0_openSum hAk.o (x_sumY (d := d + 0) (s := s) (z := rkZ 19 a b) hAk up2_same (by omega) (rkZ_bd ha hb) hr) (by omega) rfl (Nat.le_of_ble_eq_true rfl) ?_
  rintro _ _ _ _ _ _ ⟨rfl, rfl, rfl, rfl, rfl, rfl⟩
  exact V.zret (pc := 166) dX0_joinLastTwo_166 rfl (by first | exact Or.inl rfl | exact Or.inr rfl | exact bi_or | assumption) ⟨rfl, rfl, rfl, rfl, rfl, rfl⟩
theorem x_j6N {g : gG} {d : Nat} {T : mT} {n : Nat} {I : mI} {J : mJ} {F : mF} {k s : Nat} {a b : Int} (hAk : AkS T F k) (h1 : I k 1 = nI (s + 2)) (hs : s + 2 ≤ 64) (hA : J (k + 1) s = lI a) (hB : J (k + 1) (s + 1) = lI b) (ha : Bd a) (hb : Bd b) (hr : ¬ (-1000000000 ≤ rkZ 19 a b ∧ rkZ 19 a b ≤ 1000000000)) : Ct g mX0_joinLastTwo (d + 2) [.ref k, .int 6] 0 0 T n I J F (fun r' T' n' I' J' F' => r' = some (.int 0) ∧ T' = T ∧ n' = n ∧ I' = (up2 I k 1 (nI s)) ∧ J' = J ∧ F' = F) := by
  refine Ct.ofV (k := 4) (by decide) (Nat.le_of_ble_eq_true rfl) ?_
  show V g mX0_joinLastTwo (d + 2) _ 0 0 0 [some (.ref k), some (.int 6), none, none, none, none] [] T n I J F
  have e0 : (0 : Int64) = lI 0 := rfl
  refine V.aload_n (pc := 0) dX0_joinLastTwo_0 rfl ?_
  refine V.getI (pc := 1) dX0_joinLastTwo_1 fX0_15_0 rfl hAk.o ?_
  rw [h1]
  refine V.iconst (v := 2) (pc := 4) dX0_joinLastTwo_4 (by decide) ?_
  refine V.icmp_lt 20 (pc := 5) dX0_joinLastTwo_5 (by decide) (fun h5 => absurd h5 (by rw [lt32, nI_toInt (by omega)]; show ¬ _ < (2 : Int); omega)) (fun h5 => ?_)
  refine V.aload_n (pc := 8) dX0_joinLastTwo_8 rfl ?_
  refine V.getI (pc := 9) dX0_joinLastTwo_9 fX0_15_0 rfl hAk.o ?_
  rw [h1]
  refine V.aload_n (pc := 12) dX0_joinLastTwo_12 rfl ?_
  refine V.getR (pc := 13) dX0_joinLastTwo_13 fX0_9_0 rfl hAk.o hAk.f0 ?_
  refine V.alen (pc := 16) dX0_joinLastTwo_16 hAk.t0 ty_l (by rfl) ?_
  refine V.icmp_le 22 (pc := 17) dX0_joinLastTwo_17 (by decide) (fun h17 => ?_) (fun h17 => absurd (by rw [le32, nI_toInt (by omega)]; show _ ≤ (64 : Int); omega) h17)
  refine V.aload_n (pc := 22) dX0_joinLastTwo_22 rfl ?_
  refine V.getR (pc := 23) dX0_joinLastTwo_23 fX0_9_0 rfl hAk.o hAk.f0 ?_
  refine V.aload_n (pc := 26) dX0_joinLastTwo_26 rfl ?_
  refine V.getI (pc := 27) dX0_joinLastTwo_27 fX0_15_0 rfl hAk.o ?_
  rw [h1]
  refine V.iconst (v := 2) (pc := 30) dX0_joinLastTwo_30 (by decide) ?_
  refine V.isub (pc := 31) dX0_joinLastTwo_31 ?_
  rw [nI_p2]
  refine V.lald' (k := s) (pc := 32) dX0_joinLastTwo_32 hAk.t0 rfl (by omega) (by decide) ?_
  rw [hA]
  refine V.lsn (pc := 33) dX0_joinLastTwo_33 (by decide) (st2_2 rfl) ?_
  refine V.aload_n (pc := 34) dX0_joinLastTwo_34 rfl ?_
  refine V.getR (pc := 35) dX0_joinLastTwo_35 fX0_9_0 rfl hAk.o hAk.f0 ?_
  refine V.aload_n (pc := 38) dX0_joinLastTwo_38 rfl ?_
  refine V.getI (pc := 39) dX0_joinLastTwo_39 fX0_15_0 rfl hAk.o ?_
  rw [h1]
  refine V.iconst (v := 1) (pc := 42) dX0_joinLastTwo_42 (by decide) ?_
  refine V.isub (pc := 43) dX0_joinLastTwo_43 ?_
  rw [nI_pred]
  refine V.lald' (k := s + 1) (pc := 44) dX0_joinLastTwo_44 hAk.t0 rfl (by omega) (by decide) ?_
  rw [hB]
  refine V.ls (pc := 45) dX0_joinLastTwo_45 (by decide) (st2_4 rfl) ?_
  refine V.aload_n (pc := 47) dX0_joinLastTwo_47 rfl ?_
  refine V.dup (pc := 48) dX0_joinLastTwo_48 rfl ?_
  refine V.getI (pc := 49) dX0_joinLastTwo_49 fX0_15_0 rfl hAk.o ?_
  rw [h1]
  refine V.iconst (v := 2) (pc := 52) dX0_joinLastTwo_52 (by decide) ?_
  refine V.isub (pc := 53) dX0_joinLastTwo_53 ?_
  rw [nI_p2]
  refine V.putI (pc := 54) dX0_joinLastTwo_54 fX0_15_0 (fun r h => by cases h; exact Or.inl rfl) rfl hAk.o ?_
  refine V.iload_n (pc := 57) dX0_joinLastTwo_57 rfl ?_
  refine V.tIn 158 (pc := 58) dX0_joinLastTwo_58 (by decide) (by decide) (off := 100) (by decide) (by decide) ?_
  refine V.aload_n (pc := 158) dX0_joinLastTwo_158 rfl ?_
  refine V.lload_n (pc := 159) dX0_joinLastTwo_159 rfl ?_
  refine V.lload (pc := 160) dX0_joinLastTwo_160 rfl ?_
  refine V.ladd (pc := 162) dX0_joinLastTwo_162 ?_
  rw [lI_add, show a + b = rkZ 19 a b from rfl]
  refine V.invV0 (as := [_]) (pc := 163) dX0_joinLastTwo_163 lX0_80 bX0_openSum nX0_openSum (ci := 0) rfl eX0_openSum hAk.o (x_sumN (d := d + 0) (z := rkZ 19 a b) hAk (rkZ_bd ha hb) hr) (by omega) rfl (Nat.le_of_ble_eq_true rfl) ?_
  rintro _ _ _ _ _ _ ⟨rfl, rfl, rfl, rfl, rfl, rfl⟩
  exact V.zret (pc := 166) dX0_joinLastTwo_166 rfl (by first | exact Or.inl rfl | exact Or.inr rfl | exact bi_or | assumption) ⟨rfl, rfl, rfl, rfl, rfl, rfl⟩
theorem x_j7Y {g : gG} {d : Nat} {T : mT} {n : Nat} {I : mI} {J : mJ} {F : mF} {k s : Nat} {a b : Int} (hAk : AkS T F k) (h1 : I k 1 = nI (s + 2)) (hs : s + 2 ≤ 64) (hA : J (k + 1) s = lI a) (hB : J (k + 1) (s + 1) = lI b) (ha : Bd a) (hb : Bd b) (hr : (-1000000000 ≤ rkZ 20 a b ∧ rkZ 20 a b ≤ 1000000000)) : Ct g mX0_joinLastTwo (d + 2) [.ref k, .int 7] 0 0 T n I J F (fun r' T' n' I' J' F' => r' = some (.int 1) ∧ T' = T ∧ n' = n ∧ I' = up2 (up2 I k 1 (nI s)) k 1 (nI (s + 1)) ∧ J' = up2 J (k + 1) s (lI (rkZ 20 a b)) ∧ F' = F) := by
  refine Ct.ofV (k := 4) (by decide) (Nat.le_of_ble_eq_true rfl) ?_
  show V g mX0_joinLastTwo (d + 2) _ 0 0 0 [some (.ref k), some (.int 7), none, none, none, none] [] T n I J F
  have e0 : (0 : Int64) = lI 0 := rfl
  refine V.aload_n (pc := 0) dX0_joinLastTwo_0 rfl ?_
  refine V.getI (pc := 1) dX0_joinLastTwo_1 fX0_15_0 rfl hAk.o ?_
  rw [h1]
  refine V.iconst (v := 2) (pc := 4) dX0_joinLastTwo_4 (by decide) ?_
  refine V.icmp_lt 20 (pc := 5) dX0_joinLastTwo_5 (by decide) (fun h5 => absurd h5 (by rw [lt32, nI_toInt (by omega)]; show ¬ _ < (2 : Int); omega)) (fun h5 => ?_)
  refine V.aload_n (pc := 8) dX0_joinLastTwo_8 rfl ?_
  refine V.getI (pc := 9) dX0_joinLastTwo_9 fX0_15_0 rfl hAk.o ?_
  rw [h1]
  refine V.aload_n (pc := 12) dX0_joinLastTwo_12 rfl ?_
  refine V.getR (pc := 13) dX0_joinLastTwo_13 fX0_9_0 rfl hAk.o hAk.f0 ?_
  refine V.alen (pc := 16) dX0_joinLastTwo_16 hAk.t0 ty_l (by rfl) ?_
  refine V.icmp_le 22 (pc := 17) dX0_joinLastTwo_17 (by decide) (fun h17 => ?_) (fun h17 => absurd (by rw [le32, nI_toInt (by omega)]; show _ ≤ (64 : Int); omega) h17)
  refine V.aload_n (pc := 22) dX0_joinLastTwo_22 rfl ?_
  refine V.getR (pc := 23) dX0_joinLastTwo_23 fX0_9_0 rfl hAk.o hAk.f0 ?_
  refine V.aload_n (pc := 26) dX0_joinLastTwo_26 rfl ?_
  refine V.getI (pc := 27) dX0_joinLastTwo_27 fX0_15_0 rfl hAk.o ?_
  rw [h1]
  refine V.iconst (v := 2) (pc := 30) dX0_joinLastTwo_30 (by decide) ?_
  refine V.isub (pc := 31) dX0_joinLastTwo_31 ?_
  rw [nI_p2]
  refine V.lald' (k := s) (pc := 32) dX0_joinLastTwo_32 hAk.t0 rfl (by omega) (by decide) ?_
  rw [hA]
  refine V.lsn (pc := 33) dX0_joinLastTwo_33 (by decide) (st2_2 rfl) ?_
  refine V.aload_n (pc := 34) dX0_joinLastTwo_34 rfl ?_
  refine V.getR (pc := 35) dX0_joinLastTwo_35 fX0_9_0 rfl hAk.o hAk.f0 ?_
  refine V.aload_n (pc := 38) dX0_joinLastTwo_38 rfl ?_
  refine V.getI (pc := 39) dX0_joinLastTwo_39 fX0_15_0 rfl hAk.o ?_
  rw [h1]
  refine V.iconst (v := 1) (pc := 42) dX0_joinLastTwo_42 (by decide) ?_
  refine V.isub (pc := 43) dX0_joinLastTwo_43 ?_
  rw [nI_pred]
  refine V.lald' (k := s + 1) (pc := 44) dX0_joinLastTwo_44 hAk.t0 rfl (by omega) (by decide) ?_
  rw [hB]
  refine V.ls (pc := 45) dX0_joinLastTwo_45 (by decide) (st2_4 rfl) ?_
  refine V.aload_n (pc := 47) dX0_joinLastTwo_47 rfl ?_
  refine V.dup (pc := 48) dX0_joinLastTwo_48 rfl ?_
  refine V.getI (pc := 49) dX0_joinLastTwo_49 fX0_15_0 rfl hAk.o ?_
  rw [h1]
  refine V.iconst (v := 2) (pc := 52) dX0_joinLastTwo_52 (by decide) ?_
  refine V.isub (pc := 53) dX0_joinLastTwo_53 ?_
  rw [nI_p2]
  refine V.putI (pc := 54) dX0_joinLastTwo_54 fX0_15_0 (fun r h => by cases h; exact Or.inl rfl) rfl hAk.o ?_
  refine V.iload_n (pc := 57) dX0_joinLastTwo_57 rfl ?_
  refine V.tIn 167 (pc := 58) dX0_joinLastTwo_58 (by decide) (by decide) (off := 109) (by decide) (by decide) ?_
  refine V.aload_n (pc := 167) dX0_joinLastTwo_167 rfl ?_
  refine V.lload_n (pc := 168) dX0_joinLastTwo_168 rfl ?_
  refine V.lload (pc := 169) dX0_joinLastTwo_169 rfl ?_
  refine V.lsub (pc := 171) dX0_joinLastTwo_171 ?_
  rw [lI_sub, show a - b = rkZ 20 a b from rfl]
  refine V.invV0 (as := [_]) (pc := 172) dX0_joinLastTwo_172 lX0_80 bX0_openSum nX0_openSum (ci := 0) rfl eX0_openSum hAk.o (x_sumY (d := d + 0) (s := s) (z := rkZ 20 a b) hAk up2_same (by omega) (rkZ_bd ha hb) hr) (by omega) rfl (Nat.le_of_ble_eq_true rfl) ?_
  rintro _ _ _ _ _ _ ⟨rfl, rfl, rfl, rfl, rfl, rfl⟩
  exact V.zret (pc := 175) dX0_joinLastTwo_175 rfl (by first | exact Or.inl rfl | exact Or.inr rfl | exact bi_or | assumption) ⟨rfl, rfl, rfl, rfl, rfl, rfl⟩
theorem x_j7N {g : gG} {d : Nat} {T : mT} {n : Nat} {I : mI} {J : mJ} {F : mF} {k s : Nat} {a b : Int} (hAk : AkS T F k) (h1 : I k 1 = nI (s + 2)) (hs : s + 2 ≤ 64) (hA : J (k + 1) s = lI a) (hB : J (k + 1) (s + 1) = lI b) (ha : Bd a) (hb : Bd b) (hr : ¬ (-1000000000 ≤ rkZ 20 a b ∧ rkZ 20 a b ≤ 1000000000)) : Ct g mX0_joinLastTwo (d + 2) [.ref k, .int 7] 0 0 T n I J F (fun r' T' n' I' J' F' => r' = some (.int 0) ∧ T' = T ∧ n' = n ∧ I' = (up2 I k 1 (nI s)) ∧ J' = J ∧ F' = F) := by
  refine Ct.ofV (k := 4) (by decide) (Nat.le_of_ble_eq_true rfl) ?_
  show V g mX0_joinLastTwo (d + 2) _ 0 0 0 [some (.ref k), some (.int 7), none, none, none, none] [] T n I J F
  have e0 : (0 : Int64) = lI 0 := rfl
  refine V.aload_n (pc := 0) dX0_joinLastTwo_0 rfl ?_
  refine V.getI (pc := 1) dX0_joinLastTwo_1 fX0_15_0 rfl hAk.o ?_
  rw [h1]
  refine V.iconst (v := 2) (pc := 4) dX0_joinLastTwo_4 (by decide) ?_
  refine V.icmp_lt 20 (pc := 5) dX0_joinLastTwo_5 (by decide) (fun h5 => absurd h5 (by rw [lt32, nI_toInt (by omega)]; show ¬ _ < (2 : Int); omega)) (fun h5 => ?_)
  refine V.aload_n (pc := 8) dX0_joinLastTwo_8 rfl ?_
  refine V.getI (pc := 9) dX0_joinLastTwo_9 fX0_15_0 rfl hAk.o ?_
  rw [h1]
  refine V.aload_n (pc := 12) dX0_joinLastTwo_12 rfl ?_
  refine V.getR (pc := 13) dX0_joinLastTwo_13 fX0_9_0 rfl hAk.o hAk.f0 ?_
  refine V.alen (pc := 16) dX0_joinLastTwo_16 hAk.t0 ty_l (by rfl) ?_
  refine V.icmp_le 22 (pc := 17) dX0_joinLastTwo_17 (by decide) (fun h17 => ?_) (fun h17 => absurd (by rw [le32, nI_toInt (by omega)]; show _ ≤ (64 : Int); omega) h17)
  refine V.aload_n (pc := 22) dX0_joinLastTwo_22 rfl ?_
  refine V.getR (pc := 23) dX0_joinLastTwo_23 fX0_9_0 rfl hAk.o hAk.f0 ?_
  refine V.aload_n (pc := 26) dX0_joinLastTwo_26 rfl ?_
  refine V.getI (pc := 27) dX0_joinLastTwo_27 fX0_15_0 rfl hAk.o ?_
  rw [h1]
  refine V.iconst (v := 2) (pc := 30) dX0_joinLastTwo_30 (by decide) ?_
  refine V.isub (pc := 31) dX0_joinLastTwo_31 ?_
  rw [nI_p2]
  refine V.lald' (k := s) (pc := 32) dX0_joinLastTwo_32 hAk.t0 rfl (by omega) (by decide) ?_
  rw [hA]
  refine V.lsn (pc := 33) dX0_joinLastTwo_33 (by decide) (st2_2 rfl) ?_
  refine V.aload_n (pc := 34) dX0_joinLastTwo_34 rfl ?_
  refine V.getR (pc := 35) dX0_joinLastTwo_35 fX0_9_0 rfl hAk.o hAk.f0 ?_
  refine V.aload_n (pc := 38) dX0_joinLastTwo_38 rfl ?_
  refine V.getI (pc := 39) dX0_joinLastTwo_39 fX0_15_0 rfl hAk.o ?_
  rw [h1]
  refine V.iconst (v := 1) (pc := 42) dX0_joinLastTwo_42 (by decide) ?_
  refine V.isub (pc := 43) dX0_joinLastTwo_43 ?_
  rw [nI_pred]
  refine V.lald' (k := s + 1) (pc := 44) dX0_joinLastTwo_44 hAk.t0 rfl (by omega) (by decide) ?_
  rw [hB]
  refine V.ls (pc := 45) dX0_joinLastTwo_45 (by decide) (st2_4 rfl) ?_
  refine V.aload_n (pc := 47) dX0_joinLastTwo_47 rfl ?_
  refine V.dup (pc := 48) dX0_joinLastTwo_48 rfl ?_
  refine V.getI (pc := 49) dX0_joinLastTwo_49 fX0_15_0 rfl hAk.o ?_
  rw [h1]
  refine V.iconst (v := 2) (pc := 52) dX0_joinLastTwo_52 (by decide) ?_
  refine V.isub (pc := 53) dX0_joinLastTwo_53 ?_
  rw [nI_p2]
  refine V.putI (pc := 54) dX0_joinLastTwo_54 fX0_15_0 (fun r h => by cases h; exact Or.inl rfl) rfl hAk.o ?_
  refine V.iload_n (pc := 57) dX0_joinLastTwo_57 rfl ?_
  refine V.tIn 167 (pc := 58) dX0_joinLastTwo_58 (by decide) (by decide) (off := 109) (by decide) (by decide) ?_
  refine V.aload_n (pc := 167) dX0_joinLastTwo_167 rfl ?_
  refine V.lload_n (pc := 168) dX0_joinLastTwo_168 rfl ?_
  refine V.lload (pc := 169) dX0_joinLastTwo_169 rfl ?_
  refine V.lsub (pc := 171) dX0_joinLastTwo_171 ?_
  rw [lI_sub, show a - b = rkZ 20 a b from rfl]
  refine V.invV0 (as := [_]) (pc := 172) dX0_joinLastTwo_172 lX0_80 bX0_openSum nX0_openSum (ci := 0) rfl eX0_openSum hAk.o (x_sumN (d := d + 0) (z := rkZ 20 a b) hAk (rkZ_bd ha hb) hr) (by omega) rfl (Nat.le_of_ble_eq_true rfl) ?_
  rintro _ _ _ _ _ _ ⟨rfl, rfl, rfl, rfl, rfl, rfl⟩
  exact V.zret (pc := 175) dX0_joinLastTwo_175 rfl (by first | exact Or.inl rfl | exact Or.inr rfl | exact bi_or | assumption) ⟨rfl, rfl, rfl, rfl, rfl, rfl⟩
theorem x_j8Y {g : gG} {d : Nat} {T : mT} {n : Nat} {I : mI} {J : mJ} {F : mF} {k s : Nat} {a b : Int} (hAk : AkS T F k) (h1 : I k 1 = nI (s + 2)) (hs : s + 2 ≤ 64) (hA : J (k + 1) s = lI a) (hB : J (k + 1) (s + 1) = lI b) (ha : Bd a) (hb : Bd b) (hr : (-1000000000 ≤ rkZ 21 a b ∧ rkZ 21 a b ≤ 1000000000)) : Ct g mX0_joinLastTwo (d + 2) [.ref k, .int 8] 0 0 T n I J F (fun r' T' n' I' J' F' => r' = some (.int 1) ∧ T' = T ∧ n' = n ∧ I' = up2 (up2 I k 1 (nI s)) k 1 (nI (s + 1)) ∧ J' = up2 J (k + 1) s (lI (rkZ 21 a b)) ∧ F' = F) := by
  refine Ct.ofV (k := 4) (by decide) (Nat.le_of_ble_eq_true rfl) ?_
  show V g mX0_joinLastTwo (d + 2) _ 0 0 0 [some (.ref k), some (.int 8), none, none, none, none] [] T n I J F
  have e0 : (0 : Int64) = lI 0 := rfl
  refine V.aload_n (pc := 0) dX0_joinLastTwo_0 rfl ?_
  refine V.getI (pc := 1) dX0_joinLastTwo_1 fX0_15_0 rfl hAk.o ?_
  rw [h1]
  refine V.iconst (v := 2) (pc := 4) dX0_joinLastTwo_4 (by decide) ?_
  refine V.icmp_lt 20 (pc := 5) dX0_joinLastTwo_5 (by decide) (fun h5 => absurd h5 (by rw [lt32, nI_toInt (by omega)]; show ¬ _ < (2 : Int); omega)) (fun h5 => ?_)
  refine V.aload_n (pc := 8) dX0_joinLastTwo_8 rfl ?_
  refine V.getI (pc := 9) dX0_joinLastTwo_9 fX0_15_0 rfl hAk.o ?_
  rw [h1]
  refine V.aload_n (pc := 12) dX0_joinLastTwo_12 rfl ?_
  refine V.getR (pc := 13) dX0_joinLastTwo_13 fX0_9_0 rfl hAk.o hAk.f0 ?_
  refine V.alen (pc := 16) dX0_joinLastTwo_16 hAk.t0 ty_l (by rfl) ?_
  refine V.icmp_le 22 (pc := 17) dX0_joinLastTwo_17 (by decide) (fun h17 => ?_) (fun h17 => absurd (by rw [le32, nI_toInt (by omega)]; show _ ≤ (64 : Int); omega) h17)
  refine V.aload_n (pc := 22) dX0_joinLastTwo_22 rfl ?_
  refine V.getR (pc := 23) dX0_joinLastTwo_23 fX0_9_0 rfl hAk.o hAk.f0 ?_
  refine V.aload_n (pc := 26) dX0_joinLastTwo_26 rfl ?_
  refine V.getI (pc := 27) dX0_joinLastTwo_27 fX0_15_0 rfl hAk.o ?_
  rw [h1]
  refine V.iconst (v := 2) (pc := 30) dX0_joinLastTwo_30 (by decide) ?_
  refine V.isub (pc := 31) dX0_joinLastTwo_31 ?_
  rw [nI_p2]
  refine V.lald' (k := s) (pc := 32) dX0_joinLastTwo_32 hAk.t0 rfl (by omega) (by decide) ?_
  rw [hA]
  refine V.lsn (pc := 33) dX0_joinLastTwo_33 (by decide) (st2_2 rfl) ?_
  refine V.aload_n (pc := 34) dX0_joinLastTwo_34 rfl ?_
  refine V.getR (pc := 35) dX0_joinLastTwo_35 fX0_9_0 rfl hAk.o hAk.f0 ?_
  refine V.aload_n (pc := 38) dX0_joinLastTwo_38 rfl ?_
  refine V.getI (pc := 39) dX0_joinLastTwo_39 fX0_15_0 rfl hAk.o ?_
  rw [h1]
  refine V.iconst (v := 1) (pc := 42) dX0_joinLastTwo_42 (by decide) ?_
  refine V.isub (pc := 43) dX0_joinLastTwo_43 ?_
  rw [nI_pred]
  refine V.lald' (k := s + 1) (pc := 44) dX0_joinLastTwo_44 hAk.t0 rfl (by omega) (by decide) ?_
  rw [hB]
  refine V.ls (pc := 45) dX0_joinLastTwo_45 (by decide) (st2_4 rfl) ?_
  refine V.aload_n (pc := 47) dX0_joinLastTwo_47 rfl ?_
  refine V.dup (pc := 48) dX0_joinLastTwo_48 rfl ?_
  refine V.getI (pc := 49) dX0_joinLastTwo_49 fX0_15_0 rfl hAk.o ?_
  rw [h1]
  refine V.iconst (v := 2) (pc := 52) dX0_joinLastTwo_52 (by decide) ?_
  refine V.isub (pc := 53) dX0_joinLastTwo_53 ?_
  rw [nI_p2]
  refine V.putI (pc := 54) dX0_joinLastTwo_54 fX0_15_0 (fun r h => by cases h; exact Or.inl rfl) rfl hAk.o ?_
  refine V.iload_n (pc := 57) dX0_joinLastTwo_57 rfl ?_
  refine V.tIn 176 (pc := 58) dX0_joinLastTwo_58 (by decide) (by decide) (off := 118) (by decide) (by decide) ?_
  refine V.aload_n (pc := 176) dX0_joinLastTwo_176 rfl ?_
  refine V.lload_n (pc := 177) dX0_joinLastTwo_177 rfl ?_
  refine V.lload (pc := 178) dX0_joinLastTwo_178 rfl ?_
  refine V.lmul (pc := 180) dX0_joinLastTwo_180 ?_
  rw [lI_mul, show a * b = rkZ 21 a b from rfl]
  refine V.invV0 (as := [_]) (pc := 181) dX0_joinLastTwo_181 lX0_80 bX0_openSum nX0_openSum (ci := 0) rfl eX0_openSum hAk.o (x_sumY (d := d + 0) (s := s) (z := rkZ 21 a b) hAk up2_same (by omega) (rkZ_bd ha hb) hr) (by omega) rfl (Nat.le_of_ble_eq_true rfl) ?_
  rintro _ _ _ _ _ _ ⟨rfl, rfl, rfl, rfl, rfl, rfl⟩
  exact V.zret (pc := 184) dX0_joinLastTwo_184 rfl (by first | exact Or.inl rfl | exact Or.inr rfl | exact bi_or | assumption) ⟨rfl, rfl, rfl, rfl, rfl, rfl⟩
theorem x_j8N {g : gG} {d : Nat} {T : mT} {n : Nat} {I : mI} {J : mJ} {F : mF} {k s : Nat} {a b : Int} (hAk : AkS T F k) (h1 : I k 1 = nI (s + 2)) (hs : s + 2 ≤ 64) (hA : J (k + 1) s = lI a) (hB : J (k + 1) (s + 1) = lI b) (ha : Bd a) (hb : Bd b) (hr : ¬ (-1000000000 ≤ rkZ 21 a b ∧ rkZ 21 a b ≤ 1000000000)) : Ct g mX0_joinLastTwo (d + 2) [.ref k, .int 8] 0 0 T n I J F (fun r' T' n' I' J' F' => r' = some (.int 0) ∧ T' = T ∧ n' = n ∧ I' = (up2 I k 1 (nI s)) ∧ J' = J ∧ F' = F) := by
  refine Ct.ofV (k := 4) (by decide) (Nat.le_of_ble_eq_true rfl) ?_
  show V g mX0_joinLastTwo (d + 2) _ 0 0 0 [some (.ref k), some (.int 8), none, none, none, none] [] T n I J F
  have e0 : (0 : Int64) = lI 0 := rfl
  refine V.aload_n (pc := 0) dX0_joinLastTwo_0 rfl ?_
  refine V.getI (pc := 1) dX0_joinLastTwo_1 fX0_15_0 rfl hAk.o ?_
  rw [h1]
  refine V.iconst (v := 2) (pc := 4) dX0_joinLastTwo_4 (by decide) ?_
  refine V.icmp_lt 20 (pc := 5) dX0_joinLastTwo_5 (by decide) (fun h5 => absurd h5 (by rw [lt32, nI_toInt (by omega)]; show ¬ _ < (2 : Int); omega)) (fun h5 => ?_)
  refine V.aload_n (pc := 8) dX0_joinLastTwo_8 rfl ?_
  refine V.getI (pc := 9) dX0_joinLastTwo_9 fX0_15_0 rfl hAk.o ?_
  rw [h1]
  refine V.aload_n (pc := 12) dX0_joinLastTwo_12 rfl ?_
  refine V.getR (pc := 13) dX0_joinLastTwo_13 fX0_9_0 rfl hAk.o hAk.f0 ?_
  refine V.alen (pc := 16) dX0_joinLastTwo_16 hAk.t0 ty_l (by rfl) ?_
  refine V.icmp_le 22 (pc := 17) dX0_joinLastTwo_17 (by decide) (fun h17 => ?_) (fun h17 => absurd (by rw [le32, nI_toInt (by omega)]; show _ ≤ (64 : Int); omega) h17)
  refine V.aload_n (pc := 22) dX0_joinLastTwo_22 rfl ?_
  refine V.getR (pc := 23) dX0_joinLastTwo_23 fX0_9_0 rfl hAk.o hAk.f0 ?_
  refine V.aload_n (pc := 26) dX0_joinLastTwo_26 rfl ?_
  refine V.getI (pc := 27) dX0_joinLastTwo_27 fX0_15_0 rfl hAk.o ?_
  rw [h1]
  refine V.iconst (v := 2) (pc := 30) dX0_joinLastTwo_30 (by decide) ?_
  refine V.isub (pc := 31) dX0_joinLastTwo_31 ?_
  rw [nI_p2]
  refine V.lald' (k := s) (pc := 32) dX0_joinLastTwo_32 hAk.t0 rfl (by omega) (by decide) ?_
  rw [hA]
  refine V.lsn (pc := 33) dX0_joinLastTwo_33 (by decide) (st2_2 rfl) ?_
  refine V.aload_n (pc := 34) dX0_joinLastTwo_34 rfl ?_
  refine V.getR (pc := 35) dX0_joinLastTwo_35 fX0_9_0 rfl hAk.o hAk.f0 ?_
  refine V.aload_n (pc := 38) dX0_joinLastTwo_38 rfl ?_
  refine V.getI (pc := 39) dX0_joinLastTwo_39 fX0_15_0 rfl hAk.o ?_
  rw [h1]
  refine V.iconst (v := 1) (pc := 42) dX0_joinLastTwo_42 (by decide) ?_
  refine V.isub (pc := 43) dX0_joinLastTwo_43 ?_
  rw [nI_pred]
  refine V.lald' (k := s + 1) (pc := 44) dX0_joinLastTwo_44 hAk.t0 rfl (by omega) (by decide) ?_
  rw [hB]
  refine V.ls (pc := 45) dX0_joinLastTwo_45 (by decide) (st2_4 rfl) ?_
  refine V.aload_n (pc := 47) dX0_joinLastTwo_47 rfl ?_
  refine V.dup (pc := 48) dX0_joinLastTwo_48 rfl ?_
  refine V.getI (pc := 49) dX0_joinLastTwo_49 fX0_15_0 rfl hAk.o ?_
  rw [h1]
  refine V.iconst (v := 2) (pc := 52) dX0_joinLastTwo_52 (by decide) ?_
  refine V.isub (pc := 53) dX0_joinLastTwo_53 ?_
  rw [nI_p2]
  refine V.putI (pc := 54) dX0_joinLastTwo_54 fX0_15_0 (fun r h => by cases h; exact Or.inl rfl) rfl hAk.o ?_
  refine V.iload_n (pc := 57) dX0_joinLastTwo_57 rfl ?_
  refine V.tIn 176 (pc := 58) dX0_joinLastTwo_58 (by decide) (by decide) (off := 118) (by decide) (by decide) ?_
  refine V.aload_n (pc := 176) dX0_joinLastTwo_176 rfl ?_
  refine V.lload_n (pc := 177) dX0_joinLastTwo_177 rfl ?_
  refine V.lload (pc := 178) dX0_joinLastTwo_178 rfl ?_
  refine V.lmul (pc := 180) dX0_joinLastTwo_180 ?_
  rw [lI_mul, show a * b = rkZ 21 a b from rfl]
  refine V.invV0 (as := [_]) (pc := 181) dX0_joinLastTwo_181 lX0_80 bX0_openSum nX0_openSum (ci := 0) rfl eX0_openSum hAk.o (x_sumN (d := d + 0) (z := rkZ 21 a b) hAk (rkZ_bd ha hb) hr) (by omega) rfl (Nat.le_of_ble_eq_true rfl) ?_
  rintro _ _ _ _ _ _ ⟨rfl, rfl, rfl, rfl, rfl, rfl⟩
  exact V.zret (pc := 184) dX0_joinLastTwo_184 rfl (by first | exact Or.inl rfl | exact Or.inr rfl | exact bi_or | assumption) ⟨rfl, rfl, rfl, rfl, rfl, rfl⟩
theorem x_j9Y {g : gG} {d : Nat} {T : mT} {n : Nat} {I : mI} {J : mJ} {F : mF} {k s : Nat} {a b : Int} (hAk : AkS T F k) (h1 : I k 1 = nI (s + 2)) (hs : s + 2 ≤ 64) (hA : J (k + 1) s = lI a) (hB : J (k + 1) (s + 1) = lI b) (ha : Bd a) (hb : Bd b) (h0 : ¬ b = 0) (hr : (-1000000000 ≤ rkZ 23 a b ∧ rkZ 23 a b ≤ 1000000000)) : Ct g mX0_joinLastTwo (d + 2) [.ref k, .int 9] 0 0 T n I J F (fun r' T' n' I' J' F' => r' = some (.int 1) ∧ T' = T ∧ n' = n ∧ I' = up2 (up2 I k 1 (nI s)) k 1 (nI (s + 1)) ∧ J' = up2 J (k + 1) s (lI (rkZ 23 a b)) ∧ F' = F) := by
  refine Ct.ofV (k := 4) (by decide) (Nat.le_of_ble_eq_true rfl) ?_
  show V g mX0_joinLastTwo (d + 2) _ 0 0 0 [some (.ref k), some (.int 9), none, none, none, none] [] T n I J F
  have e0 : (0 : Int64) = lI 0 := rfl
  refine V.aload_n (pc := 0) dX0_joinLastTwo_0 rfl ?_
  refine V.getI (pc := 1) dX0_joinLastTwo_1 fX0_15_0 rfl hAk.o ?_
  rw [h1]
  refine V.iconst (v := 2) (pc := 4) dX0_joinLastTwo_4 (by decide) ?_
  refine V.icmp_lt 20 (pc := 5) dX0_joinLastTwo_5 (by decide) (fun h5 => absurd h5 (by rw [lt32, nI_toInt (by omega)]; show ¬ _ < (2 : Int); omega)) (fun h5 => ?_)
  refine V.aload_n (pc := 8) dX0_joinLastTwo_8 rfl ?_
  refine V.getI (pc := 9) dX0_joinLastTwo_9 fX0_15_0 rfl hAk.o ?_
  rw [h1]
  refine V.aload_n (pc := 12) dX0_joinLastTwo_12 rfl ?_
  refine V.getR (pc := 13) dX0_joinLastTwo_13 fX0_9_0 rfl hAk.o hAk.f0 ?_
  refine V.alen (pc := 16) dX0_joinLastTwo_16 hAk.t0 ty_l (by rfl) ?_
  refine V.icmp_le 22 (pc := 17) dX0_joinLastTwo_17 (by decide) (fun h17 => ?_) (fun h17 => absurd (by rw [le32, nI_toInt (by omega)]; show _ ≤ (64 : Int); omega) h17)
  refine V.aload_n (pc := 22) dX0_joinLastTwo_22 rfl ?_
  refine V.getR (pc := 23) dX0_joinLastTwo_23 fX0_9_0 rfl hAk.o hAk.f0 ?_
  refine V.aload_n (pc := 26) dX0_joinLastTwo_26 rfl ?_
  refine V.getI (pc := 27) dX0_joinLastTwo_27 fX0_15_0 rfl hAk.o ?_
  rw [h1]
  refine V.iconst (v := 2) (pc := 30) dX0_joinLastTwo_30 (by decide) ?_
  refine V.isub (pc := 31) dX0_joinLastTwo_31 ?_
  rw [nI_p2]
  refine V.lald' (k := s) (pc := 32) dX0_joinLastTwo_32 hAk.t0 rfl (by omega) (by decide) ?_
  rw [hA]
  refine V.lsn (pc := 33) dX0_joinLastTwo_33 (by decide) (st2_2 rfl) ?_
  refine V.aload_n (pc := 34) dX0_joinLastTwo_34 rfl ?_
  refine V.getR (pc := 35) dX0_joinLastTwo_35 fX0_9_0 rfl hAk.o hAk.f0 ?_
  refine V.aload_n (pc := 38) dX0_joinLastTwo_38 rfl ?_
  refine V.getI (pc := 39) dX0_joinLastTwo_39 fX0_15_0 rfl hAk.o ?_
  rw [h1]
  refine V.iconst (v := 1) (pc := 42) dX0_joinLastTwo_42 (by decide) ?_
  refine V.isub (pc := 43) dX0_joinLastTwo_43 ?_
  rw [nI_pred]
  refine V.lald' (k := s + 1) (pc := 44) dX0_joinLastTwo_44 hAk.t0 rfl (by omega) (by decide) ?_
  rw [hB]
  refine V.ls (pc := 45) dX0_joinLastTwo_45 (by decide) (st2_4 rfl) ?_
  refine V.aload_n (pc := 47) dX0_joinLastTwo_47 rfl ?_
  refine V.dup (pc := 48) dX0_joinLastTwo_48 rfl ?_
  refine V.getI (pc := 49) dX0_joinLastTwo_49 fX0_15_0 rfl hAk.o ?_
  rw [h1]
  refine V.iconst (v := 2) (pc := 52) dX0_joinLastTwo_52 (by decide) ?_
  refine V.isub (pc := 53) dX0_joinLastTwo_53 ?_
  rw [nI_p2]
  refine V.putI (pc := 54) dX0_joinLastTwo_54 fX0_15_0 (fun r h => by cases h; exact Or.inl rfl) rfl hAk.o ?_
  refine V.iload_n (pc := 57) dX0_joinLastTwo_57 rfl ?_
  refine V.tIn 185 (pc := 58) dX0_joinLastTwo_58 (by decide) (by decide) (off := 127) (by decide) (by decide) ?_
  refine V.lload (pc := 185) dX0_joinLastTwo_185 rfl ?_
  refine V.lconst (v := 0) (pc := 187) dX0_joinLastTwo_187 (by decide) ?_
  refine V.lcmp_eq 207 (pc := 188) dX0_joinLastTwo_188 dX0_joinLastTwo_189 (by decide) (fun h188 => absurd ((lI_eq hb Bd.z).mp h188) h0) (fun h188 => ?_)
  refine V.aload_n (pc := 192) dX0_joinLastTwo_192 rfl ?_
  refine V.lload_n (pc := 193) dX0_joinLastTwo_193 rfl ?_
  refine V.lload (pc := 194) dX0_joinLastTwo_194 rfl ?_
  refine V.ldiv (pc := 196) dX0_joinLastTwo_196 (fun z => h0 ((lI_eq hb Bd.z).mp z)) ?_
  rw [lI_div ha hb, show a.tdiv b = rkZ 23 a b from (if_neg h0).symm]
  refine V.invV0 (as := [_]) (pc := 197) dX0_joinLastTwo_197 lX0_80 bX0_openSum nX0_openSum (ci := 0) rfl eX0_openSum hAk.o (x_sumY (d := d + 0) (s := s) (z := rkZ 23 a b) hAk up2_same (by omega) (rkZ_bd ha hb) hr) (by omega) rfl (Nat.le_of_ble_eq_true rfl) ?_
  rintro _ _ _ _ _ _ ⟨rfl, rfl, rfl, rfl, rfl, rfl⟩
  refine V.if_eq 207 (pc := 200) dX0_joinLastTwo_200 (by decide) (fun h200 => absurd h200 (by decide)) (fun h200 => ?_)
  refine V.iconst (v := 1) (pc := 203) dX0_joinLastTwo_203 (by decide) ?_
  refine V.goto 208 (pc := 204) dX0_joinLastTwo_204 (by decide) ?_
  exact V.zret (pc := 208) dX0_joinLastTwo_208 rfl (by first | exact Or.inl rfl | exact Or.inr rfl | exact bi_or | assumption) ⟨rfl, rfl, rfl, rfl, rfl, rfl⟩
theorem x_j9N {g : gG} {d : Nat} {T : mT} {n : Nat} {I : mI} {J : mJ} {F : mF} {k s : Nat} {a b : Int} (hAk : AkS T F k) (h1 : I k 1 = nI (s + 2)) (hs : s + 2 ≤ 64) (hA : J (k + 1) s = lI a) (hB : J (k + 1) (s + 1) = lI b) (ha : Bd a) (hb : Bd b) (h0 : ¬ b = 0) (hr : ¬ (-1000000000 ≤ rkZ 23 a b ∧ rkZ 23 a b ≤ 1000000000)) : Ct g mX0_joinLastTwo (d + 2) [.ref k, .int 9] 0 0 T n I J F (fun r' T' n' I' J' F' => r' = some (.int 0) ∧ T' = T ∧ n' = n ∧ I' = (up2 I k 1 (nI s)) ∧ J' = J ∧ F' = F) := by
  refine Ct.ofV (k := 4) (by decide) (Nat.le_of_ble_eq_true rfl) ?_
  show V g mX0_joinLastTwo (d + 2) _ 0 0 0 [some (.ref k), some (.int 9), none, none, none, none] [] T n I J F
  have e0 : (0 : Int64) = lI 0 := rfl
  refine V.aload_n (pc := 0) dX0_joinLastTwo_0 rfl ?_
  refine V.getI (pc := 1) dX0_joinLastTwo_1 fX0_15_0 rfl hAk.o ?_
  rw [h1]
  refine V.iconst (v := 2) (pc := 4) dX0_joinLastTwo_4 (by decide) ?_
  refine V.icmp_lt 20 (pc := 5) dX0_joinLastTwo_5 (by decide) (fun h5 => absurd h5 (by rw [lt32, nI_toInt (by omega)]; show ¬ _ < (2 : Int); omega)) (fun h5 => ?_)
  refine V.aload_n (pc := 8) dX0_joinLastTwo_8 rfl ?_
  refine V.getI (pc := 9) dX0_joinLastTwo_9 fX0_15_0 rfl hAk.o ?_
  rw [h1]
  refine V.aload_n (pc := 12) dX0_joinLastTwo_12 rfl ?_
  refine V.getR (pc := 13) dX0_joinLastTwo_13 fX0_9_0 rfl hAk.o hAk.f0 ?_
  refine V.alen (pc := 16) dX0_joinLastTwo_16 hAk.t0 ty_l (by rfl) ?_
  refine V.icmp_le 22 (pc := 17) dX0_joinLastTwo_17 (by decide) (fun h17 => ?_) (fun h17 => absurd (by rw [le32, nI_toInt (by omega)]; show _ ≤ (64 : Int); omega) h17)
  refine V.aload_n (pc := 22) dX0_joinLastTwo_22 rfl ?_
  refine V.getR (pc := 23) dX0_joinLastTwo_23 fX0_9_0 rfl hAk.o hAk.f0 ?_
  refine V.aload_n (pc := 26) dX0_joinLastTwo_26 rfl ?_
  refine V.getI (pc := 27) dX0_joinLastTwo_27 fX0_15_0 rfl hAk.o ?_
  rw [h1]
  refine V.iconst (v := 2) (pc := 30) dX0_joinLastTwo_30 (by decide) ?_
  refine V.isub (pc := 31) dX0_joinLastTwo_31 ?_
  rw [nI_p2]
  refine V.lald' (k := s) (pc := 32) dX0_joinLastTwo_32 hAk.t0 rfl (by omega) (by decide) ?_
  rw [hA]
  refine V.lsn (pc := 33) dX0_joinLastTwo_33 (by decide) (st2_2 rfl) ?_
  refine V.aload_n (pc := 34) dX0_joinLastTwo_34 rfl ?_
  refine V.getR (pc := 35) dX0_joinLastTwo_35 fX0_9_0 rfl hAk.o hAk.f0 ?_
  refine V.aload_n (pc := 38) dX0_joinLastTwo_38 rfl ?_
  refine V.getI (pc := 39) dX0_joinLastTwo_39 fX0_15_0 rfl hAk.o ?_
  rw [h1]
  refine V.iconst (v := 1) (pc := 42) dX0_joinLastTwo_42 (by decide) ?_
  refine V.isub (pc := 43) dX0_joinLastTwo_43 ?_
  rw [nI_pred]
  refine V.lald' (k := s + 1) (pc := 44) dX0_joinLastTwo_44 hAk.t0 rfl (by omega) (by decide) ?_
  rw [hB]
  refine V.ls (pc := 45) dX0_joinLastTwo_45 (by decide) (st2_4 rfl) ?_
  refine V.aload_n (pc := 47) dX0_joinLastTwo_47 rfl ?_
  refine V.dup (pc := 48) dX0_joinLastTwo_48 rfl ?_
  refine V.getI (pc := 49) dX0_joinLastTwo_49 fX0_15_0 rfl hAk.o ?_
  rw [h1]
  refine V.iconst (v := 2) (pc := 52) dX0_joinLastTwo_52 (by decide) ?_
  refine V.isub (pc := 53) dX0_joinLastTwo_53 ?_
  rw [nI_p2]
  refine V.putI (pc := 54) dX0_joinLastTwo_54 fX0_15_0 (fun r h => by cases h; exact Or.inl rfl) rfl hAk.o ?_
  refine V.iload_n (pc := 57) dX0_joinLastTwo_57 rfl ?_
  refine V.tIn 185 (pc := 58) dX0_joinLastTwo_58 (by decide) (by decide) (off := 127) (by decide) (by decide) ?_
  refine V.lload (pc := 185) dX0_joinLastTwo_185 rfl ?_
  refine V.lconst (v := 0) (pc := 187) dX0_joinLastTwo_187 (by decide) ?_
  refine V.lcmp_eq 207 (pc := 188) dX0_joinLastTwo_188 dX0_joinLastTwo_189 (by decide) (fun h188 => absurd ((lI_eq hb Bd.z).mp h188) h0) (fun h188 => ?_)
  refine V.aload_n (pc := 192) dX0_joinLastTwo_192 rfl ?_
  refine V.lload_n (pc := 193) dX0_joinLastTwo_193 rfl ?_
  refine V.lload (pc := 194) dX0_joinLastTwo_194 rfl ?_
  refine V.ldiv (pc := 196) dX0_joinLastTwo_196 (fun z => h0 ((lI_eq hb Bd.z).mp z)) ?_
  rw [lI_div ha hb, show a.tdiv b = rkZ 23 a b from (if_neg h0).symm]
  refine V.invV0 (as := [_]) (pc := 197) dX0_joinLastTwo_197 lX0_80 bX0_openSum nX0_openSum (ci := 0) rfl eX0_openSum hAk.o (x_sumN (d := d + 0) (z := rkZ 23 a b) hAk (rkZ_bd ha hb) hr) (by omega) rfl (Nat.le_of_ble_eq_true rfl) ?_
  rintro _ _ _ _ _ _ ⟨rfl, rfl, rfl, rfl, rfl, rfl⟩
  refine V.if_eq 207 (pc := 200) dX0_joinLastTwo_200 (by decide) (fun h200 => ?_) (fun h200 => absurd rfl h200)
  refine V.iconst (v := 0) (pc := 207) dX0_joinLastTwo_207 (by decide) ?_
  exact V.zret (pc := 208) dX0_joinLastTwo_208 rfl (by first | exact Or.inl rfl | exact Or.inr rfl | exact bi_or | assumption) ⟨rfl, rfl, rfl, rfl, rfl, rfl⟩
theorem x_j9Z {g : gG} {d : Nat} {T : mT} {n : Nat} {I : mI} {J : mJ} {F : mF} {k s : Nat} {a b : Int} (hAk : AkS T F k) (h1 : I k 1 = nI (s + 2)) (hs : s + 2 ≤ 64) (hA : J (k + 1) s = lI a) (hB : J (k + 1) (s + 1) = lI b) (ha : Bd a) (hb : Bd b) (h0 : b = 0) : Ct g mX0_joinLastTwo (d + 2) [.ref k, .int 9] 0 0 T n I J F (fun r' T' n' I' J' F' => r' = some (.int 0) ∧ T' = T ∧ n' = n ∧ I' = (up2 I k 1 (nI s)) ∧ J' = J ∧ F' = F) := by
  refine Ct.ofV (k := 4) (by decide) (Nat.le_of_ble_eq_true rfl) ?_
  show V g mX0_joinLastTwo (d + 2) _ 0 0 0 [some (.ref k), some (.int 9), none, none, none, none] [] T n I J F
  have e0 : (0 : Int64) = lI 0 := rfl
  refine V.aload_n (pc := 0) dX0_joinLastTwo_0 rfl ?_
  refine V.getI (pc := 1) dX0_joinLastTwo_1 fX0_15_0 rfl hAk.o ?_
  rw [h1]
  refine V.iconst (v := 2) (pc := 4) dX0_joinLastTwo_4 (by decide) ?_
  refine V.icmp_lt 20 (pc := 5) dX0_joinLastTwo_5 (by decide) (fun h5 => absurd h5 (by rw [lt32, nI_toInt (by omega)]; show ¬ _ < (2 : Int); omega)) (fun h5 => ?_)
  refine V.aload_n (pc := 8) dX0_joinLastTwo_8 rfl ?_
  refine V.getI (pc := 9) dX0_joinLastTwo_9 fX0_15_0 rfl hAk.o ?_
  rw [h1]
  refine V.aload_n (pc := 12) dX0_joinLastTwo_12 rfl ?_
  refine V.getR (pc := 13) dX0_joinLastTwo_13 fX0_9_0 rfl hAk.o hAk.f0 ?_
  refine V.alen (pc := 16) dX0_joinLastTwo_16 hAk.t0 ty_l (by rfl) ?_
  refine V.icmp_le 22 (pc := 17) dX0_joinLastTwo_17 (by decide) (fun h17 => ?_) (fun h17 => absurd (by rw [le32, nI_toInt (by omega)]; show _ ≤ (64 : Int); omega) h17)
  refine V.aload_n (pc := 22) dX0_joinLastTwo_22 rfl ?_
  refine V.getR (pc := 23) dX0_joinLastTwo_23 fX0_9_0 rfl hAk.o hAk.f0 ?_
  refine V.aload_n (pc := 26) dX0_joinLastTwo_26 rfl ?_
  refine V.getI (pc := 27) dX0_joinLastTwo_27 fX0_15_0 rfl hAk.o ?_
  rw [h1]
  refine V.iconst (v := 2) (pc := 30) dX0_joinLastTwo_30 (by decide) ?_
  refine V.isub (pc := 31) dX0_joinLastTwo_31 ?_
  rw [nI_p2]
  refine V.lald' (k := s) (pc := 32) dX0_joinLastTwo_32 hAk.t0 rfl (by omega) (by decide) ?_
  rw [hA]
  refine V.lsn (pc := 33) dX0_joinLastTwo_33 (by decide) (st2_2 rfl) ?_
  refine V.aload_n (pc := 34) dX0_joinLastTwo_34 rfl ?_
  refine V.getR (pc := 35) dX0_joinLastTwo_35 fX0_9_0 rfl hAk.o hAk.f0 ?_
  refine V.aload_n (pc := 38) dX0_joinLastTwo_38 rfl ?_
  refine V.getI (pc := 39) dX0_joinLastTwo_39 fX0_15_0 rfl hAk.o ?_
  rw [h1]
  refine V.iconst (v := 1) (pc := 42) dX0_joinLastTwo_42 (by decide) ?_
  refine V.isub (pc := 43) dX0_joinLastTwo_43 ?_
  rw [nI_pred]
  refine V.lald' (k := s + 1) (pc := 44) dX0_joinLastTwo_44 hAk.t0 rfl (by omega) (by decide) ?_
  rw [hB]
  refine V.ls (pc := 45) dX0_joinLastTwo_45 (by decide) (st2_4 rfl) ?_
  refine V.aload_n (pc := 47) dX0_joinLastTwo_47 rfl ?_
  refine V.dup (pc := 48) dX0_joinLastTwo_48 rfl ?_
  refine V.getI (pc := 49) dX0_joinLastTwo_49 fX0_15_0 rfl hAk.o ?_
  rw [h1]
  refine V.iconst (v := 2) (pc := 52) dX0_joinLastTwo_52 (by decide) ?_
  refine V.isub (pc := 53) dX0_joinLastTwo_53 ?_
  rw [nI_p2]
  refine V.putI (pc := 54) dX0_joinLastTwo_54 fX0_15_0 (fun r h => by cases h; exact Or.inl rfl) rfl hAk.o ?_
  refine V.iload_n (pc := 57) dX0_joinLastTwo_57 rfl ?_
  refine V.tIn 185 (pc := 58) dX0_joinLastTwo_58 (by decide) (by decide) (off := 127) (by decide) (by decide) ?_
  refine V.lload (pc := 185) dX0_joinLastTwo_185 rfl ?_
  refine V.lconst (v := 0) (pc := 187) dX0_joinLastTwo_187 (by decide) ?_
  refine V.lcmp_eq 207 (pc := 188) dX0_joinLastTwo_188 dX0_joinLastTwo_189 (by decide) (fun h188 => ?_) (fun h188 => absurd (by rw [h0]; rfl) h188)
  refine V.iconst (v := 0) (pc := 207) dX0_joinLastTwo_207 (by decide) ?_
  exact V.zret (pc := 208) dX0_joinLastTwo_208 rfl (by first | exact Or.inl rfl | exact Or.inr rfl | exact bi_or | assumption) ⟨rfl, rfl, rfl, rfl, rfl, rfl⟩
theorem x_j10Y {g : gG} {d : Nat} {T : mT} {n : Nat} {I : mI} {J : mJ} {F : mF} {k s : Nat} {a b : Int} (hAk : AkS T F k) (h1 : I k 1 = nI (s + 2)) (hs : s + 2 ≤ 64) (hA : J (k + 1) s = lI a) (hB : J (k + 1) (s + 1) = lI b) (ha : Bd a) (hb : Bd b) (h0 : ¬ b = 0) (hr : (-1000000000 ≤ rkZ 22 a b ∧ rkZ 22 a b ≤ 1000000000)) : Ct g mX0_joinLastTwo (d + 2) [.ref k, .int 10] 0 0 T n I J F (fun r' T' n' I' J' F' => r' = some (.int 1) ∧ T' = T ∧ n' = n ∧ I' = up2 (up2 I k 1 (nI s)) k 1 (nI (s + 1)) ∧ J' = up2 J (k + 1) s (lI (rkZ 22 a b)) ∧ F' = F) := by
  refine Ct.ofV (k := 4) (by decide) (Nat.le_of_ble_eq_true rfl) ?_
  show V g mX0_joinLastTwo (d + 2) _ 0 0 0 [some (.ref k), some (.int 10), none, none, none, none] [] T n I J F
  have e0 : (0 : Int64) = lI 0 := rfl
  refine V.aload_n (pc := 0) dX0_joinLastTwo_0 rfl ?_
  refine V.getI (pc := 1) dX0_joinLastTwo_1 fX0_15_0 rfl hAk.o ?_
  rw [h1]
  refine V.iconst (v := 2) (pc := 4) dX0_joinLastTwo_4 (by decide) ?_
  refine V.icmp_lt 20 (pc := 5) dX0_joinLastTwo_5 (by decide) (fun h5 => absurd h5 (by rw [lt32, nI_toInt (by omega)]; show ¬ _ < (2 : Int); omega)) (fun h5 => ?_)
  refine V.aload_n (pc := 8) dX0_joinLastTwo_8 rfl ?_
  refine V.getI (pc := 9) dX0_joinLastTwo_9 fX0_15_0 rfl hAk.o ?_
  rw [h1]
  refine V.aload_n (pc := 12) dX0_joinLastTwo_12 rfl ?_
  refine V.getR (pc := 13) dX0_joinLastTwo_13 fX0_9_0 rfl hAk.o hAk.f0 ?_
  refine V.alen (pc := 16) dX0_joinLastTwo_16 hAk.t0 ty_l (by rfl) ?_
  refine V.icmp_le 22 (pc := 17) dX0_joinLastTwo_17 (by decide) (fun h17 => ?_) (fun h17 => absurd (by rw [le32, nI_toInt (by omega)]; show _ ≤ (64 : Int); omega) h17)
  refine V.aload_n (pc := 22) dX0_joinLastTwo_22 rfl ?_
  refine V.getR (pc := 23) dX0_joinLastTwo_23 fX0_9_0 rfl hAk.o hAk.f0 ?_
  refine V.aload_n (pc := 26) dX0_joinLastTwo_26 rfl ?_
  refine V.getI (pc := 27) dX0_joinLastTwo_27 fX0_15_0 rfl hAk.o ?_
  rw [h1]
  refine V.iconst (v := 2) (pc := 30) dX0_joinLastTwo_30 (by decide) ?_
  refine V.isub (pc := 31) dX0_joinLastTwo_31 ?_
  rw [nI_p2]
  refine V.lald' (k := s) (pc := 32) dX0_joinLastTwo_32 hAk.t0 rfl (by omega) (by decide) ?_
  rw [hA]
  refine V.lsn (pc := 33) dX0_joinLastTwo_33 (by decide) (st2_2 rfl) ?_
  refine V.aload_n (pc := 34) dX0_joinLastTwo_34 rfl ?_
  refine V.getR (pc := 35) dX0_joinLastTwo_35 fX0_9_0 rfl hAk.o hAk.f0 ?_
  refine V.aload_n (pc := 38) dX0_joinLastTwo_38 rfl ?_
  refine V.getI (pc := 39) dX0_joinLastTwo_39 fX0_15_0 rfl hAk.o ?_
  rw [h1]
  refine V.iconst (v := 1) (pc := 42) dX0_joinLastTwo_42 (by decide) ?_
  refine V.isub (pc := 43) dX0_joinLastTwo_43 ?_
  rw [nI_pred]
  refine V.lald' (k := s + 1) (pc := 44) dX0_joinLastTwo_44 hAk.t0 rfl (by omega) (by decide) ?_
  rw [hB]
  refine V.ls (pc := 45) dX0_joinLastTwo_45 (by decide) (st2_4 rfl) ?_
  refine V.aload_n (pc := 47) dX0_joinLastTwo_47 rfl ?_
  refine V.dup (pc := 48) dX0_joinLastTwo_48 rfl ?_
  refine V.getI (pc := 49) dX0_joinLastTwo_49 fX0_15_0 rfl hAk.o ?_
  rw [h1]
  refine V.iconst (v := 2) (pc := 52) dX0_joinLastTwo_52 (by decide) ?_
  refine V.isub (pc := 53) dX0_joinLastTwo_53 ?_
  rw [nI_p2]
  refine V.putI (pc := 54) dX0_joinLastTwo_54 fX0_15_0 (fun r h => by cases h; exact Or.inl rfl) rfl hAk.o ?_
  refine V.iload_n (pc := 57) dX0_joinLastTwo_57 rfl ?_
  refine V.tIn 209 (pc := 58) dX0_joinLastTwo_58 (by decide) (by decide) (off := 151) (by decide) (by decide) ?_
  refine V.lload (pc := 209) dX0_joinLastTwo_209 rfl ?_
  refine V.lconst (v := 0) (pc := 211) dX0_joinLastTwo_211 (by decide) ?_
  refine V.lcmp_eq 231 (pc := 212) dX0_joinLastTwo_212 dX0_joinLastTwo_213 (by decide) (fun h212 => absurd ((lI_eq hb Bd.z).mp h212) h0) (fun h212 => ?_)
  refine V.aload_n (pc := 216) dX0_joinLastTwo_216 rfl ?_
  refine V.lload_n (pc := 217) dX0_joinLastTwo_217 rfl ?_
  refine V.lload (pc := 218) dX0_joinLastTwo_218 rfl ?_
  refine V.lrem (pc := 220) dX0_joinLastTwo_220 (fun z => h0 ((lI_eq hb Bd.z).mp z)) ?_
  rw [lI_rem ha hb, show a.tmod b = rkZ 22 a b from (if_neg h0).symm]
  refine V.invV0 (as := [_]) (pc := 221) dX0_joinLastTwo_221 lX0_80 bX0_openSum nX0_openSum (ci := 0) rfl eX0_openSum hAk.o (x_sumY (d := d + 0) (s := s) (z := rkZ 22 a b) hAk up2_same (by omega) (rkZ_bd ha hb) hr) (by omega) rfl (Nat.le_of_ble_eq_true rfl) ?_
  rintro _ _ _ _ _ _ ⟨rfl, rfl, rfl, rfl, rfl, rfl⟩
  refine V.if_eq 231 (pc := 224) dX0_joinLastTwo_224 (by decide) (fun h224 => absurd h224 (by decide)) (fun h224 => ?_)
  refine V.iconst (v := 1) (pc := 227) dX0_joinLastTwo_227 (by decide) ?_
  refine V.goto 232 (pc := 228) dX0_joinLastTwo_228 (by decide) ?_
  exact V.zret (pc := 232) dX0_joinLastTwo_232 rfl (by first | exact Or.inl rfl | exact Or.inr rfl | exact bi_or | assumption) ⟨rfl, rfl, rfl, rfl, rfl, rfl⟩
theorem x_j10N {g : gG} {d : Nat} {T : mT} {n : Nat} {I : mI} {J : mJ} {F : mF} {k s : Nat} {a b : Int} (hAk : AkS T F k) (h1 : I k 1 = nI (s + 2)) (hs : s + 2 ≤ 64) (hA : J (k + 1) s = lI a) (hB : J (k + 1) (s + 1) = lI b) (ha : Bd a) (hb : Bd b) (h0 : ¬ b = 0) (hr : ¬ (-1000000000 ≤ rkZ 22 a b ∧ rkZ 22 a b ≤ 1000000000)) : Ct g mX0_joinLastTwo (d + 2) [.ref k, .int 10] 0 0 T n I J F (fun r' T' n' I' J' F' => r' = some (.int 0) ∧ T' = T ∧ n' = n ∧ I' = (up2 I k 1 (nI s)) ∧ J' = J ∧ F' = F) := by
  refine Ct.ofV (k := 4) (by decide) (Nat.le_of_ble_eq_true rfl) ?_
  show V g mX0_joinLastTwo (d + 2) _ 0 0 0 [some (.ref k), some (.int 10), none, none, none, none] [] T n I J F
  have e0 : (0 : Int64) = lI 0 := rfl
  refine V.aload_n (pc := 0) dX0_joinLastTwo_0 rfl ?_
  refine V.getI (pc := 1) dX0_joinLastTwo_1 fX0_15_0 rfl hAk.o ?_
  rw [h1]
  refine V.iconst (v := 2) (pc := 4) dX0_joinLastTwo_4 (by decide) ?_
  refine V.icmp_lt 20 (pc := 5) dX0_joinLastTwo_5 (by decide) (fun h5 => absurd h5 (by rw [lt32, nI_toInt (by omega)]; show ¬ _ < (2 : Int); omega)) (fun h5 => ?_)
  refine V.aload_n (pc := 8) dX0_joinLastTwo_8 rfl ?_
  refine V.getI (pc := 9) dX0_joinLastTwo_9 fX0_15_0 rfl hAk.o ?_
  rw [h1]
  refine V.aload_n (pc := 12) dX0_joinLastTwo_12 rfl ?_
  refine V.getR (pc := 13) dX0_joinLastTwo_13 fX0_9_0 rfl hAk.o hAk.f0 ?_
  refine V.alen (pc := 16) dX0_joinLastTwo_16 hAk.t0 ty_l (by rfl) ?_
  refine V.icmp_le 22 (pc := 17) dX0_joinLastTwo_17 (by decide) (fun h17 => ?_) (fun h17 => absurd (by rw [le32, nI_toInt (by omega)]; show _ ≤ (64 : Int); omega) h17)
  refine V.aload_n (pc := 22) dX0_joinLastTwo_22 rfl ?_
  refine V.getR (pc := 23) dX0_joinLastTwo_23 fX0_9_0 rfl hAk.o hAk.f0 ?_
  refine V.aload_n (pc := 26) dX0_joinLastTwo_26 rfl ?_
  refine V.getI (pc := 27) dX0_joinLastTwo_27 fX0_15_0 rfl hAk.o ?_
  rw [h1]
  refine V.iconst (v := 2) (pc := 30) dX0_joinLastTwo_30 (by decide) ?_
  refine V.isub (pc := 31) dX0_joinLastTwo_31 ?_
  rw [nI_p2]
  refine V.lald' (k := s) (pc := 32) dX0_joinLastTwo_32 hAk.t0 rfl (by omega) (by decide) ?_
  rw [hA]
  refine V.lsn (pc := 33) dX0_joinLastTwo_33 (by decide) (st2_2 rfl) ?_
  refine V.aload_n (pc := 34) dX0_joinLastTwo_34 rfl ?_
  refine V.getR (pc := 35) dX0_joinLastTwo_35 fX0_9_0 rfl hAk.o hAk.f0 ?_
  refine V.aload_n (pc := 38) dX0_joinLastTwo_38 rfl ?_
  refine V.getI (pc := 39) dX0_joinLastTwo_39 fX0_15_0 rfl hAk.o ?_
  rw [h1]
  refine V.iconst (v := 1) (pc := 42) dX0_joinLastTwo_42 (by decide) ?_
  refine V.isub (pc := 43) dX0_joinLastTwo_43 ?_
  rw [nI_pred]
  refine V.lald' (k := s + 1) (pc := 44) dX0_joinLastTwo_44 hAk.t0 rfl (by omega) (by decide) ?_
  rw [hB]
  refine V.ls (pc := 45) dX0_joinLastTwo_45 (by decide) (st2_4 rfl) ?_
  refine V.aload_n (pc := 47) dX0_joinLastTwo_47 rfl ?_
  refine V.dup (pc := 48) dX0_joinLastTwo_48 rfl ?_
  refine V.getI (pc := 49) dX0_joinLastTwo_49 fX0_15_0 rfl hAk.o ?_
  rw [h1]
  refine V.iconst (v := 2) (pc := 52) dX0_joinLastTwo_52 (by decide) ?_
  refine V.isub (pc := 53) dX0_joinLastTwo_53 ?_
  rw [nI_p2]
  refine V.putI (pc := 54) dX0_joinLastTwo_54 fX0_15_0 (fun r h => by cases h; exact Or.inl rfl) rfl hAk.o ?_
  refine V.iload_n (pc := 57) dX0_joinLastTwo_57 rfl ?_
  refine V.tIn 209 (pc := 58) dX0_joinLastTwo_58 (by decide) (by decide) (off := 151) (by decide) (by decide) ?_
  refine V.lload (pc := 209) dX0_joinLastTwo_209 rfl ?_
  refine V.lconst (v := 0) (pc := 211) dX0_joinLastTwo_211 (by decide) ?_
  refine V.lcmp_eq 231 (pc := 212) dX0_joinLastTwo_212 dX0_joinLastTwo_213 (by decide) (fun h212 => absurd ((lI_eq hb Bd.z).mp h212) h0) (fun h212 => ?_)
  refine V.aload_n (pc := 216) dX0_joinLastTwo_216 rfl ?_
  refine V.lload_n (pc := 217) dX0_joinLastTwo_217 rfl ?_
  refine V.lload (pc := 218) dX0_joinLastTwo_218 rfl ?_
  refine V.lrem (pc := 220) dX0_joinLastTwo_220 (fun z => h0 ((lI_eq hb Bd.z).mp z)) ?_
  rw [lI_rem ha hb, show a.tmod b = rkZ 22 a b from (if_neg h0).symm]
  refine V.invV0 (as := [_]) (pc := 221) dX0_joinLastTwo_221 lX0_80 bX0_openSum nX0_openSum (ci := 0) rfl eX0_openSum hAk.o (x_sumN (d := d + 0) (z := rkZ 22 a b) hAk (rkZ_bd ha hb) hr) (by omega) rfl (Nat.le_of_ble_eq_true rfl) ?_
  rintro _ _ _ _ _ _ ⟨rfl, rfl, rfl, rfl, rfl, rfl⟩
  refine V.if_eq 231 (pc := 224) dX0_joinLastTwo_224 (by decide) (fun h224 => ?_) (fun h224 => absurd rfl h224)
  refine V.iconst (v := 0) (pc := 231) dX0_joinLastTwo_231 (by decide) ?_
  exact V.zret (pc := 232) dX0_joinLastTwo_232 rfl (by first | exact Or.inl rfl | exact Or.inr rfl | exact bi_or | assumption) ⟨rfl, rfl, rfl, rfl, rfl, rfl⟩
theorem x_j10Z {g : gG} {d : Nat} {T : mT} {n : Nat} {I : mI} {J : mJ} {F : mF} {k s : Nat} {a b : Int} (hAk : AkS T F k) (h1 : I k 1 = nI (s + 2)) (hs : s + 2 ≤ 64) (hA : J (k + 1) s = lI a) (hB : J (k + 1) (s + 1) = lI b) (ha : Bd a) (hb : Bd b) (h0 : b = 0) : Ct g mX0_joinLastTwo (d + 2) [.ref k, .int 10] 0 0 T n I J F (fun r' T' n' I' J' F' => r' = some (.int 0) ∧ T' = T ∧ n' = n ∧ I' = (up2 I k 1 (nI s)) ∧ J' = J ∧ F' = F) := by
  refine Ct.ofV (k := 4) (by decide) (Nat.le_of_ble_eq_true rfl) ?_
  show V g mX0_joinLastTwo (d + 2) _ 0 0 0 [some (.ref k), some (.int 10), none, none, none, none] [] T n I J F
  have e0 : (0 : Int64) = lI 0 := rfl
  refine V.aload_n (pc := 0) dX0_joinLastTwo_0 rfl ?_
  refine V.getI (pc := 1) dX0_joinLastTwo_1 fX0_15_0 rfl hAk.o ?_
  rw [h1]
  refine V.iconst (v := 2) (pc := 4) dX0_joinLastTwo_4 (by decide) ?_
  refine V.icmp_lt 20 (pc := 5) dX0_joinLastTwo_5 (by decide) (fun h5 => absurd h5 (by rw [lt32, nI_toInt (by omega)]; show ¬ _ < (2 : Int); omega)) (fun h5 => ?_)
  refine V.aload_n (pc := 8) dX0_joinLastTwo_8 rfl ?_
  refine V.getI (pc := 9) dX0_joinLastTwo_9 fX0_15_0 rfl hAk.o ?_
  rw [h1]
  refine V.aload_n (pc := 12) dX0_joinLastTwo_12 rfl ?_
  refine V.getR (pc := 13) dX0_joinLastTwo_13 fX0_9_0 rfl hAk.o hAk.f0 ?_
  refine V.alen (pc := 16) dX0_joinLastTwo_16 hAk.t0 ty_l (by rfl) ?_
  refine V.icmp_le 22 (pc := 17) dX0_joinLastTwo_17 (by decide) (fun h17 => ?_) (fun h17 => absurd (by rw [le32, nI_toInt (by omega)]; show _ ≤ (64 : Int); omega) h17)
  refine V.aload_n (pc := 22) dX0_joinLastTwo_22 rfl ?_
  refine V.getR (pc := 23) dX0_joinLastTwo_23 fX0_9_0 rfl hAk.o hAk.f0 ?_
  refine V.aload_n (pc := 26) dX0_joinLastTwo_26 rfl ?_
  refine V.getI (pc := 27) dX0_joinLastTwo_27 fX0_15_0 rfl hAk.o ?_
  rw [h1]
  refine V.iconst (v := 2) (pc := 30) dX0_joinLastTwo_30 (by decide) ?_
  refine V.isub (pc := 31) dX0_joinLastTwo_31 ?_
  rw [nI_p2]
  refine V.lald' (k := s) (pc := 32) dX0_joinLastTwo_32 hAk.t0 rfl (by omega) (by decide) ?_
  rw [hA]
  refine V.lsn (pc := 33) dX0_joinLastTwo_33 (by decide) (st2_2 rfl) ?_
  refine V.aload_n (pc := 34) dX0_joinLastTwo_34 rfl ?_
  refine V.getR (pc := 35) dX0_joinLastTwo_35 fX0_9_0 rfl hAk.o hAk.f0 ?_
  refine V.aload_n (pc := 38) dX0_joinLastTwo_38 rfl ?_
  refine V.getI (pc := 39) dX0_joinLastTwo_39 fX0_15_0 rfl hAk.o ?_
  rw [h1]
  refine V.iconst (v := 1) (pc := 42) dX0_joinLastTwo_42 (by decide) ?_
  refine V.isub (pc := 43) dX0_joinLastTwo_43 ?_
  rw [nI_pred]
  refine V.lald' (k := s + 1) (pc := 44) dX0_joinLastTwo_44 hAk.t0 rfl (by omega) (by decide) ?_
  rw [hB]
  refine V.ls (pc := 45) dX0_joinLastTwo_45 (by decide) (st2_4 rfl) ?_
  refine V.aload_n (pc := 47) dX0_joinLastTwo_47 rfl ?_
  refine V.dup (pc := 48) dX0_joinLastTwo_48 rfl ?_
  refine V.getI (pc := 49) dX0_joinLastTwo_49 fX0_15_0 rfl hAk.o ?_
  rw [h1]
  refine V.iconst (v := 2) (pc := 52) dX0_joinLastTwo_52 (by decide) ?_
  refine V.isub (pc := 53) dX0_joinLastTwo_53 ?_
  rw [nI_p2]
  refine V.putI (pc := 54) dX0_joinLastTwo_54 fX0_15_0 (fun r h => by cases h; exact Or.inl rfl) rfl hAk.o ?_
  refine V.iload_n (pc := 57) dX0_joinLastTwo_57 rfl ?_
  refine V.tIn 209 (pc := 58) dX0_joinLastTwo_58 (by decide) (by decide) (off := 151) (by decide) (by decide) ?_
  refine V.lload (pc := 209) dX0_joinLastTwo_209 rfl ?_
  refine V.lconst (v := 0) (pc := 211) dX0_joinLastTwo_211 (by decide) ?_
  refine V.lcmp_eq 231 (pc := 212) dX0_joinLastTwo_212 dX0_joinLastTwo_213 (by decide) (fun h212 => ?_) (fun h212 => absurd (by rw [h0]; rfl) h212)
  refine V.iconst (v := 0) (pc := 231) dX0_joinLastTwo_231 (by decide) ?_
  exact V.zret (pc := 232) dX0_joinLastTwo_232 rfl (by first | exact Or.inl rfl | exact Or.inr rfl | exact bi_or | assumption) ⟨rfl, rfl, rfl, rfl, rfl, rfl⟩
def JnQ (T : mT) (n : Nat) (I : mI) (J : mJ) (F : mF) (k s q : Nat) (a b : Int) : mQ := fun r' T' n' I' J' F' => T' = T ∧ n' = n ∧ F' = F ∧ (∀ c, c ≠ k → I' c = I c) ∧ (∀ t, t ≠ 1 → t ≠ 2 → I' k t = I k t) ∧ (∀ c, c ≠ k + 1 → J' c = J c) ∧ (11 ≤ q → r' = some (.int 1) ∧ I' k 1 = nI s ∧ I' k 2 = (if cmpZ (cmX q) a b = true then 1 else 0) ∧ J' = J) ∧ (q ≤ 10 → ((¬ ((arX q = 22 ∨ arX q = 23) ∧ b = 0) ∧ (-1000000000 ≤ rkZ (arX q) a b ∧ rkZ (arX q) a b ≤ 1000000000)) → r' = some (.int 1) ∧ I' k 1 = nI (s + 1) ∧ I' k 2 = I k 2 ∧ J' = up2 J (k + 1) s (lI (rkZ (arX q) a b))) ∧ (¬ (¬ ((arX q = 22 ∨ arX q = 23) ∧ b = 0) ∧ (-1000000000 ≤ rkZ (arX q) a b ∧ rkZ (arX q) a b ≤ 1000000000)) → r' = some (.int 0)))
theorem x_join {g : gG} {d : Nat} {T : mT} {n : Nat} {I : mI} {J : mJ} {F : mF} {k s q : Nat} {a b : Int} (x : Int32) (hAk : AkS T F k) (h1 : I k 1 = nI (s + 2)) (hs : s + 2 ≤ 64) (hA : J (k + 1) s = lI a) (hB : J (k + 1) (s + 1) = lI b) (ha : Bd a) (hb : Bd b) (hx : x = nI q) (hq : 6 ≤ q) (hq2 : q ≤ 13) : Ct g mX0_joinLastTwo (d + 2) [.ref k, .int x] 0 0 T n I J F (JnQ T n I J F k s q a b) := by
  subst hx
  have hc : q = 6 ∨ q = 7 ∨ q = 8 ∨ q = 9 ∨ q = 10 ∨ q = 11 ∨ q = 12 ∨ q = 13 := by omega
  have fr : ∀ (v w : Int32) (t : Nat), t = 1 ∨ t = 2 → (∀ c, c ≠ k → up2 (up2 I k 1 v) k t w c = I c) ∧ ∀ u, u ≠ 1 → u ≠ 2 → up2 (up2 I k 1 v) k t w k u = I k u := fun v w t ht => ⟨fun c hc => by rw [up2_off hc, up2_off hc], fun u u1 u2 => by rw [up2_ne (by omega), up2_ne (by omega)]⟩
  have fr1 : ∀ v : Int32, (∀ c, c ≠ k → up2 I k 1 v c = I c) ∧ ∀ u, u ≠ 1 → u ≠ 2 → up2 I k 1 v k u = I k u := fun v => ⟨fun c hc => up2_off hc, fun u u1 u2 => up2_ne (by omega)⟩
  rcases hc with rfl | rfl | rfl | rfl | rfl | rfl | rfl | rfl
  · by_cases hr : (-1000000000 ≤ rkZ 19 a b ∧ rkZ 19 a b ≤ 1000000000)
    · exact (x_j6Y hAk h1 hs hA hB ha hb hr).imp (by rintro _ _ _ _ _ _ ⟨rfl, rfl, rfl, rfl, rfl, rfl⟩; exact ⟨rfl, rfl, rfl, (fr _ _ 1 (Or.inl rfl)).1, (fr _ _ 1 (Or.inl rfl)).2, fun c hc => up2_off hc, fun z => absurd z (by decide), fun _ => ⟨fun _ => ⟨rfl, up2_same, by rw [up2_ne (by omega), up2_ne (by omega)], rfl⟩, fun z => absurd (show ¬ ((arX 6 = 22 ∨ arX 6 = 23) ∧ b = 0) ∧ (-1000000000 ≤ rkZ (arX 6) a b ∧ rkZ (arX 6) a b ≤ 1000000000) from ⟨fun z => absurd z.1 (by decide), hr⟩) z⟩⟩)
    · exact (x_j6N hAk h1 hs hA hB ha hb hr).imp (by rintro _ _ _ _ _ _ ⟨rfl, rfl, rfl, rfl, rfl, rfl⟩; exact ⟨rfl, rfl, rfl, (fr1 _).1, (fr1 _).2, fun _ _ => rfl, fun z => absurd z (by decide), fun _ => ⟨fun z => absurd z (fun z => hr z.2), fun _ => rfl⟩⟩)
  · by_cases hr : (-1000000000 ≤ rkZ 20 a b ∧ rkZ 20 a b ≤ 1000000000)
    · exact (x_j7Y hAk h1 hs hA hB ha hb hr).imp (by rintro _ _ _ _ _ _ ⟨rfl, rfl, rfl, rfl, rfl, rfl⟩; exact ⟨rfl, rfl, rfl, (fr _ _ 1 (Or.inl rfl)).1, (fr _ _ 1 (Or.inl rfl)).2, fun c hc => up2_off hc, fun z => absurd z (by decide), fun _ => ⟨fun _ => ⟨rfl, up2_same, by rw [up2_ne (by omega), up2_ne (by omega)], rfl⟩, fun z => absurd (show ¬ ((arX 7 = 22 ∨ arX 7 = 23) ∧ b = 0) ∧ (-1000000000 ≤ rkZ (arX 7) a b ∧ rkZ (arX 7) a b ≤ 1000000000) from ⟨fun z => absurd z.1 (by decide), hr⟩) z⟩⟩)
    · exact (x_j7N hAk h1 hs hA hB ha hb hr).imp (by rintro _ _ _ _ _ _ ⟨rfl, rfl, rfl, rfl, rfl, rfl⟩; exact ⟨rfl, rfl, rfl, (fr1 _).1, (fr1 _).2, fun _ _ => rfl, fun z => absurd z (by decide), fun _ => ⟨fun z => absurd z (fun z => hr z.2), fun _ => rfl⟩⟩)
  · by_cases hr : (-1000000000 ≤ rkZ 21 a b ∧ rkZ 21 a b ≤ 1000000000)
    · exact (x_j8Y hAk h1 hs hA hB ha hb hr).imp (by rintro _ _ _ _ _ _ ⟨rfl, rfl, rfl, rfl, rfl, rfl⟩; exact ⟨rfl, rfl, rfl, (fr _ _ 1 (Or.inl rfl)).1, (fr _ _ 1 (Or.inl rfl)).2, fun c hc => up2_off hc, fun z => absurd z (by decide), fun _ => ⟨fun _ => ⟨rfl, up2_same, by rw [up2_ne (by omega), up2_ne (by omega)], rfl⟩, fun z => absurd (show ¬ ((arX 8 = 22 ∨ arX 8 = 23) ∧ b = 0) ∧ (-1000000000 ≤ rkZ (arX 8) a b ∧ rkZ (arX 8) a b ≤ 1000000000) from ⟨fun z => absurd z.1 (by decide), hr⟩) z⟩⟩)
    · exact (x_j8N hAk h1 hs hA hB ha hb hr).imp (by rintro _ _ _ _ _ _ ⟨rfl, rfl, rfl, rfl, rfl, rfl⟩; exact ⟨rfl, rfl, rfl, (fr1 _).1, (fr1 _).2, fun _ _ => rfl, fun z => absurd z (by decide), fun _ => ⟨fun z => absurd z (fun z => hr z.2), fun _ => rfl⟩⟩)
  · by_cases h0 : b = 0
    · exact (x_j9Z hAk h1 hs hA hB ha hb h0).imp (by rintro _ _ _ _ _ _ ⟨rfl, rfl, rfl, rfl, rfl, rfl⟩; exact ⟨rfl, rfl, rfl, (fr1 _).1, (fr1 _).2, fun _ _ => rfl, fun z => absurd z (by decide), fun _ => ⟨fun z => absurd z (fun z => z.1 ⟨by decide, h0⟩), fun _ => rfl⟩⟩)
    · by_cases hr : (-1000000000 ≤ rkZ 23 a b ∧ rkZ 23 a b ≤ 1000000000)
      · exact (x_j9Y hAk h1 hs hA hB ha hb h0 hr).imp (by rintro _ _ _ _ _ _ ⟨rfl, rfl, rfl, rfl, rfl, rfl⟩; exact ⟨rfl, rfl, rfl, (fr _ _ 1 (Or.inl rfl)).1, (fr _ _ 1 (Or.inl rfl)).2, fun c hc => up2_off hc, fun z => absurd z (by decide), fun _ => ⟨fun _ => ⟨rfl, up2_same, by rw [up2_ne (by omega), up2_ne (by omega)], rfl⟩, fun z => absurd (show ¬ ((arX 9 = 22 ∨ arX 9 = 23) ∧ b = 0) ∧ (-1000000000 ≤ rkZ (arX 9) a b ∧ rkZ (arX 9) a b ≤ 1000000000) from ⟨fun z => h0 z.2, hr⟩) z⟩⟩)
      · exact (x_j9N hAk h1 hs hA hB ha hb h0 hr).imp (by rintro _ _ _ _ _ _ ⟨rfl, rfl, rfl, rfl, rfl, rfl⟩; exact ⟨rfl, rfl, rfl, (fr1 _).1, (fr1 _).2, fun _ _ => rfl, fun z => absurd z (by decide), fun _ => ⟨fun z => absurd z (fun z => hr z.2), fun _ => rfl⟩⟩)
  · by_cases h0 : b = 0
    · exact (x_j10Z hAk h1 hs hA hB ha hb h0).imp (by rintro _ _ _ _ _ _ ⟨rfl, rfl, rfl, rfl, rfl, rfl⟩; exact ⟨rfl, rfl, rfl, (fr1 _).1, (fr1 _).2, fun _ _ => rfl, fun z => absurd z (by decide), fun _ => ⟨fun z => absurd z (fun z => z.1 ⟨by decide, h0⟩), fun _ => rfl⟩⟩)
    · by_cases hr : (-1000000000 ≤ rkZ 22 a b ∧ rkZ 22 a b ≤ 1000000000)
      · exact (x_j10Y hAk h1 hs hA hB ha hb h0 hr).imp (by rintro _ _ _ _ _ _ ⟨rfl, rfl, rfl, rfl, rfl, rfl⟩; exact ⟨rfl, rfl, rfl, (fr _ _ 1 (Or.inl rfl)).1, (fr _ _ 1 (Or.inl rfl)).2, fun c hc => up2_off hc, fun z => absurd z (by decide), fun _ => ⟨fun _ => ⟨rfl, up2_same, by rw [up2_ne (by omega), up2_ne (by omega)], rfl⟩, fun z => absurd (show ¬ ((arX 10 = 22 ∨ arX 10 = 23) ∧ b = 0) ∧ (-1000000000 ≤ rkZ (arX 10) a b ∧ rkZ (arX 10) a b ≤ 1000000000) from ⟨fun z => h0 z.2, hr⟩) z⟩⟩)
      · exact (x_j10N hAk h1 hs hA hB ha hb h0 hr).imp (by rintro _ _ _ _ _ _ ⟨rfl, rfl, rfl, rfl, rfl, rfl⟩; exact ⟨rfl, rfl, rfl, (fr1 _).1, (fr1 _).2, fun _ _ => rfl, fun z => absurd z (by decide), fun _ => ⟨fun z => absurd z (fun z => hr z.2), fun _ => rfl⟩⟩)
  · by_cases h0 : a < b
    · exact (x_j11Y hAk h1 hs hA hB ha hb h0).imp (by rintro _ _ _ _ _ _ ⟨rfl, rfl, rfl, rfl, rfl, rfl⟩; exact ⟨rfl, rfl, rfl, (fr _ _ 2 (Or.inr rfl)).1, (fr _ _ 2 (Or.inr rfl)).2, fun _ _ => rfl, fun _ => ⟨rfl, by rw [up2_ne (by omega), up2_same], by rw [up2_same, show cmpZ (cmX 11) a b = decide (a < b) from rfl, decide_eq_true h0]; rfl, rfl⟩, fun z => absurd z (by decide)⟩)
    · exact (x_j11N hAk h1 hs hA hB ha hb h0).imp (by rintro _ _ _ _ _ _ ⟨rfl, rfl, rfl, rfl, rfl, rfl⟩; exact ⟨rfl, rfl, rfl, (fr _ _ 2 (Or.inr rfl)).1, (fr _ _ 2 (Or.inr rfl)).2, fun _ _ => rfl, fun _ => ⟨rfl, by rw [up2_ne (by omega), up2_same], by rw [up2_same, show cmpZ (cmX 11) a b = decide (a < b) from rfl, decide_eq_false h0]; rfl, rfl⟩, fun z => absurd z (by decide)⟩)
  · by_cases h0 : b < a
    · exact (x_j12Y hAk h1 hs hA hB ha hb h0).imp (by rintro _ _ _ _ _ _ ⟨rfl, rfl, rfl, rfl, rfl, rfl⟩; exact ⟨rfl, rfl, rfl, (fr _ _ 2 (Or.inr rfl)).1, (fr _ _ 2 (Or.inr rfl)).2, fun _ _ => rfl, fun _ => ⟨rfl, by rw [up2_ne (by omega), up2_same], by rw [up2_same, show cmpZ (cmX 12) a b = decide (b < a) from rfl, decide_eq_true h0]; rfl, rfl⟩, fun z => absurd z (by decide)⟩)
    · exact (x_j12N hAk h1 hs hA hB ha hb h0).imp (by rintro _ _ _ _ _ _ ⟨rfl, rfl, rfl, rfl, rfl, rfl⟩; exact ⟨rfl, rfl, rfl, (fr _ _ 2 (Or.inr rfl)).1, (fr _ _ 2 (Or.inr rfl)).2, fun _ _ => rfl, fun _ => ⟨rfl, by rw [up2_ne (by omega), up2_same], by rw [up2_same, show cmpZ (cmX 12) a b = decide (b < a) from rfl, decide_eq_false h0]; rfl, rfl⟩, fun z => absurd z (by decide)⟩)
  · by_cases h0 : a = b
    · exact (x_j13Y hAk h1 hs hA hB ha hb h0).imp (by rintro _ _ _ _ _ _ ⟨rfl, rfl, rfl, rfl, rfl, rfl⟩; exact ⟨rfl, rfl, rfl, (fr _ _ 2 (Or.inr rfl)).1, (fr _ _ 2 (Or.inr rfl)).2, fun _ _ => rfl, fun _ => ⟨rfl, by rw [up2_ne (by omega), up2_same], by rw [up2_same, show cmpZ (cmX 13) a b = decide (a = b) from rfl, decide_eq_true h0]; rfl, rfl⟩, fun z => absurd z (by decide)⟩)
    · exact (x_j13N hAk h1 hs hA hB ha hb h0).imp (by rintro _ _ _ _ _ _ ⟨rfl, rfl, rfl, rfl, rfl, rfl⟩; exact ⟨rfl, rfl, rfl, (fr _ _ 2 (Or.inr rfl)).1, (fr _ _ 2 (Or.inr rfl)).2, fun _ _ => rfl, fun _ => ⟨rfl, by rw [up2_ne (by omega), up2_same], by rw [up2_same, show cmpZ (cmX 13) a b = decide (a = b) from rfl, decide_eq_false h0]; rfl, rfl⟩, fun z => absurd z (by decide)⟩)
