theorem x_accept {g : gG} {d : Nat} {T : mT} {n : Nat} {I : mI} {J : mJ} {F : mF} {x : Nat} (v : Int32) (hX : XS T F x) : Ct g mX11_accept (d + 0) [.ref x, .int v] 0 0 T n I J F (fun r' T' n' I' J' F' => r' = some (.int v) ∧ T' = T ∧ n' = n ∧ I' = up2 I x 7 0 ∧ J' = J ∧ F' = F) := by
  refine Ct.ofV (k := 0) (by decide) (Nat.le_of_ble_eq_true rfl) ?_
  show V g mX11_accept (d + 0) _ 0 0 0 [some (.ref x), some (.int v)] [] T n I J F
  refine V.aload_n (pc := 0) dX11_accept_0 rfl ?_
  refine V.iconst (v := 0) (pc := 1) dX11_accept_1 (by decide) ?_
  refine V.putI (pc := 2) dX11_accept_2 fX11_37_10 (fun r h => by cases h; exact Or.inl rfl) rfl hX.o ?_
  refine V.iload_n (pc := 5) dX11_accept_5 rfl ?_
  exact V.iret (pc := 6) dX11_accept_6 rfl ⟨rfl, rfl, rfl, rfl, rfl, rfl⟩
theorem x_refuse1 {g : gG} {d : Nat} {T : mT} {n : Nat} {I : mI} {J : mJ} {F : mF} {x : Nat} (hX : XS T F x) : Ct g mX11_refuse (d + 0) [.ref x, .int (-1)] 0 0 T n I J F (fun r' T' n' I' J' F' => r' = some (.int (-1)) ∧ T' = T ∧ n' = n ∧ I' = rfX I x 0 (-1) ∧ J' = J ∧ F' = F) := by
  refine Ct.ofV (k := 0) (by decide) (Nat.le_of_ble_eq_true rfl) ?_
  show V g mX11_refuse (d + 0) _ 0 0 0 [some (.ref x), some (.int (-1))] [] T n I J F
  refine V.aload_n (pc := 0) dX11_refuse_0 rfl ?_
  refine V.iload_n (pc := 1) dX11_refuse_1 rfl ?_
  refine V.putI (pc := 2) dX11_refuse_2 fX11_37_10 (fun r h => by cases h; exact Or.inl rfl) rfl hX.o ?_
  refine V.iload_n (pc := 5) dX11_refuse_5 rfl ?_
  refine V.tIn 40 (pc := 6) dX11_refuse_6 (by decide) (by decide) (off := 34) (by decide) (by decide) ?_
  refine V.aload_n (pc := 40) dX11_refuse_40 rfl ?_
  refine V.getR (pc := 41) dX11_refuse_41 fX11_34_10 rfl hX.o hX.f6 ?_
  refine V.iconst (v := 0) (pc := 44) dX11_refuse_44 (by decide) ?_
  refine V.dup2 (pc := 45) dX11_refuse_45 rfl rfl ?_
  refine V.iald' (k := 0) (pc := 46) dX11_refuse_46 hX.t6 rfl (by omega) (by decide) ?_
  rw [up2_off (by omega)]
  refine V.iconst (v := 1) (pc := 47) dX11_refuse_47 (by decide) ?_
  refine V.iadd (pc := 48) dX11_refuse_48 ?_
  refine V.iast' (k := 0) (pc := 49) dX11_refuse_49 hX.t6 rfl (by decide) (by decide) ?_
  refine V.goto 89 (pc := 50) dX11_refuse_50 (by decide) ?_
  refine V.iload_n (pc := 89) dX11_refuse_89 rfl ?_
  exact V.iret (pc := 90) dX11_refuse_90 rfl ⟨rfl, rfl, rfl, rfl, rfl, rfl⟩
theorem x_refuse2 {g : gG} {d : Nat} {T : mT} {n : Nat} {I : mI} {J : mJ} {F : mF} {x : Nat} (hX : XS T F x) : Ct g mX11_refuse (d + 0) [.ref x, .int (-2)] 0 0 T n I J F (fun r' T' n' I' J' F' => r' = some (.int (-2)) ∧ T' = T ∧ n' = n ∧ I' = rfX I x 1 (-2) ∧ J' = J ∧ F' = F) := by
  refine Ct.ofV (k := 0) (by decide) (Nat.le_of_ble_eq_true rfl) ?_
  show V g mX11_refuse (d + 0) _ 0 0 0 [some (.ref x), some (.int (-2))] [] T n I J F
  refine V.aload_n (pc := 0) dX11_refuse_0 rfl ?_
  refine V.iload_n (pc := 1) dX11_refuse_1 rfl ?_
  refine V.putI (pc := 2) dX11_refuse_2 fX11_37_10 (fun r h => by cases h; exact Or.inl rfl) rfl hX.o ?_
  refine V.iload_n (pc := 5) dX11_refuse_5 rfl ?_
  refine V.tIn 53 (pc := 6) dX11_refuse_6 (by decide) (by decide) (off := 47) (by decide) (by decide) ?_
  refine V.aload_n (pc := 53) dX11_refuse_53 rfl ?_
  refine V.getR (pc := 54) dX11_refuse_54 fX11_34_10 rfl hX.o hX.f6 ?_
  refine V.iconst (v := 1) (pc := 57) dX11_refuse_57 (by decide) ?_
  refine V.dup2 (pc := 58) dX11_refuse_58 rfl rfl ?_
  refine V.iald' (k := 1) (pc := 59) dX11_refuse_59 hX.t6 rfl (by omega) (by decide) ?_
  rw [up2_off (by omega)]
  refine V.iconst (v := 1) (pc := 60) dX11_refuse_60 (by decide) ?_
  refine V.iadd (pc := 61) dX11_refuse_61 ?_
  refine V.iast' (k := 1) (pc := 62) dX11_refuse_62 hX.t6 rfl (by decide) (by decide) ?_
  refine V.goto 89 (pc := 63) dX11_refuse_63 (by decide) ?_
  refine V.iload_n (pc := 89) dX11_refuse_89 rfl ?_
  exact V.iret (pc := 90) dX11_refuse_90 rfl ⟨rfl, rfl, rfl, rfl, rfl, rfl⟩
theorem x_refuse5 {g : gG} {d : Nat} {T : mT} {n : Nat} {I : mI} {J : mJ} {F : mF} {x : Nat} (hX : XS T F x) : Ct g mX11_refuse (d + 0) [.ref x, .int (-5)] 0 0 T n I J F (fun r' T' n' I' J' F' => r' = some (.int (-5)) ∧ T' = T ∧ n' = n ∧ I' = rfX I x 2 (-5) ∧ J' = J ∧ F' = F) := by
  refine Ct.ofV (k := 0) (by decide) (Nat.le_of_ble_eq_true rfl) ?_
  show V g mX11_refuse (d + 0) _ 0 0 0 [some (.ref x), some (.int (-5))] [] T n I J F
  refine V.aload_n (pc := 0) dX11_refuse_0 rfl ?_
  refine V.iload_n (pc := 1) dX11_refuse_1 rfl ?_
  refine V.putI (pc := 2) dX11_refuse_2 fX11_37_10 (fun r h => by cases h; exact Or.inl rfl) rfl hX.o ?_
  refine V.iload_n (pc := 5) dX11_refuse_5 rfl ?_
  refine V.tIn 66 (pc := 6) dX11_refuse_6 (by decide) (by decide) (off := 60) (by decide) (by decide) ?_
  refine V.aload_n (pc := 66) dX11_refuse_66 rfl ?_
  refine V.getR (pc := 67) dX11_refuse_67 fX11_34_10 rfl hX.o hX.f6 ?_
  refine V.iconst (v := 2) (pc := 70) dX11_refuse_70 (by decide) ?_
  refine V.dup2 (pc := 71) dX11_refuse_71 rfl rfl ?_
  refine V.iald' (k := 2) (pc := 72) dX11_refuse_72 hX.t6 rfl (by omega) (by decide) ?_
  rw [up2_off (by omega)]
  refine V.iconst (v := 1) (pc := 73) dX11_refuse_73 (by decide) ?_
  refine V.iadd (pc := 74) dX11_refuse_74 ?_
  refine V.iast' (k := 2) (pc := 75) dX11_refuse_75 hX.t6 rfl (by decide) (by decide) ?_
  refine V.goto 89 (pc := 76) dX11_refuse_76 (by decide) ?_
  refine V.iload_n (pc := 89) dX11_refuse_89 rfl ?_
  exact V.iret (pc := 90) dX11_refuse_90 rfl ⟨rfl, rfl, rfl, rfl, rfl, rfl⟩
theorem x_refuse6 {g : gG} {d : Nat} {T : mT} {n : Nat} {I : mI} {J : mJ} {F : mF} {x : Nat} (hX : XS T F x) : Ct g mX11_refuse (d + 0) [.ref x, .int (-6)] 0 0 T n I J F (fun r' T' n' I' J' F' => r' = some (.int (-6)) ∧ T' = T ∧ n' = n ∧ I' = rfX I x 3 (-6) ∧ J' = J ∧ F' = F) := by
  refine Ct.ofV (k := 0) (by decide) (Nat.le_of_ble_eq_true rfl) ?_
  show V g mX11_refuse (d + 0) _ 0 0 0 [some (.ref x), some (.int (-6))] [] T n I J F
  refine V.aload_n (pc := 0) dX11_refuse_0 rfl ?_
  refine V.iload_n (pc := 1) dX11_refuse_1 rfl ?_
  refine V.putI (pc := 2) dX11_refuse_2 fX11_37_10 (fun r h => by cases h; exact Or.inl rfl) rfl hX.o ?_
  refine V.iload_n (pc := 5) dX11_refuse_5 rfl ?_
  refine V.tOut 79 (pc := 6) dX11_refuse_6 (by decide) (by decide) ?_
  refine V.aload_n (pc := 79) dX11_refuse_79 rfl ?_
  refine V.getR (pc := 80) dX11_refuse_80 fX11_34_10 rfl hX.o hX.f6 ?_
  refine V.iconst (v := 3) (pc := 83) dX11_refuse_83 (by decide) ?_
  refine V.dup2 (pc := 84) dX11_refuse_84 rfl rfl ?_
  refine V.iald' (k := 3) (pc := 85) dX11_refuse_85 hX.t6 rfl (by omega) (by decide) ?_
  rw [up2_off (by omega)]
  refine V.iconst (v := 1) (pc := 86) dX11_refuse_86 (by decide) ?_
  refine V.iadd (pc := 87) dX11_refuse_87 ?_
  refine V.iast' (k := 3) (pc := 88) dX11_refuse_88 hX.t6 rfl (by decide) (by decide) ?_
  refine V.iload_n (pc := 89) dX11_refuse_89 rfl ?_
  exact V.iret (pc := 90) dX11_refuse_90 rfl ⟨rfl, rfl, rfl, rfl, rfl, rfl⟩
theorem QX.no {T : mT} {n : Nat} {I I1 : mI} {J J1 : mJ} {F : mF} {x : Nat} {A : Ab} {S : Int × Ab} (k : Nat) (w : Int) {v : Int32} (hv : v = iI w) (hX : XS T F x) (hA : AbOK A) (hR : RepX T I1 J1 F x A) (h1 : FrX x I I1) (h2 : FrX x J J1) (hk : (k = 0 ∧ w = -1) ∨ (k = 1 ∧ w = -2) ∨ (k = 2 ∧ w = -5) ∨ (k = 3 ∧ w = -6)) (hS : S = (w, tellA A w)) : QX x T n I J F (some (.int (iI S.1))) S.2 (some (.int v)) T n (rfX I1 x k v) J1 F := by
  subst hS hv
  exact QX.mk' hX h1.rfX h2 (hR.refuse hA k w hk)
theorem QX.yes {T : mT} {n : Nat} {I I1 : mI} {J J1 : mJ} {F : mF} {x : Nat} {A : Ab} {S : Int × Ab} {v : Int32} {c : Core} (hX : XS T F x) (hA : AbOK A) (hA2 : AbOK (corA A c)) (hR : RepX T I1 J1 F x (corA A c)) (h1 : FrX x I I1) (h2 : FrX x J J1) (hv : v = iI S.1) (hS : S.2 = wasA (corA A c)) : QX x T n I J F (some (.int (iI S.1))) S.2 (some (.int v)) T n (up2 I1 x 7 0) J1 F := by
  rw [hS, ← hv]
  exact QX.mk' hX (h1.up (by omega)) h2 (hR.accept hA2)
theorem QX.pure {T : mT} {n : Nat} {I : mI} {J : mJ} {F : mF} {x : Nat} {A : Ab} {S : Int × Ab} {v : Int32} (hX : XS T F x) (hR : RepX T I J F x A) (hv : v = iI S.1) (hS : S.2 = A) : QX x T n I J F (some (.int (iI S.1))) S.2 (some (.int v)) T n I J F := by
  rw [hS, ← hv]
  exact QX.mk' hX FrX.rf FrX.rf hR
section RXP
variable {T : mT} {I : mI} {J : mJ} {F : mF} {x : Nat} {A : Ab}
theorem RepX.h2 (h : RepX T I J F x A) : I (x + 1) 2 = nI (hds (cor A)).length := h.2.2.1.1.1
theorem RepX.h4 (h : RepX T I J F x A) : I (x + 1) 4 = nI (stk (cor A)).length := h.2.2.1.1.2.1
theorem RepX.h5 (h : RepX T I J F x A) : I (x + 1) 5 = nI (wer (cor A)) := h.2.2.1.1.2.2.1
theorem RepX.h7 (h : RepX T I J F x A) : I (x + 1) 7 = nI (lws (cor A)).length := h.2.2.1.1.2.2.2.1
theorem RepX.h8 (h : RepX T I J F x A) : I (x + 1) 8 = iI (frc (cor A)) := h.2.2.1.1.2.2.2.2.1
theorem RepX.h12 (h : RepX T I J F x A) : I (x + 1) 12 = nI (sgs (cor A)).length := h.2.2.1.1.2.2.2.2.2.1
theorem RepX.h14 (h : RepX T I J F x A) : I (x + 1) 14 = nI (kns (cor A)).length := h.2.2.1.1.2.2.2.2.2.2
end RXP
theorem x_wheelAt {g : gG} {d : Nat} {T : mT} {n : Nat} {I : mI} {J : mJ} {F : mF} {u : Nat} {s : List Nat} (v : Int32) (hS : SS T F u) (h4 : I u 4 = nI s.length) (hl : s.length ≤ 12) (hs : ∀ (i t : Nat), s[i]? = some t → I (u + 2) i = nI t) : Ct g mX8_wheelAt (d + 0) [.ref u, .int v] 0 0 T n I J F (pureQ T n I J F (some (.int (if 0 ≤ v.toInt ∧ v.toInt < s.length then nI (s.getD v.toInt.toNat 0) else -1)))) := by
  refine Ct.ofV (k := 0) (by decide) (Nat.le_of_ble_eq_true rfl) ?_
  show V g mX8_wheelAt (d + 0) _ 0 0 0 [some (.ref u), some (.int v)] [] T n I J F
  refine V.iload_n (pc := 0) dX8_wheelAt_0 rfl ?_
  refine V.if_lt 30 (pc := 1) dX8_wheelAt_1 (by decide) (fun h1 => ?_) (fun h1 => ?_)
  · have q : ¬ (0 ≤ v.toInt ∧ v.toInt < s.length) := by
      rw [lt32] at h1
      have e0 : (0 : Int32).toInt = 0 := rfl
      omega
    refine V.iconst (v := (-1)) (pc := 30) dX8_wheelAt_30 (by decide) ?_
    exact V.iret (pc := 31) dX8_wheelAt_31 rfl ⟨by rw [if_neg q], rfl, rfl, rfl, rfl, rfl⟩
  · have q0 : 0 ≤ v.toInt := by
      rw [lt32] at h1
      have e0 : (0 : Int32).toInt = 0 := rfl
      omega
    refine V.iload_n (pc := 4) dX8_wheelAt_4 rfl ?_
    refine V.aload_n (pc := 5) dX8_wheelAt_5 rfl ?_
    refine V.getI (pc := 6) dX8_wheelAt_6 fX8_29_7 rfl hS.o ?_
    rw [h4]
    refine V.icmp_ge 30 (pc := 9) dX8_wheelAt_9 (by decide) (fun h9 => ?_) (fun h9 => ?_)
    · have q : ¬ (0 ≤ v.toInt ∧ v.toInt < s.length) := by
        rw [le32, nI_toInt (by omega)] at h9
        omega
      refine V.iconst (v := (-1)) (pc := 30) dX8_wheelAt_30 (by decide) ?_
      exact V.iret (pc := 31) dX8_wheelAt_31 rfl ⟨by rw [if_neg q], rfl, rfl, rfl, rfl, rfl⟩
    · have q : 0 ≤ v.toInt ∧ v.toInt < s.length := by
        rw [le32, nI_toInt (by omega)] at h9
        omega
      refine V.iload_n (pc := 12) dX8_wheelAt_12 rfl ?_
      refine V.aload_n (pc := 13) dX8_wheelAt_13 rfl ?_
      refine V.getR (pc := 14) dX8_wheelAt_14 fX8_25_7 rfl hS.o hS.f3 ?_
      refine V.alen (pc := 17) dX8_wheelAt_17 hS.t3 ty_i (by rfl) ?_
      refine V.icmp_ge 30 (pc := 18) dX8_wheelAt_18 (by decide) (fun h18 => absurd h18 (by rw [le32]; show ¬ (12 : Int) ≤ _; omega)) (fun h18 => ?_)
      refine V.aload_n (pc := 21) dX8_wheelAt_21 rfl ?_
      refine V.getR (pc := 22) dX8_wheelAt_22 fX8_25_7 rfl hS.o hS.f3 ?_
      refine V.iload_n (pc := 25) dX8_wheelAt_25 rfl ?_
      refine V.iald' (k := v.toInt.toNat) (pc := 26) dX8_wheelAt_26 hS.t3 (nIx q0 rfl) (by omega) (by decide) ?_
      refine V.goto 31 (pc := 27) dX8_wheelAt_27 (by decide) ?_
      exact V.iret (pc := 31) dX8_wheelAt_31 rfl ⟨by rw [if_pos q, hs _ _ (List.getElem?_eq_getElem (show v.toInt.toNat < s.length by omega)), List.getD_eq_getElem?_getD, List.getElem?_eq_getElem (show v.toInt.toNat < s.length by omega)]; rfl, rfl, rfl, rfl, rfl, rfl⟩
theorem x_handAtY {g : gG} {d : Nat} {T : mT} {n : Nat} {I : mI} {J : mJ} {F : mF} {u k : Nat} (v : Int32) (hS : SS T F u) (h2 : I u 2 = nI k) (hk : k ≤ 6) (q : 0 ≤ v.toInt ∧ v.toInt < k) : Ct g mX8_handAt (d + 0) [.ref u, .int v] 0 0 T n I J F (pureQ T n I J F (some (.ref (u + 8 + 2 * v.toInt.toNat)))) := by
  refine Ct.ofV (k := 0) (by decide) (Nat.le_of_ble_eq_true rfl) ?_
  show V g mX8_handAt (d + 0) _ 0 0 0 [some (.ref u), some (.int v)] [] T n I J F
  refine V.iload_n (pc := 0) dX8_handAt_0 rfl ?_
  refine V.if_lt 30 (pc := 1) dX8_handAt_1 (by decide) (fun h1 => absurd h1 (by rw [lt32]; show ¬ _ < (0 : Int); omega)) (fun h1 => ?_)
  refine V.iload_n (pc := 4) dX8_handAt_4 rfl ?_
  refine V.aload_n (pc := 5) dX8_handAt_5 rfl ?_
  refine V.getI (pc := 6) dX8_handAt_6 fX8_21_7 rfl hS.o ?_
  rw [h2]
  refine V.icmp_ge 30 (pc := 9) dX8_handAt_9 (by decide) (fun h9 => absurd h9 (by rw [le32, nI_toInt (by omega)]; omega)) (fun h9 => ?_)
  refine V.iload_n (pc := 12) dX8_handAt_12 rfl ?_
  refine V.aload_n (pc := 13) dX8_handAt_13 rfl ?_
  refine V.getR (pc := 14) dX8_handAt_14 fX8_17_7 rfl hS.o hS.f1 ?_
  refine V.alen (pc := 17) dX8_handAt_17 hS.t1 ty_H (by rfl) ?_
  refine V.icmp_ge 30 (pc := 18) dX8_handAt_18 (by decide) (fun h18 => absurd h18 (by rw [le32]; show ¬ (6 : Int) ≤ _; omega)) (fun h18 => ?_)
  refine V.aload_n (pc := 21) dX8_handAt_21 rfl ?_
  refine V.getR (pc := 22) dX8_handAt_22 fX8_17_7 rfl hS.o hS.f1 ?_
  refine V.iload_n (pc := 25) dX8_handAt_25 rfl ?_
  refine V.aald' (k := v.toInt.toNat) (pc := 26) dX8_handAt_26 hS.t1 ty_H (nIx q.1 rfl) (by omega) (by decide) ?_
  rw [hS.h (by omega)]
  refine V.goto 31 (pc := 27) dX8_handAt_27 (by decide) ?_
  exact V.aret (b := some _) (pc := 31) dX8_handAt_31 rfl ⟨rfl, rfl, rfl, rfl, rfl, rfl⟩
theorem x_handAtN {g : gG} {d : Nat} {T : mT} {n : Nat} {I : mI} {J : mJ} {F : mF} {u k : Nat} (v : Int32) (hS : SS T F u) (h2 : I u 2 = nI k) (hk : k ≤ 6) (q : ¬ (0 ≤ v.toInt ∧ v.toInt < k)) : Ct g mX8_handAt (d + 0) [.ref u, .int v] 0 0 T n I J F (pureQ T n I J F (some (.null))) := by
  refine Ct.ofV (k := 0) (by decide) (Nat.le_of_ble_eq_true rfl) ?_
  show V g mX8_handAt (d + 0) _ 0 0 0 [some (.ref u), some (.int v)] [] T n I J F
  refine V.iload_n (pc := 0) dX8_handAt_0 rfl ?_
  refine V.if_lt 30 (pc := 1) dX8_handAt_1 (by decide) (fun h1 => ?_) (fun h1 => ?_)
  · refine V.anull (pc := 30) dX8_handAt_30 ?_
    exact V.aret (b := none) (pc := 31) dX8_handAt_31 rfl ⟨rfl, rfl, rfl, rfl, rfl, rfl⟩
  · have q0 : 0 ≤ v.toInt := by
      rw [lt32] at h1
      have e0 : (0 : Int32).toInt = 0 := rfl
      omega
    refine V.iload_n (pc := 4) dX8_handAt_4 rfl ?_
    refine V.aload_n (pc := 5) dX8_handAt_5 rfl ?_
    refine V.getI (pc := 6) dX8_handAt_6 fX8_21_7 rfl hS.o ?_
    rw [h2]
    refine V.icmp_ge 30 (pc := 9) dX8_handAt_9 (by decide) (fun h9 => ?_) (fun h9 => absurd (by rw [le32, nI_toInt (by omega)]; omega) h9)
    refine V.anull (pc := 30) dX8_handAt_30 ?_
    exact V.aret (b := none) (pc := 31) dX8_handAt_31 rfl ⟨rfl, rfl, rfl, rfl, rfl, rfl⟩
theorem y_teeth {g : gG} {d : Nat} {T : mT} {n : Nat} {I : mI} {J : mJ} {F : mF} {x : Nat} {A : Ab} (v : Int32) (hX : XS T F x) (hA : AbOK A) (hR : RepX T I J F x A)  : Ct g mX11_teeth (d + 4) [.ref x, .int v] 0 0 T n I J F (QX x T n I J F (some (.int (iI (s_teeth A v.toInt).1))) (s_teeth A v.toInt).2) := by
  refine Ct.ofV (k := 0) (by decide) (Nat.le_of_ble_eq_true rfl) ?_
  show V g mX11_teeth (d + 4) _ 0 0 0 [some (.ref x), some (.int v)] [] T n I J F
  have hTo := hX.s.o
  refine V.aload_n (pc := 0) dX11_teeth_0 rfl ?_
  refine V.getR (pc := 1) dX11_teeth_1 fX11_10_10 rfl hX.o hX.f0 ?_
  refine V.iload_n (pc := 4) dX11_teeth_4 rfl ?_
  refine V.pV (as := [_]) (pc := 5) dX11_teeth_5 lX11_136 bX8_wheelAt nX8_wheelAt (ci := 7) rfl eX8_wheelAt (by assumption) (x_wheelAt (d := d + 3) (s := stk (cor A)) _ hX.s hR.h4 hA.1.2.2.1 hR.2.2.1.2.2.1) (by omega) rfl (Nat.le_of_ble_eq_true rfl) ?_
  exact V.iret (pc := 8) dX11_teeth_8 rfl (QX.pure hX hR (by rw [s_teeth]; simp only []; split; exact (iI_nat _).symm; rfl) rfl)
theorem y_bent {g : gG} {d : Nat} {T : mT} {n : Nat} {I : mI} {J : mJ} {F : mF} {x : Nat} {A : Ab}  (hX : XS T F x) (hA : AbOK A) (hR : RepX T I J F x A)  : Ct g mX11_bent (d + 4) [.ref x] 0 0 T n I J F (QX x T n I J F (some (.int (iI (((bnt A : Int), A)).1))) (((bnt A : Int), A)).2) := by
  refine Ct.ofV (k := 0) (by decide) (Nat.le_of_ble_eq_true rfl) ?_
  show V g mX11_bent (d + 4) _ 0 0 0 [some (.ref x)] [] T n I J F
  have hTo := hX.s.o
  refine V.aload_n (pc := 0) dX11_bent_0 rfl ?_
  refine V.getI (pc := 1) dX11_bent_1 fX11_31_10 rfl hX.o ?_
  exact V.iret (pc := 4) dX11_bent_4 rfl (QX.pure hX hR (by rw [hR.1.2.2.1, iI_nat]) rfl)
theorem y_fault {g : gG} {d : Nat} {T : mT} {n : Nat} {I : mI} {J : mJ} {F : mF} {x : Nat} {A : Ab}  (hX : XS T F x) (hA : AbOK A) (hR : RepX T I J F x A)  : Ct g mX11_fault (d + 4) [.ref x] 0 0 T n I J F (QX x T n I J F (some (.int (iI ((flt A, A)).1))) ((flt A, A)).2) := by
  refine Ct.ofV (k := 0) (by decide) (Nat.le_of_ble_eq_true rfl) ?_
  show V g mX11_fault (d + 4) _ 0 0 0 [some (.ref x)] [] T n I J F
  have hTo := hX.s.o
  refine V.aload_n (pc := 0) dX11_fault_0 rfl ?_
  refine V.getI (pc := 1) dX11_fault_1 fX11_28_10 rfl hX.o ?_
  exact V.iret (pc := 4) dX11_fault_4 rfl (QX.pure hX hR hR.1.2.1 rfl)
theorem y_status {g : gG} {d : Nat} {T : mT} {n : Nat} {I : mI} {J : mJ} {F : mF} {x : Nat} {A : Ab}  (hX : XS T F x) (hA : AbOK A) (hR : RepX T I J F x A)  : Ct g mX11_status (d + 4) [.ref x] 0 0 T n I J F (QX x T n I J F (some (.int (iI ((sts A, A)).1))) ((sts A, A)).2) := by
  refine Ct.ofV (k := 0) (by decide) (Nat.le_of_ble_eq_true rfl) ?_
  show V g mX11_status (d + 4) _ 0 0 0 [some (.ref x)] [] T n I J F
  have hTo := hX.s.o
  refine V.aload_n (pc := 0) dX11_status_0 rfl ?_
  refine V.getI (pc := 1) dX11_status_1 fX11_37_10 rfl hX.o ?_
  exact V.iret (pc := 4) dX11_status_4 rfl (QX.pure hX hR hR.1.2.2.2 rfl)
