-- the class's setting: links
theorem nI_and3 {v : Nat} (h : v < 2147483648) : nI v &&& 7 = nI (v % 8) := by
  exact pk_andN (m := 7) (by omega) 3 (by decide)
theorem nI_shr3 {v : Nat} (h : v < 2147483648) : nI v >>> ((3 : Int32) &&& 31) = nI (v / 8) := by
  rw [← Int32.toInt_inj]
  show ((nI v).toBitVec.sshiftRight 3).toInt = _
  rw [BitVec.toInt_sshiftRight]
  show (nI v).toInt >>> 3 = _
  rw [nI_toInt h, nI_toInt (by omega), Int.shiftRight_eq_div_pow]
  omega
theorem shl3 {v : Nat} (h : v < 2 ^ 20) : nI v <<< ((3 : Int32) &&& 31) = nI (v * 2 ^ 3) := pk_shlN _ 3 (by decide) (by omega)
def StS (T : mT) (F : mF) (o l k : Nat) : Prop := T o = some (.inl 5) ∧ (F o 3 = some (o + 1) ∧ T (o + 1) = some (.inr (.int, 4))) ∧ (F o 4 = some (o + 2) ∧ T (o + 2) = some (.inr (.int, 4))) ∧ (F o 5 = some (o + 3) ∧ T (o + 3) = some (.inr (.int, 4))) ∧ F o 7 = some l ∧ T l = some (.inr (.int, k)) ∧ (l = o + 4 ∨ o + 4 < l ∨ l < o) ∧ k ≤ 160000
section STP
variable {oo l k : Nat} {T : mT} {F : mF}
theorem StS.o (h : StS T F oo l k) : T oo = some (.inl 5) := h.1
theorem StS.f3 (h : StS T F oo l k) : F oo 3 = some (oo + 1) := h.2.1.1
theorem StS.t3 (h : StS T F oo l k) : T (oo + 1) = some (.inr (.int, 4)) := h.2.1.2
theorem StS.f4 (h : StS T F oo l k) : F oo 4 = some (oo + 2) := h.2.2.1.1
theorem StS.t4 (h : StS T F oo l k) : T (oo + 2) = some (.inr (.int, 4)) := h.2.2.1.2
theorem StS.f5 (h : StS T F oo l k) : F oo 5 = some (oo + 3) := h.2.2.2.1.1
theorem StS.t5 (h : StS T F oo l k) : T (oo + 3) = some (.inr (.int, 4)) := h.2.2.2.1.2
theorem StS.f7 (h : StS T F oo l k) : F oo 7 = some l := h.2.2.2.2.1
theorem StS.t7 (h : StS T F oo l k) : T l = some (.inr (.int, k)) := h.2.2.2.2.2.1
theorem StS.lo (h : StS T F oo l k) : l ≠ oo ∧ l ≠ oo + 1 ∧ l ≠ oo + 2 ∧ l ≠ oo + 3 := by have := h.2.2.2.2.2.2.1; omega
theorem StS.kb (h : StS T F oo l k) : k ≤ 160000 := h.2.2.2.2.2.2.2
end STP
theorem md_2 {x m : Nat} (h : x < 2 * m) : (if x < m then x else x - m) = x % m := by
  split
  · rename_i z; rw [Nat.mod_eq_of_lt z]
  · rename_i z; rw [Nat.mod_eq_sub_mod (by omega), Nat.mod_eq_of_lt (by omega)]
theorem lst_inc {t : V4} {k : Nat} (h : lst t ≤ k) (hk : k < 4) : lst (inc k t) = k := by
  have := lst_z h
  rcases q4c hk with rfl | rfl | rfl | rfl
  · rw [inc0]; unfold lst; dsimp only; rw [if_neg (by omega), if_neg (by omega), if_neg (by omega)]
  · rw [inc1]; unfold lst; dsimp only; rw [if_neg (by omega), if_neg (by omega), if_pos (by omega)]
  · rw [inc2]; unfold lst; dsimp only; rw [if_neg (by omega), if_pos (by omega)]
  · rw [inc3]; unfold lst; dsimp only; rw [if_pos (by omega)]
def nxq (Q : QL) (i : Nat) : Nat := match Q[i + 1]? with
  | some x => x.1 + 1
  | none => 0
/-- what stands in the setting's links -/
def LMq (l S : Nat) (Q : QL) (I : mI) : Prop := (∀ (i p : Nat) (t : V4), Q[i]? = some (p, t) → I l p = nI (lst t + 1 + 8 * nxq Q i)) ∧ ∀ p, p < S → (∀ (j : Nat) (t : V4), Q[j]? ≠ some (p, t)) → I l p = 0
theorem LMq.congr {l S : Nat} {Q : QL} {I I' : mI} (h : LMq l S Q I) (e : I' l = I l) : LMq l S Q I' := by unfold LMq; rw [e]; exact h
/-- the dials and knobs of the setting -/
def KNm (oo W H K : Nat) (a b : Nat → Nat) (I : mI) : Prop := I oo 0 = nI W ∧ I oo 1 = nI H ∧ I oo 2 = nI K ∧ ∀ k, k < K → I (oo + 1) k = nI (a k % W) ∧ I (oo + 2) k = nI (b k % H)
theorem KNm.congr {oo W H K : Nat} {a b : Nat → Nat} {I I' : mI} (h : KNm oo W H K a b I) (e0 : I' oo 0 = I oo 0) (e1 : I' oo 1 = I oo 1) (e2 : I' oo 2 = I oo 2) (e3 : I' (oo + 1) = I (oo + 1)) (e4 : I' (oo + 2) = I (oo + 2)) : KNm oo W H K a b I' := by unfold KNm; rw [e0, e1, e2, e3, e4]; exact h
theorem x_place {g : gG} {d : Nat} {T : mT} {n : Nat} {I : mI} {J : mJ} {F : mF} {oo l k W H X Y : Nat} (hSt : StS T F oo l k) (h0 : I oo 0 = nI W) (h1 : I oo 1 = nI H) (hX : X < 2 * W) (hY : Y < 2 * H) (hW : W ≤ 400) (hH : H ≤ 400) : Ct g mX6_placeAt (d + 0) [.ref oo, .int (nI X), .int (nI Y)] 0 0 T n I J F (pureQ T n I J F (some (.int (nI (X % W * H + Y % H))))) := by
  refine Ct.ofV (k := 0) (by decide) (Nat.le_of_ble_eq_true rfl) ?_
  show V g mX6_placeAt (d + 0) _ 0 0 0 [some (.ref oo), some (.int (nI X)), some (.int (nI Y))] [] T n I J F
  have eX := md_2 hX
  have eY := md_2 hY
  refine V.iload_n (pc := 0) dX6_placeAt_0 rfl ?_
  refine V.aload_n (pc := 1) dX6_placeAt_1 rfl ?_
  refine V.getI (pc := 2) dX6_placeAt_2 fX6_9_5 rfl hSt.o ?_
  rw [h0]
  refine V.icmp_ge 12 (pc := 5) dX6_placeAt_5 (by decide) (fun h5 => ?_) (fun h5 => ?_)
  · rw [le32, nI_toInt (by omega), nI_toInt (by omega)] at h5
    rw [if_neg (by omega)] at eX
    refine V.iload_n (pc := 12) dX6_placeAt_12 rfl ?_
    refine V.aload_n (pc := 13) dX6_placeAt_13 rfl ?_
    refine V.getI (pc := 14) dX6_placeAt_14 fX6_9_5 rfl hSt.o ?_
    rw [h0]
    refine V.isub (pc := 17) dX6_placeAt_17 ?_
    rw [pk_sub (by omega)]
    refine V.aload_n (pc := 18) dX6_placeAt_18 rfl ?_
    refine V.getI (pc := 19) dX6_placeAt_19 fX6_15_5 rfl hSt.o ?_
    rw [h1, eX]
    refine V.imul (pc := 22) dX6_placeAt_22 ?_
    rw [pk_mul]
    refine V.iload_n (pc := 23) dX6_placeAt_23 rfl ?_
    refine V.aload_n (pc := 24) dX6_placeAt_24 rfl ?_
    refine V.getI (pc := 25) dX6_placeAt_25 fX6_15_5 rfl hSt.o ?_
    rw [h1]
    refine V.icmp_ge 35 (pc := 28) dX6_placeAt_28 (by decide) (fun h28 => ?_) (fun h28 => ?_)
    · rw [le32, nI_toInt (by omega), nI_toInt (by omega)] at h28
      rw [if_neg (by omega)] at eY
      refine V.iload_n (pc := 35) dX6_placeAt_35 rfl ?_
      refine V.aload_n (pc := 36) dX6_placeAt_36 rfl ?_
      refine V.getI (pc := 37) dX6_placeAt_37 fX6_15_5 rfl hSt.o ?_
      rw [h1]
      refine V.isub (pc := 40) dX6_placeAt_40 ?_
      rw [pk_sub (by omega)]
      refine V.iadd (pc := 41) dX6_placeAt_41 ?_
      rw [nI_add, eY]
      exact V.iret (pc := 42) dX6_placeAt_42 rfl ⟨rfl, rfl, rfl, rfl, rfl, rfl⟩
    · rw [le32, nI_toInt (by omega), nI_toInt (by omega)] at h28
      rw [if_pos (by omega)] at eY
      refine V.iload_n (pc := 31) dX6_placeAt_31 rfl ?_
      refine V.goto 41 (pc := 32) dX6_placeAt_32 (by decide) ?_
      refine V.iadd (pc := 41) dX6_placeAt_41 ?_
      rw [nI_add]
      exact V.iret (pc := 42) dX6_placeAt_42 rfl ⟨by rw [← eY], rfl, rfl, rfl, rfl, rfl⟩
  · rw [le32, nI_toInt (by omega), nI_toInt (by omega)] at h5
    rw [if_pos (by omega)] at eX
    refine V.iload_n (pc := 8) dX6_placeAt_8 rfl ?_
    refine V.goto 18 (pc := 9) dX6_placeAt_9 (by decide) ?_
    refine V.aload_n (pc := 18) dX6_placeAt_18 rfl ?_
    refine V.getI (pc := 19) dX6_placeAt_19 fX6_15_5 rfl hSt.o ?_
    rw [h1]
    refine V.imul (pc := 22) dX6_placeAt_22 ?_
    rw [pk_mul]
    refine V.iload_n (pc := 23) dX6_placeAt_23 rfl ?_
    refine V.aload_n (pc := 24) dX6_placeAt_24 rfl ?_
    refine V.getI (pc := 25) dX6_placeAt_25 fX6_15_5 rfl hSt.o ?_
    rw [h1]
    refine V.icmp_ge 35 (pc := 28) dX6_placeAt_28 (by decide) (fun h28 => ?_) (fun h28 => ?_)
    · rw [le32, nI_toInt (by omega), nI_toInt (by omega)] at h28
      rw [if_neg (by omega)] at eY
      refine V.iload_n (pc := 35) dX6_placeAt_35 rfl ?_
      refine V.aload_n (pc := 36) dX6_placeAt_36 rfl ?_
      refine V.getI (pc := 37) dX6_placeAt_37 fX6_15_5 rfl hSt.o ?_
      rw [h1]
      refine V.isub (pc := 40) dX6_placeAt_40 ?_
      rw [pk_sub (by omega)]
      refine V.iadd (pc := 41) dX6_placeAt_41 ?_
      rw [nI_add, eY]
      exact V.iret (pc := 42) dX6_placeAt_42 rfl ⟨by rw [← eX], rfl, rfl, rfl, rfl, rfl⟩
    · rw [le32, nI_toInt (by omega), nI_toInt (by omega)] at h28
      rw [if_pos (by omega)] at eY
      refine V.iload_n (pc := 31) dX6_placeAt_31 rfl ?_
      refine V.goto 41 (pc := 32) dX6_placeAt_32 (by decide) ?_
      refine V.iadd (pc := 41) dX6_placeAt_41 ?_
      rw [nI_add]
      exact V.iret (pc := 42) dX6_placeAt_42 rfl ⟨by rw [← eX, ← eY], rfl, rfl, rfl, rfl, rfl⟩
theorem x_linkAt {g : gG} {d : Nat} {T : mT} {n : Nat} {I : mI} {J : mJ} {F : mF} {oo l k p : Nat} (hSt : StS T F oo l k) (hp : p < k) : Ct g mX6_linkAt (d + 0) [.ref oo, .int (nI p)] 0 0 T n I J F (pureQ T n I J F (some (.int (I l p)))) := by
  refine Ct.ofV (k := 0) (by decide) (Nat.le_of_ble_eq_true rfl) ?_
  show V g mX6_linkAt (d + 0) _ 0 0 0 [some (.ref oo), some (.int (nI p))] [] T n I J F
  have hk := hSt.kb
  refine V.iload_n (pc := 0) dX6_linkAt_0 rfl ?_
  refine V.if_lt 22 (pc := 1) dX6_linkAt_1 (by decide) (fun h1 => absurd h1 (nI_pos (by omega))) (fun h1 => ?_)
  refine V.iload_n (pc := 4) dX6_linkAt_4 rfl ?_
  refine V.aload_n (pc := 5) dX6_linkAt_5 rfl ?_
  refine V.getR (pc := 6) dX6_linkAt_6 fX6_34_5 rfl hSt.o hSt.f7 ?_
  refine V.alen (pc := 9) dX6_linkAt_9 hSt.t7 ty_i (by rfl) ?_
  refine V.icmp_ge 22 (pc := 10) dX6_linkAt_10 (by decide) (fun h10 => absurd h10 (nI_ge hp (by omega))) (fun h10 => ?_)
  refine V.aload_n (pc := 13) dX6_linkAt_13 rfl ?_
  refine V.getR (pc := 14) dX6_linkAt_14 fX6_34_5 rfl hSt.o hSt.f7 ?_
  refine V.iload_n (pc := 17) dX6_linkAt_17 rfl ?_
  refine V.iald' (k := p) (pc := 18) dX6_linkAt_18 hSt.t7 rfl (by omega) (by omega) ?_
  refine V.goto 23 (pc := 19) dX6_linkAt_19 (by decide) ?_
  exact V.iret (pc := 23) dX6_linkAt_23 rfl ⟨rfl, rfl, rfl, rfl, rfl, rfl⟩
theorem x_addTo {g : gG} {d : Nat} {T : mT} {n : Nat} {I : mI} {J : mJ} {F : mF} {oo l k p : Nat} (v : Int32) (hSt : StS T F oo l k) (hp : p < k) : Ct g mX6_addToLink (d + 0) [.ref oo, .int (nI p), .int v] 0 0 T n I J F (fun r' T' n' I' J' F' => r' = none ∧ T' = T ∧ n' = n ∧ I' = up2 I l p (I l p + v) ∧ J' = J ∧ F' = F) := by
  refine Ct.ofV (k := 0) (by decide) (Nat.le_of_ble_eq_true rfl) ?_
  show V g mX6_addToLink (d + 0) _ 0 0 0 [some (.ref oo), some (.int (nI p)), some (.int v)] [] T n I J F
  have hk := hSt.kb
  refine V.iload_n (pc := 0) dX6_addToLink_0 rfl ?_
  refine V.if_lt 23 (pc := 1) dX6_addToLink_1 (by decide) (fun h1 => absurd h1 (nI_pos (by omega))) (fun h1 => ?_)
  refine V.iload_n (pc := 4) dX6_addToLink_4 rfl ?_
  refine V.aload_n (pc := 5) dX6_addToLink_5 rfl ?_
  refine V.getR (pc := 6) dX6_addToLink_6 fX6_34_5 rfl hSt.o hSt.f7 ?_
  refine V.alen (pc := 9) dX6_addToLink_9 hSt.t7 ty_i (by rfl) ?_
  refine V.icmp_ge 23 (pc := 10) dX6_addToLink_10 (by decide) (fun h10 => absurd h10 (nI_ge hp (by omega))) (fun h10 => ?_)
  refine V.aload_n (pc := 13) dX6_addToLink_13 rfl ?_
  refine V.getR (pc := 14) dX6_addToLink_14 fX6_34_5 rfl hSt.o hSt.f7 ?_
  refine V.iload_n (pc := 17) dX6_addToLink_17 rfl ?_
  refine V.dup2 (pc := 18) dX6_addToLink_18 rfl rfl ?_
  refine V.iald' (k := p) (pc := 19) dX6_addToLink_19 hSt.t7 rfl (by omega) (by omega) ?_
  refine V.iload_n (pc := 20) dX6_addToLink_20 rfl ?_
  refine V.iadd (pc := 21) dX6_addToLink_21 ?_
  refine V.iast' (k := p) (pc := 22) dX6_addToLink_22 hSt.t7 rfl (by omega) (by omega) ?_
  exact V.vret (pc := 23) dX6_addToLink_23 rfl ⟨rfl, rfl, rfl, rfl, rfl, rfl⟩
theorem x_isMet {g : gG} {d : Nat} {T : mT} {n : Nat} {I : mI} {J : mJ} {F : mF} {oo l k p : Nat} (hSt : StS T F oo l k) (hp : p < k) : Ct g mX6_isMet (d + 1) [.ref oo, .int (nI p)] 0 0 T n I J F (pureQ T n I J F (some (.int (bi (¬ I l p = 0))))) := by
  refine Ct.ofV (k := 0) (by decide) (Nat.le_of_ble_eq_true rfl) ?_
  show V g mX6_isMet (d + 1) _ 0 0 0 [some (.ref oo), some (.int (nI p))] [] T n I J F
  refine V.aload_n (pc := 0) dX6_isMet_0 rfl ?_
  refine V.iload_n (pc := 1) dX6_isMet_1 rfl ?_
  refine V.pV (as := [_]) (pc := 2) dX6_isMet_2 lX6_65 bX6_linkAt nX6_linkAt (ci := 5) rfl eX6_linkAt hSt.o (x_linkAt (d := d + 0) hSt hp) (by omega) rfl (Nat.le_of_ble_eq_true rfl) ?_
  refine V.if_eq 12 (pc := 5) dX6_isMet_5 (by decide) (fun h5 => ?_) (fun h5 => ?_)
  · refine V.iconst (v := 0) (pc := 12) dX6_isMet_12 (by decide) ?_
    exact V.zret (pc := 13) dX6_isMet_13 rfl (by first | exact Or.inl rfl | exact Or.inr rfl | exact bi_or | assumption) ⟨by rw [bi_f (fun z => z h5)], rfl, rfl, rfl, rfl, rfl⟩
  · refine V.iconst (v := 1) (pc := 8) dX6_isMet_8 (by decide) ?_
    refine V.goto 13 (pc := 9) dX6_isMet_9 (by decide) ?_
    exact V.zret (pc := 13) dX6_isMet_13 rfl (by first | exact Or.inl rfl | exact Or.inr rfl | exact bi_or | assumption) ⟨by rw [bi_t h5], rfl, rfl, rfl, rfl, rfl⟩
theorem x_knobTo {g : gG} {d : Nat} {T : mT} {n : Nat} {I : mI} {J : mJ} {F : mF} {oo l k p v nx : Nat} (hSt : StS T F oo l k) (hp : p < k) (e : I l p = nI (v + 1 + 8 * nx)) (hv : v < 4) (hnx : nx ≤ 160000) : Ct g mX6_knobTo (d + 1) [.ref oo, .int (nI p)] 0 0 T n I J F (pureQ T n I J F (some (.int (nI v)))) := by
  refine Ct.ofV (k := 0) (by decide) (Nat.le_of_ble_eq_true rfl) ?_
  show V g mX6_knobTo (d + 1) _ 0 0 0 [some (.ref oo), some (.int (nI p))] [] T n I J F
  refine V.aload_n (pc := 0) dX6_knobTo_0 rfl ?_
  refine V.iload_n (pc := 1) dX6_knobTo_1 rfl ?_
  refine V.pV (as := [_]) (pc := 2) dX6_knobTo_2 lX6_65 bX6_linkAt nX6_linkAt (ci := 5) rfl eX6_linkAt hSt.o (x_linkAt (d := d + 0) hSt hp) (by omega) rfl (Nat.le_of_ble_eq_true rfl) ?_
  rw [e]
  refine V.bipush (v := 7) (pc := 5) dX6_knobTo_5 (by decide) ?_
  refine V.iand (pc := 7) dX6_knobTo_7 ?_
  rw [nI_and3 (by omega), show (v + 1 + 8 * nx) % 8 = v + 1 by omega]
  refine V.iconst (v := 1) (pc := 8) dX6_knobTo_8 (by decide) ?_
  refine V.isub (pc := 9) dX6_knobTo_9 ?_
  rw [show (1 : Int32) = nI 1 from rfl, pk_sub (by omega), Nat.add_sub_cancel]
  exact V.iret (pc := 10) dX6_knobTo_10 rfl ⟨rfl, rfl, rfl, rfl, rfl, rfl⟩
