-- on a ring
theorem rg_d {v : Int32} {m : Nat} (hm : m < 2 ^ 31) : v / nI m = iI (v.toInt.tdiv m) := Int32.toInt_inj.mp (by rw [Int32.toInt_div, nI_toInt hm]; unfold iI; rw [Int32.toInt_ofInt])
theorem rg_t {v : Int32} {m : Nat} (hm : m < 2 ^ 31) : v - v / nI m * nI m = iI (v.toInt.tmod m) := by
  rw [rg_d hm, Int.tmod_def, Int.mul_comm, ← iI_sub, ← iI_mul, ← iI_of, iI_nat]
theorem rg_e {z : Int} {m : Nat} (h0 : 0 < m) : (0 ≤ z % (m : Int) ∧ z % (m : Int) < m) ∧ (z.tmod m = z % (m : Int) ∨ z.tmod m = z % (m : Int) - m) := by
  have a1 := Int.emod_nonneg z (show (m : Int) ≠ 0 by omega)
  have a2 := Int.emod_lt_of_pos z (show 0 < (m : Int) by omega)
  refine ⟨⟨a1, a2⟩, ?_⟩
  rw [Int.tmod_eq_emod]
  split
  · left; omega
  · right; omega
theorem rg1 {v : Int32} {m : Nat} (h0 : 0 < m) (hm : m < 2 ^ 31) (h : 0 ≤ v - v / nI m * nI m) : v - v / nI m * nI m = nI (v.toInt % (m : Int)).toNat := by
  obtain ⟨⟨a1, a2⟩, a3⟩ := rg_e (z := v.toInt) h0
  rw [rg_t hm] at h ⊢
  generalize v.toInt % (m : Int) = e at *
  generalize v.toInt.tmod m = t at *
  rw [le32, iI_toInt (by omega) (by omega)] at h
  have e0 : (0 : Int32).toInt = 0 := rfl
  rw [← iI_nat]
  congr 1
  omega
theorem rg2 {v : Int32} {m : Nat} (h0 : 0 < m) (hm : m < 2 ^ 31) (h : ¬ 0 ≤ v - v / nI m * nI m) : v - v / nI m * nI m + nI m = nI (v.toInt % (m : Int)).toNat := by
  obtain ⟨⟨a1, a2⟩, a3⟩ := rg_e (z := v.toInt) h0
  rw [rg_t hm] at h ⊢
  generalize v.toInt % (m : Int) = e at *
  generalize v.toInt.tmod m = t at *
  rw [le32, iI_toInt (by omega) (by omega)] at h
  have e0 : (0 : Int32).toInt = 0 := rfl
  rw [← iI_nat, ← iI_nat, iI_add]
  congr 1
  omega
theorem x_onRing {g : gG} {d : Nat} {T : mT} {n : Nat} {I : mI} {J : mJ} {F : mF} {m : Nat} (v z : Int32) (hz : z = nI m) (h0 : 0 < m) (hm : m < 2 ^ 31) : Ct g mX11_onRing (d + 0) [.int v, .int z] 0 0 T n I J F (pureQ T n I J F (some (.int (nI (v.toInt % (m : Int)).toNat)))) := by
  refine Ct.ofV (k := 1) (by decide) (Nat.le_of_ble_eq_true rfl) ?_
  show V g mX11_onRing (d + 0) _ 0 0 0 [some (.int v), some (.int z), none] [] T n I J F
  subst hz
  refine V.iload_n (pc := 0) dX11_onRing_0 rfl ?_
  refine V.if_le 10 (pc := 1) dX11_onRing_1 (by decide) (fun h1 => absurd h1 (by rw [le32, nI_toInt (by omega)]; show ¬ _ ≤ (0 : Int); omega)) (fun h1 => ?_)
  refine V.iload_n (pc := 4) dX11_onRing_4 rfl ?_
  refine V.iload_n (pc := 5) dX11_onRing_5 rfl ?_
  refine V.irem (pc := 6) dX11_onRing_6 (fun z => by have z2 := congrArg Int32.toInt z; rw [nI_toInt (by omega)] at z2; have e0 : (0 : Int32).toInt = 0 := rfl; omega) ?_
  refine V.goto 11 (pc := 7) dX11_onRing_7 (by decide) ?_
  refine V.isn (pc := 11) dX11_onRing_11 (by decide) (st1_2 rfl) ?_
  refine V.iload_n (pc := 12) dX11_onRing_12 rfl ?_
  refine V.if_ge 22 (pc := 13) dX11_onRing_13 (by decide) (fun h13 => ?_) (fun h13 => ?_)
  · refine V.iload_n (pc := 22) dX11_onRing_22 rfl ?_
    exact V.iret (pc := 23) dX11_onRing_23 rfl ⟨by rw [rg1 h0 hm h13], rfl, rfl, rfl, rfl, rfl⟩
  · refine V.iload_n (pc := 16) dX11_onRing_16 rfl ?_
    refine V.iload_n (pc := 17) dX11_onRing_17 rfl ?_
    refine V.iadd (pc := 18) dX11_onRing_18 ?_
    refine V.goto 23 (pc := 19) dX11_onRing_19 (by decide) ?_
    exact V.iret (pc := 23) dX11_onRing_23 rfl ⟨by rw [rg2 h0 hm h13], rfl, rfl, rfl, rfl, rfl⟩
def SgS (T : mT) (F : mF) (o : Nat) : Prop := SrS 6 T F o ∧ (F o 5 = some (o + 3) ∧ T (o + 3) = some (.inr (.int, 10))) ∧ F o 6 = some (o + 4) ∧ T (o + 4) = some (.inr (.int, 10))
section SGP
variable {oo x : Nat} {T : mT} {F : mF}
theorem SgS.o (h : SgS T F oo) : T oo = some (.inl 6) := h.1.1
theorem SgS.f0 (h : SgS T F oo) : F oo 0 = some (oo + 1) := h.1.f0
theorem SgS.t0 (h : SgS T F oo) : T (oo + 1) = some (.inr (.int, 4)) := h.1.t0
theorem SgS.f1 (h : SgS T F oo) : F oo 1 = some (oo + 2) := h.1.f1
theorem SgS.t1 (h : SgS T F oo) : T (oo + 2) = some (.inr (.int, 4)) := h.1.t1
theorem SgS.f5 (h : SgS T F oo) : F oo 5 = some (oo + 3) := h.2.1.1
theorem SgS.t5 (h : SgS T F oo) : T (oo + 3) = some (.inr (.int, 10)) := h.2.1.2
theorem SgS.f6 (h : SgS T F oo) : F oo 6 = some (oo + 4) := h.2.2.1
theorem SgS.t6 (h : SgS T F oo) : T (oo + 4) = some (.inr (.int, 10)) := h.2.2.2
theorem XS.sight (hX : XS T F x) : SgS T F (x + 36) := ⟨⟨hX.o11, ⟨hX.g36_0, hX.u37⟩, hX.g36_1, hX.u38⟩, ⟨hX.g36_5, hX.u39⟩, hX.g36_6, hX.u40⟩
end SGP
theorem obD_ring {u l mk : Nat} {s : Sg} (hm : 0 < mk) (hs : s.2.2 < mk) : (((s.2.2 : Int) - ((s.2.1 * u * mk / l % mk : Nat) : Int)) % (mk : Int)).toNat = obD u l mk s := by
  have h := Nat.mod_lt (s.2.1 * u * mk / l) hm
  unfold obD mkN
  rw [Nat.add_zero]
  generalize s.2.1 * u * mk / l % mk = k at *
  split
  · rename_i z
    rw [show ((s.2.2 : Int) - (k : Int)) % (mk : Int) = ((s.2.2 : Int) - k + mk) % (mk : Int) from (Int.add_emod_right _ _).symm, Int.emod_eq_of_lt (by omega) (by omega)]
    omega
  · rename_i z
    rw [Int.emod_eq_of_lt (by omega) (by omega)]
    omega
/-- what was seen of hand h -/
def sgH (ss : List Sg) (h : Nat) : List Sg := ss.filter (fun s => s.1 == h)
def obT (u l mk : Nat) (o : Int) (s : Sg) : Int := if o = (mk : Int) ∨ o = (obD u l mk s : Int) then (obD u l mk s : Int) else -1
theorem obF_H {h u l mk : Nat} : ∀ (ss : List Sg) (o : Int), ss.foldl (obS h u l mk) o = (sgH ss h).foldl (obT u l mk) o
  | [], _ => rfl
  | s :: ss, o => by
    rw [List.foldl_cons, obF_H ss]
    unfold sgH
    by_cases q : s.1 = h
    · rw [List.filter_cons_of_pos (by simp [q]), List.foldl_cons, obS, if_pos q]; rfl
    · rw [List.filter_cons_of_neg (by simp [q]), obS, if_neg q]
theorem obT_m1 {u l mk : Nat} (hm : 0 < mk) : ∀ ds : List Sg, ds.foldl (obT u l mk) (-1) = -1
  | [] => rfl
  | s :: ds => by
    rw [List.foldl_cons, obT, if_neg (by omega)]
    exact obT_m1 hm ds
theorem obT_all {u l mk D : Nat} : ∀ ds : List Sg, (∀ s ∈ ds, obD u l mk s = D) → ds.foldl (obT u l mk) (D : Int) = D
  | [], _ => rfl
  | s :: ds, h => by
    rw [List.foldl_cons, obT, if_pos (Or.inr (by rw [h s List.mem_cons_self])), h s List.mem_cons_self]
    exact obT_all ds (fun t ht => h t (List.mem_cons_of_mem _ ht))
theorem obT_not {u l mk D : Nat} (hm : 0 < mk) (hD : D < mk) : ∀ ds : List Sg, (∃ s ∈ ds, obD u l mk s ≠ D) → ds.foldl (obT u l mk) (D : Int) = -1
  | [], h => by obtain ⟨s, hs, -⟩ := h; cases hs
  | s :: ds, h => by
    rw [List.foldl_cons]
    by_cases q : obD u l mk s = D
    · rw [obT, if_pos (Or.inr (by rw [q])), q]
      refine obT_not hm hD ds ?_
      obtain ⟨t, ht, e⟩ := h
      rcases List.mem_cons.mp ht with z | z
      · subst z; exact absurd q e
      · exact ⟨t, z, e⟩
    · rw [obT, if_neg (by omega)]
      exact obT_m1 hm ds
theorem sgH_mem {ss : List Sg} {h : Nat} {s : Sg} (hs : s ∈ sgH ss h) : s ∈ ss ∧ s.1 = h := by
  unfold sgH at hs
  rw [List.mem_filter] at hs
  exact ⟨hs.1, by simpa using hs.2⟩
theorem ins_0 {ss : List Sg} {h mk N c : Nat} {s : List Nat} (e : (sgH ss h).length = 0) : insO ss h mk s N c = (mk : Int) := by
  unfold insO obF
  rw [obF_H, List.eq_nil_of_length_eq_zero e]
  rfl
theorem ins_y {ss : List Sg} {h mk N c : Nat} {s : List Nat} {s0 : Sg} (hm : 0 < mk) (e : (sgH ss h)[0]? = some s0) (ha : ∀ t ∈ sgH ss h, obD (drvN s N c) (drnN s N c) mk t = obD (drvN s N c) (drnN s N c) mk s0) : insO ss h mk s N c = (obD (drvN s N c) (drnN s N c) mk s0 : Int) := by
  unfold insO obF
  rw [obF_H]
  cases hc : sgH ss h with
  | nil => rw [hc] at e; cases e
  | cons t ds =>
    rw [hc] at e ha
    obtain rfl : t = s0 := by simpa using e
    rw [List.foldl_cons, obT, if_pos (Or.inl rfl)]
    exact obT_all ds (fun z hz => ha z (List.mem_cons_of_mem _ hz))
theorem ins_n {ss : List Sg} {h mk N c : Nat} {s : List Nat} {s0 t0 : Sg} (hm : 0 < mk) (hlt : ∀ t ∈ sgH ss h, t.2.2 < mk) (e : (sgH ss h)[0]? = some s0) (h0 : t0 ∈ sgH ss h) (hn : obD (drvN s N c) (drnN s N c) mk t0 ≠ obD (drvN s N c) (drnN s N c) mk s0) : insO ss h mk s N c = -1 := by
  unfold insO obF
  rw [obF_H]
  cases hc : sgH ss h with
  | nil => rw [hc] at e; cases e
  | cons t ds =>
    rw [hc] at e h0 hlt
    obtain rfl : t = s0 := by simpa using e
    rw [List.foldl_cons, obT, if_pos (Or.inl rfl)]
    refine obT_not hm (obD_lt hm (hlt t List.mem_cons_self)) ds ⟨t0, ?_, hn⟩
    rcases List.mem_cons.mp h0 with z | z
    · subst z; exact absurd rfl hn
    · exact z
theorem x_offBy {g : gG} {d : Nat} {T : mT} {n : Nat} {I : mI} {J : mJ} {F : mF} {oo u l mk i : Nat} {s : Sg} (v : Int32) (hSs : SgS T F oo) (hv : v = nI i) (hi : i < 10) (h3 : I oo 3 = nI mk) (h5 : I (oo + 3) i = nI s.2.1) (h6 : I (oo + 4) i = nI s.2.2) (hm : 0 < mk ∧ mk ≤ 400) (hs : s.2.1 ≤ 1000000 ∧ s.2.2 < mk) (hu : u ≤ 14400) (hl : 0 < l ∧ l ≤ 14400) : Ct g mX7_offsetBy (d + 1) [.ref oo, .int v, .long (lN u), .long (lN l)] 0 0 T n I J F (pureQ T n I J F (some (.int (nI (obD u l mk s))))) := by
  refine Ct.ofV (k := 1) (by decide) (Nat.le_of_ble_eq_true rfl) ?_
  show V g mX7_offsetBy (d + 1) _ 0 0 0 [some (.ref oo), some (.int v), some (.long (lN u)), none, some (.long (lN l)), none, none] [] T n I J F
  subst hv
  have b1 : s.2.1 * u ≤ 1000000 * 14400 := Nat.mul_le_mul hs.1 hu
  have b2 : s.2.1 * u * mk ≤ 1000000 * 14400 * 400 := Nat.mul_le_mul b1 hm.2
  have b3 : s.2.1 * u * mk / l ≤ s.2.1 * u * mk := Nat.div_le_self _ _
  have b4 := Nat.mod_lt (s.2.1 * u * mk / l) hm.1
  refine V.iload_n (pc := 0) dX7_offsetBy_0 rfl ?_
  refine V.if_lt 10 (pc := 1) dX7_offsetBy_1 (by decide) (fun h1 => absurd h1 (nI_pos (by omega))) (fun h1 => ?_)
  refine V.iload_n (pc := 4) dX7_offsetBy_4 rfl ?_
  refine V.bipush (v := 10) (pc := 5) dX7_offsetBy_5 (by decide) ?_
  refine V.icmp_lt 12 (pc := 7) dX7_offsetBy_7 (by decide) (fun h7 => ?_) (fun h7 => absurd (by rw [lt32, nI_toInt (by omega)]; show _ < (10 : Int); omega) h7)
  refine V.aload_n (pc := 12) dX7_offsetBy_12 rfl ?_
  refine V.getR (pc := 13) dX7_offsetBy_13 fX7_18_6 rfl hSs.o hSs.f5 ?_
  refine V.iload_n (pc := 16) dX7_offsetBy_16 rfl ?_
  refine V.iald' (k := i) (pc := 17) dX7_offsetBy_17 hSs.t5 rfl (by omega) (by decide) ?_
  rw [h5]
  refine V.i2l (pc := 18) dX7_offsetBy_18 ?_
  rw [nI_l (by omega)]
  refine V.lload_n (pc := 19) dX7_offsetBy_19 rfl ?_
  refine V.lmul (pc := 20) dX7_offsetBy_20 ?_
  rw [lN_mul]
  refine V.aload_n (pc := 21) dX7_offsetBy_21 rfl ?_
  refine V.getI (pc := 22) dX7_offsetBy_22 fX7_9_6 rfl hSs.o ?_
  rw [h3]
  refine V.i2l (pc := 25) dX7_offsetBy_25 ?_
  rw [nI_l (by omega)]
  refine V.lmul (pc := 26) dX7_offsetBy_26 ?_
  rw [lN_mul]
  refine V.lload (pc := 27) dX7_offsetBy_27 rfl ?_
  refine V.pS (as := [_, _]) (pc := 29) dX7_offsetBy_29 lX7_58 bX11_cut sX11_cut (x_cut (d := d + 0) (a := s.2.1 * u * mk) (b := l) _ _ rfl rfl (by omega) (by omega)) (by omega) rfl (Nat.le_of_ble_eq_true rfl) ?_
  refine V.aload_n (pc := 32) dX7_offsetBy_32 rfl ?_
  refine V.getI (pc := 33) dX7_offsetBy_33 fX7_9_6 rfl hSs.o ?_
  rw [h3]
  refine V.i2l (pc := 36) dX7_offsetBy_36 ?_
  rw [nI_l (by omega)]
  refine V.pS (as := [_, _]) (pc := 37) dX7_offsetBy_37 lX7_62 bX11_remainder sX11_remainder (x_remainder (d := d + 0) (a := s.2.1 * u * mk / l) (b := mk) _ _ rfl rfl (by omega) (by omega) (by omega)) (by omega) rfl (Nat.le_of_ble_eq_true rfl) ?_
  refine V.l2i (pc := 40) dX7_offsetBy_40 ?_
  rw [lN_i]
  refine V.is (pc := 41) dX7_offsetBy_41 (by decide) (st1_6 rfl) ?_
  refine V.aload_n (pc := 43) dX7_offsetBy_43 rfl ?_
  refine V.getR (pc := 44) dX7_offsetBy_44 fX7_22_6 rfl hSs.o hSs.f6 ?_
  refine V.iload_n (pc := 47) dX7_offsetBy_47 rfl ?_
  refine V.iald' (k := i) (pc := 48) dX7_offsetBy_48 hSs.t6 rfl (by omega) (by decide) ?_
  rw [h6]
  refine V.iload (pc := 49) dX7_offsetBy_49 rfl ?_
  refine V.isub (pc := 51) dX7_offsetBy_51 ?_
  rw [show nI s.2.2 - nI (s.2.1 * u * mk / l % mk) = iI ((s.2.2 : Int) - ((s.2.1 * u * mk / l % mk : Nat) : Int)) from by rw [← iI_nat, ← iI_nat, iI_sub]]
  refine V.aload_n (pc := 52) dX7_offsetBy_52 rfl ?_
  refine V.getI (pc := 53) dX7_offsetBy_53 fX7_9_6 rfl hSs.o ?_
  rw [h3]
  refine V.pS (as := [_, _]) (pc := 56) dX7_offsetBy_56 lX7_65 bX11_onRing sX11_onRing (x_onRing (d := d + 0) (m := mk) _ _ rfl hm.1 (by omega)) (by omega) rfl (Nat.le_of_ble_eq_true rfl) ?_
  rw [iI_toInt (by omega) (by omega), obD_ring hm.1 hs.2]
  exact V.iret (pc := 59) dX7_offsetBy_59 rfl ⟨rfl, rfl, rfl, rfl, rfl, rfl⟩
def KBm (oo : Nat) (I : mI) (e : Nat × Nat × Nat) : Prop := (I oo 2 = nI e.1 ∧ (e.1 ≠ 0 → I oo 8 = nI e.2.1 ∧ ∀ i, i < 2 * e.1 → I (oo + 2) i = nI (dg (2 * e.1) e.2.2 i))) ∧ e.1 ≤ 2 ∧ e.2.1 ≤ 400
def kstp (N K c : Nat) (e : Nat × Nat × Nat) : Nat × Nat × Nat := if e.1 = 0 ∨ (e.1 = N / 2 ∧ K < e.2.1) then (N / 2, K, c) else e
theorem x_kib {g : gG} {d : Nat} {T : mT} {n : Nat} {I : mI} {J : mJ} {F : mF} {oo N K c : Nat} {e : Nat × Nat × Nat} (v z : Int32) (hSs : SgS T F oo) (hv : v = nI (N / 2)) (hz : z = nI K) (hN : N = 2 ∨ N = 4) (hK : K ≤ 400) (hd : ∀ i, i < N → I (oo + 1) i = nI (dg N c i)) (hr : KBm oo I e) : Ct g mX7_keepIfBetter (d + 2) [.ref oo, .int v, .int z] 0 0 T n I J F (fun r' T' n' I' J' F' => r' = none ∧ T' = T ∧ n' = n ∧ J' = J ∧ F' = F ∧ (∀ a, a ≠ oo → a ≠ oo + 2 → I' a = I a) ∧ (∀ k, k ≠ 2 → k ≠ 8 → I' oo k = I oo k) ∧ KBm oo I' (kstp N K c e)) := by
  refine Ct.ofV (k := 0) (by decide) (Nat.le_of_ble_eq_true rfl) ?_
  show V g mX7_keepIfBetter (d + 2) _ 0 0 0 [some (.ref oo), some (.int v), some (.int z)] [] T n I J F
  subst hv hz
  obtain ⟨⟨r1, r2⟩, r3, r4⟩ := id hr
  refine V.aload_n (pc := 0) dX7_keepIfBetter_0 rfl ?_
  refine V.getI (pc := 1) dX7_keepIfBetter_1 fX7_69_6 rfl hSs.o ?_
  rw [r1]
  refine V.if_eq 23 (pc := 4) dX7_keepIfBetter_4 (by decide) (fun h4 => ?_) (fun h4 => ?_)
  · have z0 : e.1 = 0 := by
      rw [L0, nI_eq (by omega) (by omega)] at h4
      exact h4
    refine V.aload_n (pc := 23) dX7_keepIfBetter_23 rfl ?_
    refine V.iload_n (pc := 24) dX7_keepIfBetter_24 rfl ?_
    refine V.putI (pc := 25) dX7_keepIfBetter_25 fX7_28_6 (fun r h => by cases h; exact Or.inl rfl) rfl hSs.o ?_
    refine V.aload_n (pc := 28) dX7_keepIfBetter_28 rfl ?_
    refine V.iload_n (pc := 29) dX7_keepIfBetter_29 rfl ?_
    refine V.invU0 (as := [_]) (pc := 30) dX7_keepIfBetter_30 (ci := 6) rfl uX7_72_X7 bX5_keepTried nX5_keepTried hSs.o (x_keep7 (d := d + 0) _ hSs.1) (by omega) rfl (Nat.le_of_ble_eq_true rfl) ?_
    rintro _ _ _ _ _ _ ⟨rfl, rfl, rfl, rfl, rfl, rfl⟩
    exact V.vret (pc := 33) dX7_keepIfBetter_33 rfl ⟨rfl, rfl, rfl, rfl, rfl, fun a a1 a2 => by rw [cpyI_off a2, up2_off a1, up2_off a1], fun k k1 k2 => by rw [cpyI_off (by omega), up2_ne (by omega), up2_ne (by omega)], by
        rw [kstp, if_pos (Or.inl z0)]
        refine ⟨⟨by rw [cpyI_off (by omega), up2_same], fun _ => ⟨by rw [cpyI_off (by omega), up2_ne (by omega), up2_same], fun i hi => ?_⟩⟩, by show N / 2 ≤ 2; omega, by show K ≤ 400; omega⟩
        have hi2 : i < 2 * (N / 2) := hi
        show _ = nI (dg (2 * (N / 2)) c i)
        rw [show 2 * (N / 2) = N by omega, cpyI_in (by omega), up2_off (by omega), up2_off (by omega)]
        exact hd i (by omega)⟩
  · have z0 : ¬ e.1 = 0 := fun z => h4 (by rw [z]; rfl)
    refine V.iload_n (pc := 7) dX7_keepIfBetter_7 rfl ?_
    refine V.aload_n (pc := 8) dX7_keepIfBetter_8 rfl ?_
    refine V.getI (pc := 9) dX7_keepIfBetter_9 fX7_69_6 rfl hSs.o ?_
    rw [r1]
    refine V.icmp_ne 33 (pc := 12) dX7_keepIfBetter_12 (by decide) (fun h12 => ?_) (fun h12 => ?_)
    · have z1 : ¬ e.1 = N / 2 := fun z => h12 (by rw [z])
      exact V.vret (pc := 33) dX7_keepIfBetter_33 rfl ⟨rfl, rfl, rfl, rfl, rfl, fun _ _ _ => rfl, fun _ _ _ => rfl, by rw [kstp, if_neg (by omega)]; exact hr⟩
    · have z1 : N / 2 = e.1 := (nI_eq (by omega) (by omega)).mp h12
      refine V.iload_n (pc := 15) dX7_keepIfBetter_15 rfl ?_
      refine V.aload_n (pc := 16) dX7_keepIfBetter_16 rfl ?_
      refine V.getI (pc := 17) dX7_keepIfBetter_17 fX7_28_6 rfl hSs.o ?_
      rw [(r2 z0).1]
      refine V.icmp_ge 33 (pc := 20) dX7_keepIfBetter_20 (by decide) (fun h20 => ?_) (fun h20 => ?_)
      · rw [le32, nI_toInt (by omega), nI_toInt (by omega)] at h20
        exact V.vret (pc := 33) dX7_keepIfBetter_33 rfl ⟨rfl, rfl, rfl, rfl, rfl, fun _ _ _ => rfl, fun _ _ _ => rfl, by rw [kstp, if_neg (by omega)]; exact hr⟩
      · rw [le32, nI_toInt (by omega), nI_toInt (by omega)] at h20
        refine V.aload_n (pc := 23) dX7_keepIfBetter_23 rfl ?_
        refine V.iload_n (pc := 24) dX7_keepIfBetter_24 rfl ?_
        refine V.putI (pc := 25) dX7_keepIfBetter_25 fX7_28_6 (fun r h => by cases h; exact Or.inl rfl) rfl hSs.o ?_
        refine V.aload_n (pc := 28) dX7_keepIfBetter_28 rfl ?_
        refine V.iload_n (pc := 29) dX7_keepIfBetter_29 rfl ?_
        refine V.invU0 (as := [_]) (pc := 30) dX7_keepIfBetter_30 (ci := 6) rfl uX7_72_X7 bX5_keepTried nX5_keepTried hSs.o (x_keep7 (d := d + 0) _ hSs.1) (by omega) rfl (Nat.le_of_ble_eq_true rfl) ?_
        rintro _ _ _ _ _ _ ⟨rfl, rfl, rfl, rfl, rfl, rfl⟩
        exact V.vret (pc := 33) dX7_keepIfBetter_33 rfl ⟨rfl, rfl, rfl, rfl, rfl, fun a a1 a2 => by rw [cpyI_off a2, up2_off a1, up2_off a1], fun k k1 k2 => by rw [cpyI_off (by omega), up2_ne (by omega), up2_ne (by omega)], by
        rw [kstp, if_pos (Or.inr ⟨z1.symm, by omega⟩)]
        refine ⟨⟨by rw [cpyI_off (by omega), up2_same], fun _ => ⟨by rw [cpyI_off (by omega), up2_ne (by omega), up2_same], fun i hi => ?_⟩⟩, by show N / 2 ≤ 2; omega, by show K ≤ 400; omega⟩
        have hi2 : i < 2 * (N / 2) := hi
        show _ = nI (dg (2 * (N / 2)) c i)
        rw [show 2 * (N / 2) = N by omega, cpyI_in (by omega), up2_off (by omega), up2_off (by omega)]
        exact hd i (by omega)⟩
