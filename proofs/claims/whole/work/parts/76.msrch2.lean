theorem NX.next {S N c m : Nat} {I' : mI} (hN : N = 2 ∨ N = 4) (hv : vld S N c = true) (hd : ∀ i, i < N → I' (m + 14) i = nI (dg N c i)) : NX S N (c + 1) m I' (N - 1) (fun i => dg N c i + 1) I' := by
  have hb : ∀ i, i < N → dg N c i < S := fun i hi => vld_dg hN hv hi
  have hp : posC N (N - 1) (fun i => dg N c i + 1) = c + 1 := by
    rcases hN with rfl | rfl
    · rw [vld, if_pos rfl] at hv
      have := of_decide_eq_true hv
      simp [posC, pz, dg]; omega
    · rw [vld, if_neg (by decide)] at hv
      have := (of_decide_eq_true hv).1
      simp [posC, pz, dg]; omega
  refine ⟨by omega, fun _ _ => rfl, fun i hi => ?_, fun i hi => ?_, fun i j h1 h2 => ?_, ?_, fun i h1 h2 => ?_, ?_, ?_⟩
  · rw [hd i hi, ← iI_nat]; congr 1; show _ = ((dg N c i + 1 : Nat) : Int) - 1; omega
  · have := hb i (by omega); show 1 ≤ dg N c i + 1 ∧ dg N c i + 1 ≤ S; omega
  · show dg N c i + 1 ≠ dg N c j + 1
    rcases hN with rfl | rfl
    · omega
    · rw [vld, if_neg (by decide)] at hv
      obtain ⟨-, -, ⟨z1, z2, z3⟩, ⟨z4, z5⟩, z6⟩ := of_decide_eq_true hv
      rcases (show (i = 0 ∧ j = 1) ∨ (i = 0 ∧ j = 2) ∨ (i = 1 ∧ j = 2) by omega) with ⟨rfl, rfl⟩ | ⟨rfl, rfl⟩ | ⟨rfl, rfl⟩
      · exact fun e => z1 (Nat.succ.inj e)
      · exact fun e => z2 (Nat.succ.inj e)
      · exact fun e => z4 (Nat.succ.inj e)
  · have := hb (N - 1) (by omega); show dg N c (N - 1) + 1 ≤ S; omega
  · omega
  · rw [hp]; exact fun x h1 h2 => by omega
  · rw [hp]; exact Nat.le_refl _
theorem NX.begin {S N m : Nat} {I' : mI} (hN : N = 2 ∨ N = 4) (hS : N ≤ S) (hd : ∀ i, i < N - 1 → I' (m + 14) i = nI i) (hl : I' (m + 14) (N - 1) = -1) : NX S N 0 m I' (N - 1) (fun i => if i < N - 1 then i + 1 else 0) I' := by
  refine ⟨by omega, fun _ _ => rfl, fun i hi => ?_, fun i hi => ?_, fun i j h1 h2 => ?_, ?_, fun i h1 h2 => by omega, ?_, Nat.zero_le _⟩
  · by_cases q : i < N - 1
    · show _ = iI (((if i < N - 1 then i + 1 else 0 : Nat) : Int) - 1)
      rw [hd i q, if_pos q, ← iI_nat]; congr 1; omega
    · obtain rfl : i = N - 1 := by omega
      show _ = iI (((if N - 1 < N - 1 then N - 1 + 1 else 0 : Nat) : Int) - 1)
      rw [hl, if_neg q]; rfl
  · show 1 ≤ (if i < N - 1 then i + 1 else 0) ∧ (if i < N - 1 then i + 1 else 0) ≤ S
    rw [if_pos hi]; omega
  · show (if i < N - 1 then i + 1 else 0) ≠ (if j < N - 1 then j + 1 else 0)
    rw [if_pos (by omega), if_pos h2]; omega
  · show (if N - 1 < N - 1 then N - 1 + 1 else 0) ≤ S
    rw [if_neg (by omega)]; omega
  · rcases hN with rfl | rfl
    · intro c h1 h2; simp [posC, pz] at h2
    · rw [show posC 4 (4 - 1) (fun i => if i < 4 - 1 then i + 1 else 0) = 288 from rfl]
      exact nov288
def StkM (I : mI) (m : Nat) (s : List Nat) : Prop := StkOK s ∧ I (m + 2) 1 = nI s.length ∧ ∀ (i t : Nat), s[i]? = some t → I (m + 2) (82 + i) = nI t
theorem StkM.at {I : mI} {m i : Nat} {s : List Nat} (h : StkM I m s) (hi : i < s.length) : I (m + 2) (82 + i) = nI (stT s i) := by
  rw [h.2.2 i _ (List.getElem?_eq_getElem hi)]
  unfold stT
  rw [List.getD_eq_getElem?_getD, List.getElem?_eq_getElem hi]; rfl
theorem StkM.congr {I I' : mI} {m : Nat} {s : List Nat} (h : StkM I m s) (e : I' (m + 2) = I (m + 2)) : StkM I' m s := by unfold StkM; rw [e]; exact h
theorem RepM.stk {I : mI} {J : mJ} {m : Nat} {A : Ab} (hR : RepM I J m A) (hA : AbOK A) : StkM I m (stk (cor A)) := ⟨⟨hA.1.2.2.1, hA.1.2.2.2.1⟩, hR.h1, hR.2.2.1.2.2.1⟩
theorem c_noRow {g : gG} {d : Nat} {T : mT} {n : Nat} {I : mI} {J : mJ} {F : mF} {m : Nat} (hM : MS T F m) : Ct g mX12_noRow (d + 0) [.ref m] 0 0 T n I J F (fun r' T' n' I' J' F' => r' = none ∧ T' = T ∧ n' = n ∧ J' = J ∧ F' = F ∧ (∀ b, b ≠ m + 14 → I' b = I b)) := by
  refine Ct.ofV (k := 1) (by decide) (Nat.le_of_ble_eq_true rfl) ?_
  show V g mX12_noRow (d + 0) _ 0 0 0 [some (.ref m), none] [] T n I J F
  refine V.iconst (v := 0) (pc := 0) dX12_noRow_0 (by decide) ?_
  refine V.isn (pc := 1) dX12_noRow_1 (by decide) (st1_1 rfl) ?_
  refine V.iload_n (pc := 2) dX12_noRow_2 rfl ?_
  refine V.iconst (v := 4) (pc := 3) dX12_noRow_3 (by decide) ?_
  refine V.icmp_ge 20 (pc := 4) dX12_noRow_4 (by decide) (fun h4 => absurd h4 (by decide)) (fun h4 => ?_)
  refine V.aload_n (pc := 7) dX12_noRow_7 rfl ?_
  refine V.getR (pc := 8) dX12_noRow_8 fX12_65_11 rfl hM.o hM.f32 ?_
  refine V.iload_n (pc := 11) dX12_noRow_11 rfl ?_
  refine V.iconst (v := (-1)) (pc := 12) dX12_noRow_12 (by decide) ?_
  refine V.iast' (k := 0) (pc := 13) dX12_noRow_13 hM.t32 rfl (by decide) (by decide) ?_
  refine V.iinc (v := 1) (pc := 14) dX12_noRow_14 (by decide) rfl (by decide) (st1_1 rfl) ?_
  refine V.goto 2 (pc := 17) dX12_noRow_17 (by decide) ?_
  refine V.iload_n (pc := 2) dX12_noRow_2 rfl ?_
  refine V.iconst (v := 4) (pc := 3) dX12_noRow_3 (by decide) ?_
  refine V.icmp_ge 20 (pc := 4) dX12_noRow_4 (by decide) (fun h4 => absurd h4 (by decide)) (fun h4 => ?_)
  refine V.aload_n (pc := 7) dX12_noRow_7 rfl ?_
  refine V.getR (pc := 8) dX12_noRow_8 fX12_65_11 rfl hM.o hM.f32 ?_
  refine V.iload_n (pc := 11) dX12_noRow_11 rfl ?_
  refine V.iconst (v := (-1)) (pc := 12) dX12_noRow_12 (by decide) ?_
  refine V.iast' (k := 1) (pc := 13) dX12_noRow_13 hM.t32 rfl (by decide) (by decide) ?_
  refine V.iinc (v := 2) (pc := 14) dX12_noRow_14 (by decide) rfl (by decide) (st1_1 rfl) ?_
  refine V.goto 2 (pc := 17) dX12_noRow_17 (by decide) ?_
  refine V.iload_n (pc := 2) dX12_noRow_2 rfl ?_
  refine V.iconst (v := 4) (pc := 3) dX12_noRow_3 (by decide) ?_
  refine V.icmp_ge 20 (pc := 4) dX12_noRow_4 (by decide) (fun h4 => absurd h4 (by decide)) (fun h4 => ?_)
  refine V.aload_n (pc := 7) dX12_noRow_7 rfl ?_
  refine V.getR (pc := 8) dX12_noRow_8 fX12_65_11 rfl hM.o hM.f32 ?_
  refine V.iload_n (pc := 11) dX12_noRow_11 rfl ?_
  refine V.iconst (v := (-1)) (pc := 12) dX12_noRow_12 (by decide) ?_
  refine V.iast' (k := 2) (pc := 13) dX12_noRow_13 hM.t32 rfl (by decide) (by decide) ?_
  refine V.iinc (v := 3) (pc := 14) dX12_noRow_14 (by decide) rfl (by decide) (st1_1 rfl) ?_
  refine V.goto 2 (pc := 17) dX12_noRow_17 (by decide) ?_
  refine V.iload_n (pc := 2) dX12_noRow_2 rfl ?_
  refine V.iconst (v := 4) (pc := 3) dX12_noRow_3 (by decide) ?_
  refine V.icmp_ge 20 (pc := 4) dX12_noRow_4 (by decide) (fun h4 => absurd h4 (by decide)) (fun h4 => ?_)
  refine V.aload_n (pc := 7) dX12_noRow_7 rfl ?_
  refine V.getR (pc := 8) dX12_noRow_8 fX12_65_11 rfl hM.o hM.f32 ?_
  refine V.iload_n (pc := 11) dX12_noRow_11 rfl ?_
  refine V.iconst (v := (-1)) (pc := 12) dX12_noRow_12 (by decide) ?_
  refine V.iast' (k := 3) (pc := 13) dX12_noRow_13 hM.t32 rfl (by decide) (by decide) ?_
  refine V.iinc (v := 4) (pc := 14) dX12_noRow_14 (by decide) rfl (by decide) (st1_1 rfl) ?_
  refine V.goto 2 (pc := 17) dX12_noRow_17 (by decide) ?_
  refine V.iload_n (pc := 2) dX12_noRow_2 rfl ?_
  refine V.iconst (v := 4) (pc := 3) dX12_noRow_3 (by decide) ?_
  refine V.icmp_ge 20 (pc := 4) dX12_noRow_4 (by decide) (fun h4 => ?_) (fun h4 => absurd (by decide) h4)
  exact V.vret (pc := 20) dX12_noRow_20 rfl ⟨rfl, rfl, rfl, rfl, rfl, fun b hb => by rw [up2_off hb, up2_off hb, up2_off hb, up2_off hb]⟩
theorem c_begin2 {g : gG} {d : Nat} {T : mT} {n : Nat} {I : mI} {J : mJ} {F : mF} {m S : Nat} (hM : MS T F m) (hS : 2 ≤ S) : Ct g mX12_beginRow (d + 1) [.ref m, .int 2] 0 0 T n I J F (fun r' T' n' I' J' F' => r' = none ∧ T' = T ∧ n' = n ∧ J' = J ∧ F' = F ∧ (∀ b, b ≠ m + 14 → I' b = I b) ∧ ∃ e, NX S 2 0 m I' (2 - 1) e I') := by
  refine Ct.ofV (k := 1) (by decide) (Nat.le_of_ble_eq_true rfl) ?_
  show V g mX12_beginRow (d + 1) _ 0 0 0 [some (.ref m), some (.int 2), none] [] T n I J F
  refine V.aload_n (pc := 0) dX12_beginRow_0 rfl ?_
  refine V.invV0 (as := []) (pc := 1) dX12_beginRow_1 lX12_375 bX12_noRow nX12_noRow (ci := 11) rfl eX12_noRow hM.o (c_noRow (d := d + 0) hM) (by omega) rfl (Nat.le_of_ble_eq_true rfl) ?_
  rintro _ _ _ I2 _ _ ⟨rfl, rfl, rfl, rfl, rfl, g0⟩
  refine V.iconst (v := 0) (pc := 4) dX12_beginRow_4 (by decide) ?_
  refine V.isn (pc := 5) dX12_beginRow_5 (by decide) (st1_2 rfl) ?_
  refine V.iload_n (pc := 6) dX12_beginRow_6 rfl ?_
  refine V.iload_n (pc := 7) dX12_beginRow_7 rfl ?_
  refine V.iconst (v := 1) (pc := 8) dX12_beginRow_8 (by decide) ?_
  refine V.isub (pc := 9) dX12_beginRow_9 ?_
  refine V.icmp_ge 26 (pc := 10) dX12_beginRow_10 (by decide) (fun h10 => absurd h10 (by decide)) (fun h10 => ?_)
  refine V.aload_n (pc := 13) dX12_beginRow_13 rfl ?_
  refine V.getR (pc := 14) dX12_beginRow_14 fX12_65_11 rfl hM.o hM.f32 ?_
  refine V.iload_n (pc := 17) dX12_beginRow_17 rfl ?_
  refine V.iload_n (pc := 18) dX12_beginRow_18 rfl ?_
  refine V.iast' (k := 0) (pc := 19) dX12_beginRow_19 hM.t32 rfl (by decide) (by decide) ?_
  refine V.iinc (v := 1) (pc := 20) dX12_beginRow_20 (by decide) rfl (by decide) (st1_2 rfl) ?_
  refine V.goto 6 (pc := 23) dX12_beginRow_23 (by decide) ?_
  refine V.iload_n (pc := 6) dX12_beginRow_6 rfl ?_
  refine V.iload_n (pc := 7) dX12_beginRow_7 rfl ?_
  refine V.iconst (v := 1) (pc := 8) dX12_beginRow_8 (by decide) ?_
  refine V.isub (pc := 9) dX12_beginRow_9 ?_
  refine V.icmp_ge 26 (pc := 10) dX12_beginRow_10 (by decide) (fun h10 => ?_) (fun h10 => absurd (by decide) h10)
  refine V.aload_n (pc := 26) dX12_beginRow_26 rfl ?_
  refine V.getR (pc := 27) dX12_beginRow_27 fX12_65_11 rfl hM.o hM.f32 ?_
  refine V.iload_n (pc := 30) dX12_beginRow_30 rfl ?_
  refine V.iconst (v := 1) (pc := 31) dX12_beginRow_31 (by decide) ?_
  refine V.isub (pc := 32) dX12_beginRow_32 ?_
  refine V.iconst (v := (-1)) (pc := 33) dX12_beginRow_33 (by decide) ?_
  refine V.iast' (k := 1) (pc := 34) dX12_beginRow_34 hM.t32 rfl (by decide) (by decide) ?_
  exact V.vret (pc := 35) dX12_beginRow_35 rfl ⟨rfl, rfl, rfl, rfl, rfl, fun b hb => by rw [up2_off hb, up2_off hb]; exact g0 b hb, _, NX.begin (by omega) hS (fun i hi => by
                    rcases (show i = 0 by omega) with rfl <;> (simp (disch := omega) only [up2_off, up2_ne, up2_same]; rfl)) up2_same⟩
theorem c_begin4 {g : gG} {d : Nat} {T : mT} {n : Nat} {I : mI} {J : mJ} {F : mF} {m S : Nat} (hM : MS T F m) (hS : 4 ≤ S) : Ct g mX12_beginRow (d + 1) [.ref m, .int 4] 0 0 T n I J F (fun r' T' n' I' J' F' => r' = none ∧ T' = T ∧ n' = n ∧ J' = J ∧ F' = F ∧ (∀ b, b ≠ m + 14 → I' b = I b) ∧ ∃ e, NX S 4 0 m I' (4 - 1) e I') := by
  refine Ct.ofV (k := 1) (by decide) (Nat.le_of_ble_eq_true rfl) ?_
  show V g mX12_beginRow (d + 1) _ 0 0 0 [some (.ref m), some (.int 4), none] [] T n I J F
  refine V.aload_n (pc := 0) dX12_beginRow_0 rfl ?_
  refine V.invV0 (as := []) (pc := 1) dX12_beginRow_1 lX12_375 bX12_noRow nX12_noRow (ci := 11) rfl eX12_noRow hM.o (c_noRow (d := d + 0) hM) (by omega) rfl (Nat.le_of_ble_eq_true rfl) ?_
  rintro _ _ _ I2 _ _ ⟨rfl, rfl, rfl, rfl, rfl, g0⟩
  refine V.iconst (v := 0) (pc := 4) dX12_beginRow_4 (by decide) ?_
  refine V.isn (pc := 5) dX12_beginRow_5 (by decide) (st1_2 rfl) ?_
  refine V.iload_n (pc := 6) dX12_beginRow_6 rfl ?_
  refine V.iload_n (pc := 7) dX12_beginRow_7 rfl ?_
  refine V.iconst (v := 1) (pc := 8) dX12_beginRow_8 (by decide) ?_
  refine V.isub (pc := 9) dX12_beginRow_9 ?_
  refine V.icmp_ge 26 (pc := 10) dX12_beginRow_10 (by decide) (fun h10 => absurd h10 (by decide)) (fun h10 => ?_)
  refine V.aload_n (pc := 13) dX12_beginRow_13 rfl ?_
  refine V.getR (pc := 14) dX12_beginRow_14 fX12_65_11 rfl hM.o hM.f32 ?_
  refine V.iload_n (pc := 17) dX12_beginRow_17 rfl ?_
  refine V.iload_n (pc := 18) dX12_beginRow_18 rfl ?_
  refine V.iast' (k := 0) (pc := 19) dX12_beginRow_19 hM.t32 rfl (by decide) (by decide) ?_
  refine V.iinc (v := 1) (pc := 20) dX12_beginRow_20 (by decide) rfl (by decide) (st1_2 rfl) ?_
  refine V.goto 6 (pc := 23) dX12_beginRow_23 (by decide) ?_
  refine V.iload_n (pc := 6) dX12_beginRow_6 rfl ?_
  refine V.iload_n (pc := 7) dX12_beginRow_7 rfl ?_
  refine V.iconst (v := 1) (pc := 8) dX12_beginRow_8 (by decide) ?_
  refine V.isub (pc := 9) dX12_beginRow_9 ?_
  refine V.icmp_ge 26 (pc := 10) dX12_beginRow_10 (by decide) (fun h10 => absurd h10 (by decide)) (fun h10 => ?_)
  refine V.aload_n (pc := 13) dX12_beginRow_13 rfl ?_
  refine V.getR (pc := 14) dX12_beginRow_14 fX12_65_11 rfl hM.o hM.f32 ?_
  refine V.iload_n (pc := 17) dX12_beginRow_17 rfl ?_
  refine V.iload_n (pc := 18) dX12_beginRow_18 rfl ?_
  refine V.iast' (k := 1) (pc := 19) dX12_beginRow_19 hM.t32 rfl (by decide) (by decide) ?_
  refine V.iinc (v := 2) (pc := 20) dX12_beginRow_20 (by decide) rfl (by decide) (st1_2 rfl) ?_
  refine V.goto 6 (pc := 23) dX12_beginRow_23 (by decide) ?_
  refine V.iload_n (pc := 6) dX12_beginRow_6 rfl ?_
  refine V.iload_n (pc := 7) dX12_beginRow_7 rfl ?_
  refine V.iconst (v := 1) (pc := 8) dX12_beginRow_8 (by decide) ?_
  refine V.isub (pc := 9) dX12_beginRow_9 ?_
  refine V.icmp_ge 26 (pc := 10) dX12_beginRow_10 (by decide) (fun h10 => absurd h10 (by decide)) (fun h10 => ?_)
  refine V.aload_n (pc := 13) dX12_beginRow_13 rfl ?_
  refine V.getR (pc := 14) dX12_beginRow_14 fX12_65_11 rfl hM.o hM.f32 ?_
  refine V.iload_n (pc := 17) dX12_beginRow_17 rfl ?_
  refine V.iload_n (pc := 18) dX12_beginRow_18 rfl ?_
  refine V.iast' (k := 2) (pc := 19) dX12_beginRow_19 hM.t32 rfl (by decide) (by decide) ?_
  refine V.iinc (v := 3) (pc := 20) dX12_beginRow_20 (by decide) rfl (by decide) (st1_2 rfl) ?_
  refine V.goto 6 (pc := 23) dX12_beginRow_23 (by decide) ?_
  refine V.iload_n (pc := 6) dX12_beginRow_6 rfl ?_
  refine V.iload_n (pc := 7) dX12_beginRow_7 rfl ?_
  refine V.iconst (v := 1) (pc := 8) dX12_beginRow_8 (by decide) ?_
  refine V.isub (pc := 9) dX12_beginRow_9 ?_
  refine V.icmp_ge 26 (pc := 10) dX12_beginRow_10 (by decide) (fun h10 => ?_) (fun h10 => absurd (by decide) h10)
  refine V.aload_n (pc := 26) dX12_beginRow_26 rfl ?_
  refine V.getR (pc := 27) dX12_beginRow_27 fX12_65_11 rfl hM.o hM.f32 ?_
  refine V.iload_n (pc := 30) dX12_beginRow_30 rfl ?_
  refine V.iconst (v := 1) (pc := 31) dX12_beginRow_31 (by decide) ?_
  refine V.isub (pc := 32) dX12_beginRow_32 ?_
  refine V.iconst (v := (-1)) (pc := 33) dX12_beginRow_33 (by decide) ?_
  refine V.iast' (k := 3) (pc := 34) dX12_beginRow_34 hM.t32 rfl (by decide) (by decide) ?_
  exact V.vret (pc := 35) dX12_beginRow_35 rfl ⟨rfl, rfl, rfl, rfl, rfl, fun b hb => by rw [up2_off hb, up2_off hb, up2_off hb, up2_off hb]; exact g0 b hb, _, NX.begin (by omega) hS (fun i hi => by
                    rcases (show i = 0 ∨ i = 1 ∨ i = 2 by omega) with rfl | rfl | rfl <;> (simp (disch := omega) only [up2_off, up2_ne, up2_same]; rfl)) up2_same⟩
theorem c_drivers2 {g : gG} {d : Nat} {T : mT} {n : Nat} {I : mI} {J : mJ} {F : mF} {m c : Nat} {s : List Nat} (hM : MS T F m) (hs : StkM I m s) (hv : vld s.length 2 c = true) (hd : ∀ i, i < 2 → I (m + 14) i = nI (dg 2 c i)) : Ct g mX12_drivers (d + 0) [.ref m, .int 2] 0 0 T n I J F (pureQ T n I J F (some (.long (lN (drvN s 2 c))))) := by
  refine Ct.ofV (k := 3) (by decide) (Nat.le_of_ble_eq_true rfl) ?_
  show V g mX12_drivers (d + 0) _ 0 0 0 [some (.ref m), some (.int 2), none, none, none] [] T n I J F
  have h12 := hs.1.1
  have v0 := vld_dg (i := 0) (by omega) hv (by omega)
  have b0 := stT_bd hs.1 v0
  refine V.lconst (v := 1) (pc := 0) dX12_drivers_0 (by decide) ?_
  refine V.lsn (pc := 1) dX12_drivers_1 (by decide) (st2_2 rfl) ?_
  refine V.iconst (v := 0) (pc := 2) dX12_drivers_2 (by decide) ?_
  refine V.is (pc := 3) dX12_drivers_3 (by decide) (st1_4 rfl) ?_
  refine V.iload (pc := 5) dX12_drivers_5 rfl ?_
  refine V.iload_n (pc := 7) dX12_drivers_7 rfl ?_
  refine V.icmp_ge 36 (pc := 8) dX12_drivers_8 (by decide) (fun h8 => absurd h8 (by decide)) (fun h8 => ?_)
  refine V.lload_n (pc := 11) dX12_drivers_11 rfl ?_
  refine V.aload_n (pc := 12) dX12_drivers_12 rfl ?_
  refine V.getR (pc := 13) dX12_drivers_13 fX12_13_11 rfl hM.o hM.f3 ?_
  refine V.bipush (v := 82) (pc := 16) dX12_drivers_16 (by decide) ?_
  refine V.aload_n (pc := 18) dX12_drivers_18 rfl ?_
  refine V.getR (pc := 19) dX12_drivers_19 fX12_65_11 rfl hM.o hM.f32 ?_
  refine V.iload (pc := 22) dX12_drivers_22 rfl ?_
  refine V.iald' (k := 0) (pc := 24) dX12_drivers_24 hM.t32 rfl (by decide) (by decide) ?_
  rw [hd 0 (by omega)]
  refine V.iadd (pc := 25) dX12_drivers_25 ?_
  rw [L82, nI_add]
  refine V.iald' (k := 82 + dg 2 c 0) (pc := 26) dX12_drivers_26 hM.t3 rfl (by omega) (by decide) ?_
  rw [hs.at v0]
  refine V.i2l (pc := 27) dX12_drivers_27 ?_
  rw [nI_l (by omega)]
  refine V.lmul (pc := 28) dX12_drivers_28 ?_
  rw [show (1 : Int64) = lN 1 from rfl, lN_mul, Nat.one_mul]
  refine V.lsn (pc := 29) dX12_drivers_29 (by decide) (st2_2 rfl) ?_
  refine V.iinc (v := 2) (pc := 30) dX12_drivers_30 (by decide) rfl (by decide) (st1_4 rfl) ?_
  refine V.goto 5 (pc := 33) dX12_drivers_33 (by decide) ?_
  refine V.iload (pc := 5) dX12_drivers_5 rfl ?_
  refine V.iload_n (pc := 7) dX12_drivers_7 rfl ?_
  refine V.icmp_ge 36 (pc := 8) dX12_drivers_8 (by decide) (fun h8 => ?_) (fun h8 => absurd (by decide) h8)
  refine V.lload_n (pc := 36) dX12_drivers_36 rfl ?_
  exact V.lret (pc := 37) dX12_drivers_37 rfl ⟨rfl, rfl, rfl, rfl, rfl, rfl⟩
theorem c_drivers4 {g : gG} {d : Nat} {T : mT} {n : Nat} {I : mI} {J : mJ} {F : mF} {m c : Nat} {s : List Nat} (hM : MS T F m) (hs : StkM I m s) (hv : vld s.length 4 c = true) (hd : ∀ i, i < 4 → I (m + 14) i = nI (dg 4 c i)) : Ct g mX12_drivers (d + 0) [.ref m, .int 4] 0 0 T n I J F (pureQ T n I J F (some (.long (lN (drvN s 4 c))))) := by
  refine Ct.ofV (k := 3) (by decide) (Nat.le_of_ble_eq_true rfl) ?_
  show V g mX12_drivers (d + 0) _ 0 0 0 [some (.ref m), some (.int 4), none, none, none] [] T n I J F
  have h12 := hs.1.1
  have v0 := vld_dg (i := 0) (by omega) hv (by omega)
  have b0 := stT_bd hs.1 v0
  have v2 := vld_dg (i := 2) (by omega) hv (by omega)
  have b2 := stT_bd hs.1 v2
  refine V.lconst (v := 1) (pc := 0) dX12_drivers_0 (by decide) ?_
  refine V.lsn (pc := 1) dX12_drivers_1 (by decide) (st2_2 rfl) ?_
  refine V.iconst (v := 0) (pc := 2) dX12_drivers_2 (by decide) ?_
  refine V.is (pc := 3) dX12_drivers_3 (by decide) (st1_4 rfl) ?_
  refine V.iload (pc := 5) dX12_drivers_5 rfl ?_
  refine V.iload_n (pc := 7) dX12_drivers_7 rfl ?_
  refine V.icmp_ge 36 (pc := 8) dX12_drivers_8 (by decide) (fun h8 => absurd h8 (by decide)) (fun h8 => ?_)
  refine V.lload_n (pc := 11) dX12_drivers_11 rfl ?_
  refine V.aload_n (pc := 12) dX12_drivers_12 rfl ?_
  refine V.getR (pc := 13) dX12_drivers_13 fX12_13_11 rfl hM.o hM.f3 ?_
  refine V.bipush (v := 82) (pc := 16) dX12_drivers_16 (by decide) ?_
  refine V.aload_n (pc := 18) dX12_drivers_18 rfl ?_
  refine V.getR (pc := 19) dX12_drivers_19 fX12_65_11 rfl hM.o hM.f32 ?_
  refine V.iload (pc := 22) dX12_drivers_22 rfl ?_
  refine V.iald' (k := 0) (pc := 24) dX12_drivers_24 hM.t32 rfl (by decide) (by decide) ?_
  rw [hd 0 (by omega)]
  refine V.iadd (pc := 25) dX12_drivers_25 ?_
  rw [L82, nI_add]
  refine V.iald' (k := 82 + dg 4 c 0) (pc := 26) dX12_drivers_26 hM.t3 rfl (by omega) (by decide) ?_
  rw [hs.at v0]
  refine V.i2l (pc := 27) dX12_drivers_27 ?_
  rw [nI_l (by omega)]
  refine V.lmul (pc := 28) dX12_drivers_28 ?_
  rw [show (1 : Int64) = lN 1 from rfl, lN_mul, Nat.one_mul]
  refine V.lsn (pc := 29) dX12_drivers_29 (by decide) (st2_2 rfl) ?_
  refine V.iinc (v := 2) (pc := 30) dX12_drivers_30 (by decide) rfl (by decide) (st1_4 rfl) ?_
  refine V.goto 5 (pc := 33) dX12_drivers_33 (by decide) ?_
  refine V.iload (pc := 5) dX12_drivers_5 rfl ?_
  refine V.iload_n (pc := 7) dX12_drivers_7 rfl ?_
  refine V.icmp_ge 36 (pc := 8) dX12_drivers_8 (by decide) (fun h8 => absurd h8 (by decide)) (fun h8 => ?_)
  refine V.lload_n (pc := 11) dX12_drivers_11 rfl ?_
  refine V.aload_n (pc := 12) dX12_drivers_12 rfl ?_
  refine V.getR (pc := 13) dX12_drivers_13 fX12_13_11 rfl hM.o hM.f3 ?_
  refine V.bipush (v := 82) (pc := 16) dX12_drivers_16 (by decide) ?_
  refine V.aload_n (pc := 18) dX12_drivers_18 rfl ?_
  refine V.getR (pc := 19) dX12_drivers_19 fX12_65_11 rfl hM.o hM.f32 ?_
  refine V.iload (pc := 22) dX12_drivers_22 rfl ?_
  refine V.iald' (k := 2) (pc := 24) dX12_drivers_24 hM.t32 rfl (by decide) (by decide) ?_
  rw [hd 2 (by omega)]
  refine V.iadd (pc := 25) dX12_drivers_25 ?_
  rw [L82, nI_add]
  refine V.iald' (k := 82 + dg 4 c 2) (pc := 26) dX12_drivers_26 hM.t3 rfl (by omega) (by decide) ?_
  rw [hs.at v2]
  refine V.i2l (pc := 27) dX12_drivers_27 ?_
  rw [nI_l (by omega)]
  refine V.lmul (pc := 28) dX12_drivers_28 ?_
  rw [lN_mul]
  refine V.lsn (pc := 29) dX12_drivers_29 (by decide) (st2_2 rfl) ?_
  refine V.iinc (v := 4) (pc := 30) dX12_drivers_30 (by decide) rfl (by decide) (st1_4 rfl) ?_
  refine V.goto 5 (pc := 33) dX12_drivers_33 (by decide) ?_
  refine V.iload (pc := 5) dX12_drivers_5 rfl ?_
  refine V.iload_n (pc := 7) dX12_drivers_7 rfl ?_
  refine V.icmp_ge 36 (pc := 8) dX12_drivers_8 (by decide) (fun h8 => ?_) (fun h8 => absurd (by decide) h8)
  refine V.lload_n (pc := 36) dX12_drivers_36 rfl ?_
  exact V.lret (pc := 37) dX12_drivers_37 rfl ⟨rfl, rfl, rfl, rfl, rfl, rfl⟩
theorem c_drivers {g : gG} {d : Nat} {T : mT} {n : Nat} {I : mI} {J : mJ} {F : mF} {m c N : Nat} {s : List Nat} (x : Int32) (hM : MS T F m) (hN : N = 2 ∨ N = 4) (hx : x = nI N) (hs : StkM I m s) (hv : vld s.length N c = true) (hd : ∀ i, i < N → I (m + 14) i = nI (dg N c i)) : Ct g mX12_drivers (d + 0) [.ref m, .int x] 0 0 T n I J F (pureQ T n I J F (some (.long (lN (drvN s N c))))) := by
  subst hx
  rcases hN with rfl | rfl
  · exact c_drivers2 hM hs hv hd
  · exact c_drivers4 hM hs hv hd
theorem c_drivens2 {g : gG} {d : Nat} {T : mT} {n : Nat} {I : mI} {J : mJ} {F : mF} {m c : Nat} {s : List Nat} (hM : MS T F m) (hs : StkM I m s) (hv : vld s.length 2 c = true) (hd : ∀ i, i < 2 → I (m + 14) i = nI (dg 2 c i)) : Ct g mX12_drivens (d + 0) [.ref m, .int 2] 0 0 T n I J F (pureQ T n I J F (some (.long (lN (drnN s 2 c))))) := by
  refine Ct.ofV (k := 3) (by decide) (Nat.le_of_ble_eq_true rfl) ?_
  show V g mX12_drivens (d + 0) _ 0 0 0 [some (.ref m), some (.int 2), none, none, none] [] T n I J F
  have h12 := hs.1.1
  have v1 := vld_dg (i := 1) (by omega) hv (by omega)
  have b1 := stT_bd hs.1 v1
  refine V.lconst (v := 1) (pc := 0) dX12_drivens_0 (by decide) ?_
  refine V.lsn (pc := 1) dX12_drivens_1 (by decide) (st2_2 rfl) ?_
  refine V.iconst (v := 1) (pc := 2) dX12_drivens_2 (by decide) ?_
  refine V.is (pc := 3) dX12_drivens_3 (by decide) (st1_4 rfl) ?_
  refine V.iload (pc := 5) dX12_drivens_5 rfl ?_
  refine V.iload_n (pc := 7) dX12_drivens_7 rfl ?_
  refine V.icmp_ge 36 (pc := 8) dX12_drivens_8 (by decide) (fun h8 => absurd h8 (by decide)) (fun h8 => ?_)
  refine V.lload_n (pc := 11) dX12_drivens_11 rfl ?_
  refine V.aload_n (pc := 12) dX12_drivens_12 rfl ?_
  refine V.getR (pc := 13) dX12_drivens_13 fX12_13_11 rfl hM.o hM.f3 ?_
  refine V.bipush (v := 82) (pc := 16) dX12_drivens_16 (by decide) ?_
  refine V.aload_n (pc := 18) dX12_drivens_18 rfl ?_
  refine V.getR (pc := 19) dX12_drivens_19 fX12_65_11 rfl hM.o hM.f32 ?_
  refine V.iload (pc := 22) dX12_drivens_22 rfl ?_
  refine V.iald' (k := 1) (pc := 24) dX12_drivens_24 hM.t32 rfl (by decide) (by decide) ?_
  rw [hd 1 (by omega)]
  refine V.iadd (pc := 25) dX12_drivens_25 ?_
  rw [L82, nI_add]
  refine V.iald' (k := 82 + dg 2 c 1) (pc := 26) dX12_drivens_26 hM.t3 rfl (by omega) (by decide) ?_
  rw [hs.at v1]
  refine V.i2l (pc := 27) dX12_drivens_27 ?_
  rw [nI_l (by omega)]
  refine V.lmul (pc := 28) dX12_drivens_28 ?_
  rw [show (1 : Int64) = lN 1 from rfl, lN_mul, Nat.one_mul]
  refine V.lsn (pc := 29) dX12_drivens_29 (by decide) (st2_2 rfl) ?_
  refine V.iinc (v := 3) (pc := 30) dX12_drivens_30 (by decide) rfl (by decide) (st1_4 rfl) ?_
  refine V.goto 5 (pc := 33) dX12_drivens_33 (by decide) ?_
  refine V.iload (pc := 5) dX12_drivens_5 rfl ?_
  refine V.iload_n (pc := 7) dX12_drivens_7 rfl ?_
  refine V.icmp_ge 36 (pc := 8) dX12_drivens_8 (by decide) (fun h8 => ?_) (fun h8 => absurd (by decide) h8)
  refine V.lload_n (pc := 36) dX12_drivens_36 rfl ?_
  exact V.lret (pc := 37) dX12_drivens_37 rfl ⟨rfl, rfl, rfl, rfl, rfl, rfl⟩
theorem c_drivens4 {g : gG} {d : Nat} {T : mT} {n : Nat} {I : mI} {J : mJ} {F : mF} {m c : Nat} {s : List Nat} (hM : MS T F m) (hs : StkM I m s) (hv : vld s.length 4 c = true) (hd : ∀ i, i < 4 → I (m + 14) i = nI (dg 4 c i)) : Ct g mX12_drivens (d + 0) [.ref m, .int 4] 0 0 T n I J F (pureQ T n I J F (some (.long (lN (drnN s 4 c))))) := by
  refine Ct.ofV (k := 3) (by decide) (Nat.le_of_ble_eq_true rfl) ?_
  show V g mX12_drivens (d + 0) _ 0 0 0 [some (.ref m), some (.int 4), none, none, none] [] T n I J F
  have h12 := hs.1.1
  have v1 := vld_dg (i := 1) (by omega) hv (by omega)
  have b1 := stT_bd hs.1 v1
  have v3 := vld_dg (i := 3) (by omega) hv (by omega)
  have b3 := stT_bd hs.1 v3
  refine V.lconst (v := 1) (pc := 0) dX12_drivens_0 (by decide) ?_
  refine V.lsn (pc := 1) dX12_drivens_1 (by decide) (st2_2 rfl) ?_
  refine V.iconst (v := 1) (pc := 2) dX12_drivens_2 (by decide) ?_
  refine V.is (pc := 3) dX12_drivens_3 (by decide) (st1_4 rfl) ?_
  refine V.iload (pc := 5) dX12_drivens_5 rfl ?_
  refine V.iload_n (pc := 7) dX12_drivens_7 rfl ?_
  refine V.icmp_ge 36 (pc := 8) dX12_drivens_8 (by decide) (fun h8 => absurd h8 (by decide)) (fun h8 => ?_)
  refine V.lload_n (pc := 11) dX12_drivens_11 rfl ?_
  refine V.aload_n (pc := 12) dX12_drivens_12 rfl ?_
  refine V.getR (pc := 13) dX12_drivens_13 fX12_13_11 rfl hM.o hM.f3 ?_
  refine V.bipush (v := 82) (pc := 16) dX12_drivens_16 (by decide) ?_
  refine V.aload_n (pc := 18) dX12_drivens_18 rfl ?_
  refine V.getR (pc := 19) dX12_drivens_19 fX12_65_11 rfl hM.o hM.f32 ?_
  refine V.iload (pc := 22) dX12_drivens_22 rfl ?_
  refine V.iald' (k := 1) (pc := 24) dX12_drivens_24 hM.t32 rfl (by decide) (by decide) ?_
  rw [hd 1 (by omega)]
  refine V.iadd (pc := 25) dX12_drivens_25 ?_
  rw [L82, nI_add]
  refine V.iald' (k := 82 + dg 4 c 1) (pc := 26) dX12_drivens_26 hM.t3 rfl (by omega) (by decide) ?_
  rw [hs.at v1]
  refine V.i2l (pc := 27) dX12_drivens_27 ?_
  rw [nI_l (by omega)]
  refine V.lmul (pc := 28) dX12_drivens_28 ?_
  rw [show (1 : Int64) = lN 1 from rfl, lN_mul, Nat.one_mul]
  refine V.lsn (pc := 29) dX12_drivens_29 (by decide) (st2_2 rfl) ?_
  refine V.iinc (v := 3) (pc := 30) dX12_drivens_30 (by decide) rfl (by decide) (st1_4 rfl) ?_
  refine V.goto 5 (pc := 33) dX12_drivens_33 (by decide) ?_
  refine V.iload (pc := 5) dX12_drivens_5 rfl ?_
  refine V.iload_n (pc := 7) dX12_drivens_7 rfl ?_
  refine V.icmp_ge 36 (pc := 8) dX12_drivens_8 (by decide) (fun h8 => absurd h8 (by decide)) (fun h8 => ?_)
  refine V.lload_n (pc := 11) dX12_drivens_11 rfl ?_
  refine V.aload_n (pc := 12) dX12_drivens_12 rfl ?_
  refine V.getR (pc := 13) dX12_drivens_13 fX12_13_11 rfl hM.o hM.f3 ?_
  refine V.bipush (v := 82) (pc := 16) dX12_drivens_16 (by decide) ?_
  refine V.aload_n (pc := 18) dX12_drivens_18 rfl ?_
  refine V.getR (pc := 19) dX12_drivens_19 fX12_65_11 rfl hM.o hM.f32 ?_
  refine V.iload (pc := 22) dX12_drivens_22 rfl ?_
  refine V.iald' (k := 3) (pc := 24) dX12_drivens_24 hM.t32 rfl (by decide) (by decide) ?_
  rw [hd 3 (by omega)]
  refine V.iadd (pc := 25) dX12_drivens_25 ?_
  rw [L82, nI_add]
  refine V.iald' (k := 82 + dg 4 c 3) (pc := 26) dX12_drivens_26 hM.t3 rfl (by omega) (by decide) ?_
  rw [hs.at v3]
  refine V.i2l (pc := 27) dX12_drivens_27 ?_
  rw [nI_l (by omega)]
  refine V.lmul (pc := 28) dX12_drivens_28 ?_
  rw [lN_mul]
  refine V.lsn (pc := 29) dX12_drivens_29 (by decide) (st2_2 rfl) ?_
  refine V.iinc (v := 5) (pc := 30) dX12_drivens_30 (by decide) rfl (by decide) (st1_4 rfl) ?_
  refine V.goto 5 (pc := 33) dX12_drivens_33 (by decide) ?_
  refine V.iload (pc := 5) dX12_drivens_5 rfl ?_
  refine V.iload_n (pc := 7) dX12_drivens_7 rfl ?_
  refine V.icmp_ge 36 (pc := 8) dX12_drivens_8 (by decide) (fun h8 => ?_) (fun h8 => absurd (by decide) h8)
  refine V.lload_n (pc := 36) dX12_drivens_36 rfl ?_
  exact V.lret (pc := 37) dX12_drivens_37 rfl ⟨rfl, rfl, rfl, rfl, rfl, rfl⟩
theorem c_drivens {g : gG} {d : Nat} {T : mT} {n : Nat} {I : mI} {J : mJ} {F : mF} {m c N : Nat} {s : List Nat} (x : Int32) (hM : MS T F m) (hN : N = 2 ∨ N = 4) (hx : x = nI N) (hs : StkM I m s) (hv : vld s.length N c = true) (hd : ∀ i, i < N → I (m + 14) i = nI (dg N c i)) : Ct g mX12_drivens (d + 0) [.ref m, .int x] 0 0 T n I J F (pureQ T n I J F (some (.long (lN (drnN s N c))))) := by
  subst hx
  rcases hN with rfl | rfl
  · exact c_drivens2 hM hs hv hd
  · exact c_drivens4 hM hs hv hd
theorem c_keepRow {g : gG} {d : Nat} {T : mT} {n : Nat} {I : mI} {J : mJ} {F : mF} {m : Nat} (hM : MS T F m) : Ct g mX12_keepRow (d + 0) [.ref m] 0 0 T n I J F (fun r' T' n' I' J' F' => r' = none ∧ T' = T ∧ n' = n ∧ J' = J ∧ F' = F ∧ (∀ b, b ≠ m + 15 → I' b = I b) ∧ ∀ i, i < 4 → I' (m + 15) i = I (m + 14) i) := by
  refine Ct.ofV (k := 1) (by decide) (Nat.le_of_ble_eq_true rfl) ?_
  show V g mX12_keepRow (d + 0) _ 0 0 0 [some (.ref m), none] [] T n I J F
  refine V.iconst (v := 0) (pc := 0) dX12_keepRow_0 (by decide) ?_
  refine V.isn (pc := 1) dX12_keepRow_1 (by decide) (st1_1 rfl) ?_
  refine V.iload_n (pc := 2) dX12_keepRow_2 rfl ?_
  refine V.iconst (v := 4) (pc := 3) dX12_keepRow_3 (by decide) ?_
  refine V.icmp_ge 25 (pc := 4) dX12_keepRow_4 (by decide) (fun h4 => absurd h4 (by decide)) (fun h4 => ?_)
  refine V.aload_n (pc := 7) dX12_keepRow_7 rfl ?_
  refine V.getR (pc := 8) dX12_keepRow_8 fX12_68_11 rfl hM.o hM.f33 ?_
  refine V.iload_n (pc := 11) dX12_keepRow_11 rfl ?_
  refine V.aload_n (pc := 12) dX12_keepRow_12 rfl ?_
  refine V.getR (pc := 13) dX12_keepRow_13 fX12_65_11 rfl hM.o hM.f32 ?_
  refine V.iload_n (pc := 16) dX12_keepRow_16 rfl ?_
  refine V.iald' (k := 0) (pc := 17) dX12_keepRow_17 hM.t32 rfl (by decide) (by decide) ?_
  refine V.iast' (k := 0) (pc := 18) dX12_keepRow_18 hM.t33 rfl (by decide) (by decide) ?_
  refine V.iinc (v := 1) (pc := 19) dX12_keepRow_19 (by decide) rfl (by decide) (st1_1 rfl) ?_
  refine V.goto 2 (pc := 22) dX12_keepRow_22 (by decide) ?_
  refine V.iload_n (pc := 2) dX12_keepRow_2 rfl ?_
  refine V.iconst (v := 4) (pc := 3) dX12_keepRow_3 (by decide) ?_
  refine V.icmp_ge 25 (pc := 4) dX12_keepRow_4 (by decide) (fun h4 => absurd h4 (by decide)) (fun h4 => ?_)
  refine V.aload_n (pc := 7) dX12_keepRow_7 rfl ?_
  refine V.getR (pc := 8) dX12_keepRow_8 fX12_68_11 rfl hM.o hM.f33 ?_
  refine V.iload_n (pc := 11) dX12_keepRow_11 rfl ?_
  refine V.aload_n (pc := 12) dX12_keepRow_12 rfl ?_
  refine V.getR (pc := 13) dX12_keepRow_13 fX12_65_11 rfl hM.o hM.f32 ?_
  refine V.iload_n (pc := 16) dX12_keepRow_16 rfl ?_
  refine V.iald' (k := 1) (pc := 17) dX12_keepRow_17 hM.t32 rfl (by decide) (by decide) ?_
  refine V.iast' (k := 1) (pc := 18) dX12_keepRow_18 hM.t33 rfl (by decide) (by decide) ?_
  refine V.iinc (v := 2) (pc := 19) dX12_keepRow_19 (by decide) rfl (by decide) (st1_1 rfl) ?_
  refine V.goto 2 (pc := 22) dX12_keepRow_22 (by decide) ?_
  refine V.iload_n (pc := 2) dX12_keepRow_2 rfl ?_
  refine V.iconst (v := 4) (pc := 3) dX12_keepRow_3 (by decide) ?_
  refine V.icmp_ge 25 (pc := 4) dX12_keepRow_4 (by decide) (fun h4 => absurd h4 (by decide)) (fun h4 => ?_)
  refine V.aload_n (pc := 7) dX12_keepRow_7 rfl ?_
  refine V.getR (pc := 8) dX12_keepRow_8 fX12_68_11 rfl hM.o hM.f33 ?_
  refine V.iload_n (pc := 11) dX12_keepRow_11 rfl ?_
  refine V.aload_n (pc := 12) dX12_keepRow_12 rfl ?_
  refine V.getR (pc := 13) dX12_keepRow_13 fX12_65_11 rfl hM.o hM.f32 ?_
  refine V.iload_n (pc := 16) dX12_keepRow_16 rfl ?_
  refine V.iald' (k := 2) (pc := 17) dX12_keepRow_17 hM.t32 rfl (by decide) (by decide) ?_
  refine V.iast' (k := 2) (pc := 18) dX12_keepRow_18 hM.t33 rfl (by decide) (by decide) ?_
  refine V.iinc (v := 3) (pc := 19) dX12_keepRow_19 (by decide) rfl (by decide) (st1_1 rfl) ?_
  refine V.goto 2 (pc := 22) dX12_keepRow_22 (by decide) ?_
  refine V.iload_n (pc := 2) dX12_keepRow_2 rfl ?_
  refine V.iconst (v := 4) (pc := 3) dX12_keepRow_3 (by decide) ?_
  refine V.icmp_ge 25 (pc := 4) dX12_keepRow_4 (by decide) (fun h4 => absurd h4 (by decide)) (fun h4 => ?_)
  refine V.aload_n (pc := 7) dX12_keepRow_7 rfl ?_
  refine V.getR (pc := 8) dX12_keepRow_8 fX12_68_11 rfl hM.o hM.f33 ?_
  refine V.iload_n (pc := 11) dX12_keepRow_11 rfl ?_
  refine V.aload_n (pc := 12) dX12_keepRow_12 rfl ?_
  refine V.getR (pc := 13) dX12_keepRow_13 fX12_65_11 rfl hM.o hM.f32 ?_
  refine V.iload_n (pc := 16) dX12_keepRow_16 rfl ?_
  refine V.iald' (k := 3) (pc := 17) dX12_keepRow_17 hM.t32 rfl (by decide) (by decide) ?_
  refine V.iast' (k := 3) (pc := 18) dX12_keepRow_18 hM.t33 rfl (by decide) (by decide) ?_
  refine V.iinc (v := 4) (pc := 19) dX12_keepRow_19 (by decide) rfl (by decide) (st1_1 rfl) ?_
  refine V.goto 2 (pc := 22) dX12_keepRow_22 (by decide) ?_
  refine V.iload_n (pc := 2) dX12_keepRow_2 rfl ?_
  refine V.iconst (v := 4) (pc := 3) dX12_keepRow_3 (by decide) ?_
  refine V.icmp_ge 25 (pc := 4) dX12_keepRow_4 (by decide) (fun h4 => ?_) (fun h4 => absurd (by decide) h4)
  exact V.vret (pc := 25) dX12_keepRow_25 rfl ⟨rfl, rfl, rfl, rfl, rfl, fun b hb => by rw [up2_off hb, up2_off hb, up2_off hb, up2_off hb], fun i hi => by
                    rcases (show i = 0 ∨ i = 1 ∨ i = 2 ∨ i = 3 by omega) with rfl | rfl | rfl | rfl <;> simp (disch := omega) only [up2_off, up2_ne, up2_same]⟩
def NMem (m q : Nat) (b : NSt) (I : mI) (J : mJ) : Prop := I m 34 = nI b.1 ∧ (b.1 ≠ 0 → J m 35 = lN b.2.1 ∧ J m 36 = lN (b.2.2.1 * q) ∧ ∀ i, i < 2 * b.1 → I (m + 15) i = nI (dg (2 * b.1) b.2.2.2 i))
def NrI (s : List Nat) (p q N cur m : Nat) (I : mI) (J : mJ) (b0 : NSt) (I' : mI) (J' : mJ) : Prop := (∀ b, b ≠ m → b ≠ m + 14 → b ≠ m + 15 → I' b = I b) ∧ (∀ k, k ≠ 34 → I' m k = I m k) ∧ (∀ b, b ≠ m → J' b = J b) ∧ NMem m q (foldP (vld s.length N) (nstep s p q N) cur b0) I' J' ∧ ∃ e, NX s.length N cur m I' (N - 1) e I'
theorem NrI.no {s : List Nat} {p q N cur m c : Nat} {I I' I2 : mI} {J J' : mJ} {b0 : NSt} (h : NrI s p q N cur m I J b0 I' J') (hN : N = 2 ∨ N = 4) (hc : cur ≤ c) (hv : vld s.length N c = true) (hn : NoV s.length N cur c) (g1 : ∀ b, b ≠ m + 14 → I2 b = I' b) (g6 : ∀ i, i < N → I2 (m + 14) i = nI (dg N c i))
    (hb : ¬ ((foldP (vld s.length N) (nstep s p q N) cur b0).1 = 0 ∨ absN (drvN s N c * q) (drnN s N c * p) * (foldP (vld s.length N) (nstep s p q N) cur b0).2.2.1 < (foldP (vld s.length N) (nstep s p q N) cur b0).2.1 * drnN s N c)) : NrI s p q N (c + 1) m I J b0 I2 J' := by
  obtain ⟨h1, h2, h3, ⟨h4, h5⟩, -⟩ := h
  have e : foldP (vld s.length N) (nstep s p q N) (c + 1) b0 = foldP (vld s.length N) (nstep s p q N) cur b0 := by rw [foldP_hit hc hn hv, nstep, if_neg hb]
  refine ⟨fun b a1 a2 a3 => by rw [g1 b a2]; exact h1 b a1 a2 a3, fun k hk => by rw [g1 m (by omega)]; exact h2 k hk, h3, ?_, _, NX.next hN hv g6⟩
  rw [e]
  exact ⟨by rw [g1 m (by omega)]; exact h4, fun z => ⟨(h5 z).1, (h5 z).2.1, fun i hi => by rw [g1 _ (by omega)]; exact (h5 z).2.2 i hi⟩⟩
theorem NrI.yes {s : List Nat} {p q N cur m c : Nat} {I I' I2 I3 : mI} {J J' J3 : mJ} {b0 : NSt} (h : NrI s p q N cur m I J b0 I' J') (hN : N = 2 ∨ N = 4) (hc : cur ≤ c) (hv : vld s.length N c = true) (hn : NoV s.length N cur c) (g1 : ∀ b, b ≠ m + 14 → I2 b = I' b) (g6 : ∀ i, i < N → I2 (m + 14) i = nI (dg N c i))
    (hb : (foldP (vld s.length N) (nstep s p q N) cur b0).1 = 0 ∨ absN (drvN s N c * q) (drnN s N c * p) * (foldP (vld s.length N) (nstep s p q N) cur b0).2.2.1 < (foldP (vld s.length N) (nstep s p q N) cur b0).2.1 * drnN s N c)
    (k1 : ∀ b, b ≠ m → b ≠ m + 15 → I3 b = I2 b) (k2 : ∀ k, k ≠ 34 → I3 m k = I2 m k) (k3 : I3 m 34 = nI (N / 2)) (k4 : ∀ i, i < 4 → I3 (m + 15) i = I2 (m + 14) i) (j1 : ∀ b, b ≠ m → J3 b = J' b) (j2 : J3 m 35 = lN (absN (drvN s N c * q) (drnN s N c * p))) (j3 : J3 m 36 = lN (drnN s N c * q)) : NrI s p q N (c + 1) m I J b0 I3 J3 := by
  obtain ⟨h1, h2, h3, -, -⟩ := h
  have e : foldP (vld s.length N) (nstep s p q N) (c + 1) b0 = (N / 2, absN (drvN s N c * q) (drnN s N c * p), drnN s N c, c) := by rw [foldP_hit hc hn hv, nstep, if_pos hb]
  have e2 : 2 * (N / 2) = N := by omega
  refine ⟨fun b a1 a2 a3 => by rw [k1 b a1 a3, g1 b a2]; exact h1 b a1 a2 a3, fun k hk => by rw [k2 k hk, g1 m (by omega)]; exact h2 k hk, fun b hb => by rw [j1 b hb]; exact h3 b hb, ?_, _, NX.next hN hv (fun i hi => by rw [k1 _ (by omega) (by omega)]; exact g6 i hi)⟩
  rw [e]
  exact ⟨k3, fun _ => ⟨j2, j3, fun i hi => by show _ = nI (dg (2 * (N / 2)) c i); rw [e2]; rw [k4 i (by have : i < 2 * (N / 2) := hi; omega)]; exact g6 i (by have : i < 2 * (N / 2) := hi; omega)⟩⟩
theorem l_near {g : gG} {d : Nat} {T : mT} {n : Nat} {I : mI} {J : mJ} {F : mF} {Q : mQ} {m p q N : Nat} {s : List Nat} {b0 : NSt} (hM : MS T F m) (hN : N = 2 ∨ N = 4) (hs : StkM I m s) (hp : 1 ≤ p ∧ p ≤ 100000) (hq : 1 ≤ q ∧ q ≤ 100000) (hb0 : NSOK b0) (kk : ∀ (I' : mI) (J' : mJ), (∀ b, b ≠ m → b ≠ m + 14 → b ≠ m + 15 → I' b = I b) → (∀ k, k ≠ 34 → I' m k = I m k) → (∀ b, b ≠ m → J' b = J b) → NMem m q (foldP (vld s.length N) (nstep s p q N) (totC N) b0) I' J' → V g mX12_findNearest (d + 2) Q 0 0 124 [some (.ref m), some (.int (nI p)), some (.int (nI q)), some (.int (nI N)), none, none, none, none] [] T n I' J' F) : ∀ (t cur : Nat) (I' : mI) (J' : mJ), cur ≤ totC N → totC N - cur < t → NrI s p q N cur m I J b0 I' J' → V g mX12_findNearest (d + 2) Q 0 0 27 [some (.ref m), some (.int (nI p)), some (.int (nI q)), some (.int (nI N)), none, none, none, none] [] T n I' J' F := by
  intro t
  induction t with
  | zero => intro cur I' J' _ h; omega
  | succ t ih =>
    intro cur I' J' hct ht hi
    have hi2 := hi
    obtain ⟨h1, h2, h3, h4, e, h5⟩ := hi
    have hs2 := hs.congr (I' := I') (h1 (m + 2) (by omega) (by omega) (by omega))
    have hok : NSOK (foldP (vld s.length N) (nstep s p q N) cur b0) := foldP_ok (P := NSOK) (pr := vld s.length N) (f := nstep s p q N) (fun c b hc hb => nstep_ok (c := c) hs.1 hN hc hp.2 hq.2 hb) cur b0 hb0
    refine V.aload_n (pc := 27) dX12_findNearest_27 rfl ?_
    refine V.iload_n (pc := 28) dX12_findNearest_28 rfl ?_
    refine V.invV0 (as := [_]) (pc := 29) dX12_findNearest_29 lX12_384 bX12_nextRow nX12_nextRow (ci := 11) rfl eX12_nextRow hM.o (c_nextRow (d := d + 0) (S := s.length) (N := N) (cur := cur) _ hM rfl hN hs.1.1 hs2.2.1 h5) (by omega) rfl (Nat.le_of_ble_eq_true rfl) ?_
    rintro _ _ _ I2 _ _ ⟨rfl, rfl, rfl, rfl, g1, ⟨c, g2, g3, g4, g5, rfl, g6⟩ | ⟨g2, rfl⟩⟩
    · have hd1 := drvN_bd hs.1 hN g4
      have hd2 := drnN_bd hs.1 hN g4
      have hs3 := hs2.congr (I' := I2) (g1 (m + 2) (by omega))
      have b1 : drvN s N c * q ≤ 14400 * 100000 := Nat.mul_le_mul hd1.2 hq.2
      have b2 : drnN s N c * p ≤ 14400 * 100000 := Nat.mul_le_mul hd2.2 hp.2
      have b3 : drnN s N c * q ≤ 14400 * 100000 := Nat.mul_le_mul hd2.2 hq.2
      have b4 : (absN (drvN s N c * q) (drnN s N c * p)) ≤ 14400 * 100000 := absN_le _ _ b1 b2
      have b5 : (foldP (vld s.length N) (nstep s p q N) cur b0).2.2.1 * q ≤ 14400 * 100000 := Nat.mul_le_mul hok.2.2.1 hq.2
      have b6 : (absN (drvN s N c * q) (drnN s N c * p)) * (foldP (vld s.length N) (nstep s p q N) cur b0).2.2.1 ≤ 14400 * 100000 * 14400 := Nat.mul_le_mul b4 hok.2.2.1
      have b7 : (foldP (vld s.length N) (nstep s p q N) cur b0).2.1 * drnN s N c ≤ 1440000000 * 14400 := Nat.mul_le_mul hok.2.1 hd2.2
      have hq0 : ¬ lN q = 0 := by
        rw [show (0 : Int64) = lN 0 from rfl, lN_eqL (by omega) (by decide)]
        omega
      have e34 : I2 m 34 = nI (foldP (vld s.length N) (nstep s p q N) cur b0).1 := by rw [g1 m (by omega)]; exact h4.1
      refine V.if_eq 124 (pc := 32) dX12_findNearest_32 (by decide) (fun h32 => absurd h32 (by decide)) (fun h32 => ?_)
      refine V.aload_n (pc := 35) dX12_findNearest_35 rfl ?_
      refine V.iload_n (pc := 36) dX12_findNearest_36 rfl ?_
      refine V.pV (as := [_]) (pc := 37) dX12_findNearest_37 lX12_387 bX12_drivens nX12_drivens (ci := 11) rfl eX12_drivens hM.o (c_drivens (d := d + 1) (c := c) (N := N) (s := s) _ hM hN rfl hs3 g4 g6) (by omega) rfl (Nat.le_of_ble_eq_true rfl) ?_
      refine V.iload_n (pc := 40) dX12_findNearest_40 rfl ?_
      refine V.i2l (pc := 41) dX12_findNearest_41 ?_
      rw [nI_l (by omega)]
      refine V.lmul (pc := 42) dX12_findNearest_42 ?_
      rw [lN_mul]
      refine V.ls (pc := 43) dX12_findNearest_43 (by decide) (st2_4 rfl) ?_
      refine V.aload_n (pc := 45) dX12_findNearest_45 rfl ?_
      refine V.iload_n (pc := 46) dX12_findNearest_46 rfl ?_
      refine V.pV (as := [_]) (pc := 47) dX12_findNearest_47 lX12_390 bX12_drivers nX12_drivers (ci := 11) rfl eX12_drivers hM.o (c_drivers (d := d + 1) (c := c) (N := N) (s := s) _ hM hN rfl hs3 g4 g6) (by omega) rfl (Nat.le_of_ble_eq_true rfl) ?_
      refine V.iload_n (pc := 50) dX12_findNearest_50 rfl ?_
      refine V.i2l (pc := 51) dX12_findNearest_51 ?_
      rw [nI_l (by omega)]
      refine V.lmul (pc := 52) dX12_findNearest_52 ?_
      rw [lN_mul]
      refine V.aload_n (pc := 53) dX12_findNearest_53 rfl ?_
      refine V.iload_n (pc := 54) dX12_findNearest_54 rfl ?_
      refine V.pV (as := [_]) (pc := 55) dX12_findNearest_55 lX12_387 bX12_drivens nX12_drivens (ci := 11) rfl eX12_drivens hM.o (c_drivens (d := d + 1) (c := c) (N := N) (s := s) _ hM hN rfl hs3 g4 g6) (by omega) rfl (Nat.le_of_ble_eq_true rfl) ?_
      refine V.iload_n (pc := 58) dX12_findNearest_58 rfl ?_
      refine V.i2l (pc := 59) dX12_findNearest_59 ?_
      rw [nI_l (by omega)]
      refine V.lmul (pc := 60) dX12_findNearest_60 ?_
      rw [lN_mul]
      refine V.lsub (pc := 61) dX12_findNearest_61 ?_
      refine V.pS (as := [_]) (pc := 62) dX12_findNearest_62 lX12_366 bX12_size sX12_size (c_size (d := d + 1) _) (by omega) rfl (Nat.le_of_ble_eq_true rfl) ?_
      rw [lN_abs1 (by omega) (by omega), show (if drvN s N c * q < drnN s N c * p then drnN s N c * p - drvN s N c * q else drvN s N c * q - drnN s N c * p) = (absN (drvN s N c * q) (drnN s N c * p)) from rfl]
      refine V.ls (pc := 65) dX12_findNearest_65 (by decide) (st2_6 rfl) ?_
      refine V.aload_n (pc := 67) dX12_findNearest_67 rfl ?_
      refine V.getI (pc := 68) dX12_findNearest_68 fX12_378_11 rfl hM.o ?_
      rw [e34]
      refine V.if_eq 98 (pc := 71) dX12_findNearest_71 (by decide) (fun h71 => ?_) (fun h71 => ?_)
      · have z0 : (foldP (vld s.length N) (nstep s p q N) cur b0).1 = 0 := by
          rw [L0, nI_eq (by have := hok.1; omega) (by omega)] at h71
          exact h71
        refine V.aload_n (pc := 98) dX12_findNearest_98 rfl ?_
        refine V.iload_n (pc := 99) dX12_findNearest_99 rfl ?_
        refine V.iconst (v := 2) (pc := 100) dX12_findNearest_100 (by decide) ?_
        refine V.idiv (pc := 101) dX12_findNearest_101 (by decide) ?_
        rw [L2, nI_div (by omega) (by omega) (by omega)]
        refine V.putI (pc := 102) dX12_findNearest_102 fX12_378_11 (fun r h => by cases h; exact Or.inl rfl) rfl hM.o ?_
        refine V.aload_n (pc := 105) dX12_findNearest_105 rfl ?_
        refine V.lload (pc := 106) dX12_findNearest_106 rfl ?_
        refine V.putJ (pc := 108) dX12_findNearest_108 fX12_396_11 (fun r h => by cases h; exact Or.inl rfl) rfl hM.o ?_
        refine V.aload_n (pc := 111) dX12_findNearest_111 rfl ?_
        refine V.lload (pc := 112) dX12_findNearest_112 rfl ?_
        refine V.putJ (pc := 114) dX12_findNearest_114 fX12_393_11 (fun r h => by cases h; exact Or.inl rfl) rfl hM.o ?_
        refine V.aload_n (pc := 117) dX12_findNearest_117 rfl ?_
        refine V.invV0 (as := []) (pc := 118) dX12_findNearest_118 lX12_399 bX12_keepRow nX12_keepRow (ci := 11) rfl eX12_keepRow hM.o (c_keepRow (d := d + 1) hM) (by omega) rfl (Nat.le_of_ble_eq_true rfl) ?_
        rintro _ _ _ I4 _ _ ⟨rfl, rfl, rfl, rfl, rfl, f1, f2⟩
        refine V.goto 27 (pc := 121) dX12_findNearest_121 (by decide) ?_
        refine V.weak wk_4 ?_
        refine V.weak wk_6 ?_
        have g3 := g3
        refine ih (c + 1) _ _ (by omega) (by omega) (hi2.yes hN g2 g4 g5 g1 g6 (Or.inl z0) (fun b a1 a2 => by rw [f1 b a2, up2_off a1]) (fun k hk => by rw [f1 m (by omega), up2_ne (by omega)]) (by rw [f1 m (by omega), up2_same]) (fun i hi => by rw [f2 i hi, up2_off (by omega)]) (fun b hb => by rw [up2_off hb, up2_off hb]) (by rw [up2_ne (by omega), up2_same]) up2_same)
      · have z0 : ¬ (foldP (vld s.length N) (nstep s p q N) cur b0).1 = 0 := fun z => h71 (by rw [z]; rfl)
        refine V.lload (pc := 74) dX12_findNearest_74 rfl ?_
        refine V.aload_n (pc := 76) dX12_findNearest_76 rfl ?_
        refine V.getJ (pc := 77) dX12_findNearest_77 fX12_393_11 rfl hM.o ?_
        rw [(h4.2 z0).2.1]
        refine V.iload_n (pc := 80) dX12_findNearest_80 rfl ?_
        refine V.i2l (pc := 81) dX12_findNearest_81 ?_
        rw [nI_l (by omega)]
        refine V.ldiv (pc := 82) dX12_findNearest_82 hq0 ?_
        rw [lN_div (by omega) (by omega), Nat.mul_div_cancel _ (by omega)]
        refine V.lmul (pc := 83) dX12_findNearest_83 ?_
        rw [lN_mul]
        refine V.aload_n (pc := 84) dX12_findNearest_84 rfl ?_
        refine V.getJ (pc := 85) dX12_findNearest_85 fX12_396_11 rfl hM.o ?_
        rw [(h4.2 z0).1]
        refine V.lload (pc := 88) dX12_findNearest_88 rfl ?_
        refine V.iload_n (pc := 90) dX12_findNearest_90 rfl ?_
        refine V.i2l (pc := 91) dX12_findNearest_91 ?_
        rw [nI_l (by omega)]
        refine V.ldiv (pc := 92) dX12_findNearest_92 hq0 ?_
        rw [lN_div (by omega) (by omega), Nat.mul_div_cancel _ (by omega)]
        refine V.lmul (pc := 93) dX12_findNearest_93 ?_
        rw [lN_mul]
        refine V.lcmp_ge 121 (pc := 94) dX12_findNearest_94 dX12_findNearest_95 (by decide) (fun h94 => ?_) (fun h94 => ?_)
        · rw [lN_leL (by omega) (by omega)] at h94
          refine V.goto 27 (pc := 121) dX12_findNearest_121 (by decide) ?_
          refine V.weak wk_4 ?_
          refine V.weak wk_6 ?_
          exact ih (c + 1) _ _ (by omega) (by omega) (hi2.no hN g2 g4 g5 g1 g6 (by omega))
        · rw [lN_leL (by omega) (by omega)] at h94
          refine V.aload_n (pc := 98) dX12_findNearest_98 rfl ?_
          refine V.iload_n (pc := 99) dX12_findNearest_99 rfl ?_
          refine V.iconst (v := 2) (pc := 100) dX12_findNearest_100 (by decide) ?_
          refine V.idiv (pc := 101) dX12_findNearest_101 (by decide) ?_
          rw [L2, nI_div (by omega) (by omega) (by omega)]
          refine V.putI (pc := 102) dX12_findNearest_102 fX12_378_11 (fun r h => by cases h; exact Or.inl rfl) rfl hM.o ?_
          refine V.aload_n (pc := 105) dX12_findNearest_105 rfl ?_
          refine V.lload (pc := 106) dX12_findNearest_106 rfl ?_
          refine V.putJ (pc := 108) dX12_findNearest_108 fX12_396_11 (fun r h => by cases h; exact Or.inl rfl) rfl hM.o ?_
          refine V.aload_n (pc := 111) dX12_findNearest_111 rfl ?_
          refine V.lload (pc := 112) dX12_findNearest_112 rfl ?_
          refine V.putJ (pc := 114) dX12_findNearest_114 fX12_393_11 (fun r h => by cases h; exact Or.inl rfl) rfl hM.o ?_
          refine V.aload_n (pc := 117) dX12_findNearest_117 rfl ?_
          refine V.invV0 (as := []) (pc := 118) dX12_findNearest_118 lX12_399 bX12_keepRow nX12_keepRow (ci := 11) rfl eX12_keepRow hM.o (c_keepRow (d := d + 1) hM) (by omega) rfl (Nat.le_of_ble_eq_true rfl) ?_
          rintro _ _ _ I4 _ _ ⟨rfl, rfl, rfl, rfl, rfl, f1, f2⟩
          refine V.goto 27 (pc := 121) dX12_findNearest_121 (by decide) ?_
          refine V.weak wk_4 ?_
          refine V.weak wk_6 ?_
          have g3 := g3
          refine ih (c + 1) _ _ (by omega) (by omega) (hi2.yes hN g2 g4 g5 g1 g6 (Or.inr (by omega)) (fun b a1 a2 => by rw [f1 b a2, up2_off a1]) (fun k hk => by rw [f1 m (by omega), up2_ne (by omega)]) (by rw [f1 m (by omega), up2_same]) (fun i hi => by rw [f2 i hi, up2_off (by omega)]) (fun b hb => by rw [up2_off hb, up2_off hb]) (by rw [up2_ne (by omega), up2_same]) up2_same)
    · refine V.if_eq 124 (pc := 32) dX12_findNearest_32 (by decide) (fun h32 => ?_) (fun h32 => absurd rfl h32)
      refine kk _ _ (fun b a1 a2 a3 => by rw [g1 b a2]; exact h1 b a1 a2 a3) (fun k hk => by rw [g1 m (by omega)]; exact h2 k hk) h3 ?_
      rw [foldP_to hct g2]
      exact ⟨by rw [g1 m (by omega)]; exact h4.1, fun z => ⟨(h4.2 z).1, (h4.2 z).2.1, fun i hi => by rw [g1 _ (by omega)]; exact (h4.2 z).2.2 i hi⟩⟩
