-- the reference's search for the nearest row
theorem totC2 : totC 2 = 256 := rfl
theorem totC4 : totC 4 = 65536 := rfl
theorem NMem.congr {m q : Nat} {b : NSt} {I I' : mI} {J J' : mJ} (h : NMem m q b I J) (e1 : I' m = I m) (e2 : I' (m + 15) = I (m + 15)) (e3 : J' m = J m) : NMem m q b I' J' := by unfold NMem; rw [e1, e2, e3]; exact h
theorem nearOK2 {s : List Nat} {p q : Nat} (hs : StkOK s) (hp : p ≤ 100000) (hq : q ≤ 100000) : NSOK (foldP (vld s.length 2) (nstep s p q 2) 256 (0, 0, 0, 0)) := foldP_ok (pr := vld s.length 2) (f := nstep s p q 2) (P := NSOK) (fun c b hv hb => nstep_ok hs (Or.inl rfl) hv hp hq hb) 256 (0, 0, 0, 0) ⟨by decide, by decide, by decide, fun z => absurd rfl z⟩
theorem nearOK {s : List Nat} {p q : Nat} (hs : StkOK s) (hp : p ≤ 100000) (hq : q ≤ 100000) : NSOK (nearF s p q) := by
  rw [nearF]
  exact foldP_ok (pr := vld s.length 4) (f := nstep s p q 4) (P := NSOK) (fun c b hv hb => nstep_ok hs (Or.inr rfl) hv hp hq hb) 65536 _ (nearOK2 hs hp hq)
theorem nstep_1 {s : List Nat} {p q N c : Nat} {b : NSt} (hN : N = 2 ∨ N = 4) : (nstep s p q N c b).1 ≠ 0 := by
  unfold nstep
  split
  · show N / 2 ≠ 0; omega
  · rename_i h; exact fun z => h (Or.inl z)
theorem foldP_1 {pr : Nat → Bool} {f : Nat → NSt → NSt} {s : NSt} {x : Nat} (hf : ∀ c b, (f c b).1 ≠ 0) (hx : pr x = true) : ∀ c, x < c → (foldP pr f c s).1 ≠ 0
  | 0, h => absurd h (Nat.not_lt_zero _)
  | c + 1, h => by
    rw [foldP]
    split
    · exact hf _ _
    · rename_i z
      exact foldP_1 hf hx c (by rcases Nat.lt_succ_iff_lt_or_eq.mp h with h | h; exact h; exact absurd (h ▸ hx) z)
theorem foldP_k {pr : Nat → Bool} {f : Nat → NSt → NSt} {s : NSt} (hf : ∀ c b, (f c b).1 ≠ 0) (hs : s.1 ≠ 0) : ∀ c, (foldP pr f c s).1 ≠ 0
  | 0 => hs
  | c + 1 => by
    rw [foldP]
    split
    · exact hf _ _
    · exact foldP_k hf hs c
theorem nearF_1 {s : List Nat} {p q : Nat} (h : 2 ≤ s.length) : (nearF s p q).1 ≠ 0 := by
  rw [nearF]
  exact foldP_k (fun c b => nstep_1 (Or.inr rfl)) (foldP_1 (x := 1) (fun c b => nstep_1 (Or.inl rfl)) (by rw [vld, if_pos rfl]; exact decide_eq_true ⟨by decide, by show 0 < s.length; omega, by show 1 < s.length; omega, by decide⟩) 256 (by decide)) 65536
def NrF (m : Nat) (I : mI) (J : mJ) (I' : mI) (J' : mJ) : Prop := (∀ b, b ≠ m → b ≠ m + 14 → b ≠ m + 15 → I' b = I b) ∧ (∀ k, k ≠ 34 → I' m k = I m k) ∧ ∀ b, b ≠ m → J' b = J b
theorem c_findNearest {g : gG} {d : Nat} {T : mT} {n : Nat} {I : mI} {J : mJ} {F : mF} {m p q : Nat} {s : List Nat} (x z : Int32) (hM : MS T F m) (hs : StkM I m s) (hS : 2 ≤ s.length) (hx : x = nI p) (hz : z = nI q) (hp : 1 ≤ p ∧ p ≤ 100000) (hq : 1 ≤ q ∧ q ≤ 100000) : Ct g mX12_findNearest (d + 2) [.ref m, .int x, .int z] 0 0 T n I J F (fun r' T' n' I' J' F' => r' = none ∧ T' = T ∧ n' = n ∧ F' = F ∧ NrF m I J I' J' ∧ NMem m q (nearF s p q) I' J') := by
  refine Ct.ofV (k := 5) (by decide) (Nat.le_of_ble_eq_true rfl) ?_
  show V g mX12_findNearest (d + 2) _ 0 0 0 [some (.ref m), some (.int x), some (.int z), none, none, none, none, none] [] T n I J F
  subst hx hz
  have h12 := hs.1.1
  refine V.aload_n (pc := 0) dX12_findNearest_0 rfl ?_
  refine V.iconst (v := 0) (pc := 1) dX12_findNearest_1 (by decide) ?_
  refine V.putI (pc := 2) dX12_findNearest_2 fX12_378_11 (fun r h => by cases h; exact Or.inl rfl) rfl hM.o ?_
  refine V.iconst (v := 2) (pc := 5) dX12_findNearest_5 (by decide) ?_
  refine V.isn (pc := 6) dX12_findNearest_6 (by decide) (st1_3 rfl) ?_
  refine V.iload_n (pc := 7) dX12_findNearest_7 rfl ?_
  refine V.iconst (v := 5) (pc := 8) dX12_findNearest_8 (by decide) ?_
  refine V.icmp_ge 130 (pc := 9) dX12_findNearest_9 (by decide) (fun h9 => absurd h9 (by decide)) (fun h9 => ?_)
  refine V.iload_n (pc := 12) dX12_findNearest_12 rfl ?_
  refine V.aload_n (pc := 13) dX12_findNearest_13 rfl ?_
  refine V.getR (pc := 14) dX12_findNearest_14 fX12_13_11 rfl hM.o hM.f3 ?_
  refine V.iconst (v := 1) (pc := 17) dX12_findNearest_17 (by decide) ?_
  refine V.iald' (k := 1) (pc := 18) dX12_findNearest_18 hM.t3 rfl (by decide) (by decide) ?_
  rw [up2_off (by omega), hs.2.1]
  refine V.icmp_gt 130 (pc := 19) dX12_findNearest_19 (by decide) (fun h19 => absurd h19 (by rw [lt32, nI_toInt (by omega)]; show ¬ _ < (2 : Int); omega)) (fun h19 => ?_)
  refine V.aload_n (pc := 22) dX12_findNearest_22 rfl ?_
  refine V.iload_n (pc := 23) dX12_findNearest_23 rfl ?_
  refine V.invV0 (as := [_]) (pc := 24) dX12_findNearest_24 lX12_381 bX12_beginRow nX12_beginRow (ci := 11) rfl eX12_beginRow hM.o (c_begin2 (d := d + 0) (S := s.length) hM hS) (by omega) rfl (Nat.le_of_ble_eq_true rfl) ?_
  rintro _ _ _ I2 _ _ ⟨rfl, rfl, rfl, rfl, rfl, g2, e2, n2⟩
  refine V.lc3 (show (2 : Int32) = nI 2 from rfl) ?_
  refine l_near (s := s) (p := p) (q := q) (N := 2) (I := up2 I m 34 0) (b0 := (0, 0, 0, 0)) hM (Or.inl rfl) (hs.congr (up2_off (by omega))) hp hq ⟨by decide, by decide, by decide, fun z => absurd rfl z⟩ (fun I3 J3 a1 a2 a3 a4 => ?_) 257 0 _ _ (Nat.zero_le _) (by decide) ⟨fun b b1 b2 b3 => g2 b b2, fun k hk => by rw [g2 m (by omega)], fun _ _ => rfl, ⟨by rw [show foldP (vld s.length 2) (nstep s p q 2) 0 (0, 0, 0, 0) = (0, 0, 0, 0) from rfl, g2 m (by omega), up2_same]; rfl, fun z => absurd rfl z⟩, e2, n2⟩
  rw [totC2] at a4
  refine V.iinc (v := 4) (pc := 124) dX12_findNearest_124 (by decide) rfl (by decide) (st1_3 rfl) ?_
  refine V.goto 7 (pc := 127) dX12_findNearest_127 (by decide) ?_
  refine V.iload_n (pc := 7) dX12_findNearest_7 rfl ?_
  refine V.iconst (v := 5) (pc := 8) dX12_findNearest_8 (by decide) ?_
  refine V.icmp_ge 130 (pc := 9) dX12_findNearest_9 (by decide) (fun h9 => absurd h9 (by decide)) (fun h9 => ?_)
  refine V.iload_n (pc := 12) dX12_findNearest_12 rfl ?_
  refine V.aload_n (pc := 13) dX12_findNearest_13 rfl ?_
  refine V.getR (pc := 14) dX12_findNearest_14 fX12_13_11 rfl hM.o hM.f3 ?_
  refine V.iconst (v := 1) (pc := 17) dX12_findNearest_17 (by decide) ?_
  refine V.iald' (k := 1) (pc := 18) dX12_findNearest_18 hM.t3 rfl (by decide) (by decide) ?_
  rw [a1 _ (by omega) (by omega) (by omega), up2_off (by omega), hs.2.1]
  refine V.icmp_gt 130 (pc := 19) dX12_findNearest_19 (by decide) (fun h19 => ?_) (fun h19 => ?_)
  · rw [lt32, nI_toInt (by omega)] at h19
    have h4 : s.length < 4 := by have e4 : (4 : Int32).toInt = 4 := rfl; omega
    exact V.vret (pc := 130) dX12_findNearest_130 rfl ⟨rfl, rfl, rfl, rfl, ⟨fun b c1 c2 c3 => by rw [a1 b c1 c2 c3, up2_off c1], fun k hk => by rw [a2 k hk, up2_ne (by omega)], a3⟩, by rw [nearF, foldP_none (fun c => vld_small h4)]; exact a4⟩
  · rw [lt32, nI_toInt (by omega)] at h19
    have h4 : 4 ≤ s.length := by have e4 : (4 : Int32).toInt = 4 := rfl; omega
    have hs3 : StkM I3 m s := hs.congr (by rw [a1 _ (by omega) (by omega) (by omega), up2_off (by omega)])
    have hok := nearOK2 (p := p) (q := q) hs.1 hp.2 hq.2
    refine V.aload_n (pc := 22) dX12_findNearest_22 rfl ?_
    refine V.iload_n (pc := 23) dX12_findNearest_23 rfl ?_
    refine V.invV0 (as := [_]) (pc := 24) dX12_findNearest_24 lX12_381 bX12_beginRow nX12_beginRow (ci := 11) rfl eX12_beginRow hM.o (c_begin4 (d := d + 0) (S := s.length) hM h4) (by omega) rfl (Nat.le_of_ble_eq_true rfl) ?_
    rintro _ _ _ I4 _ _ ⟨rfl, rfl, rfl, rfl, rfl, g4, e4, n4⟩
    refine V.lc3 (show (4 : Int32) = nI 4 from rfl) ?_
    refine l_near (s := s) (p := p) (q := q) (N := 4) (I := I3) (b0 := (foldP (vld s.length 2) (nstep s p q 2) 256 (0, 0, 0, 0))) hM (Or.inr rfl) hs3 hp hq hok (fun I5 J5 b1 b2 b3 b4 => ?_) 65537 0 _ _ (Nat.zero_le _) (by decide) ⟨fun b c1 c2 c3 => g4 b c2, fun k hk => by rw [g4 m (by omega)], fun _ _ => rfl, a4.congr (g4 m (by omega)) (g4 _ (by omega)) rfl, e4, n4⟩
    rw [totC4] at b4
    refine V.iinc (v := 6) (pc := 124) dX12_findNearest_124 (by decide) rfl (by decide) (st1_3 rfl) ?_
    refine V.goto 7 (pc := 127) dX12_findNearest_127 (by decide) ?_
    refine V.iload_n (pc := 7) dX12_findNearest_7 rfl ?_
    refine V.iconst (v := 5) (pc := 8) dX12_findNearest_8 (by decide) ?_
    refine V.icmp_ge 130 (pc := 9) dX12_findNearest_9 (by decide) (fun h9 => ?_) (fun h9 => absurd (by decide) h9)
    exact V.vret (pc := 130) dX12_findNearest_130 rfl ⟨rfl, rfl, rfl, rfl, ⟨fun b c1 c2 c3 => by rw [b1 b c1 c2 c3, a1 b c1 c2 c3, up2_off c1], fun k hk => by rw [b2 k hk, a2 k hk, up2_ne (by omega)], fun b hb => (b3 b hb).trans (a3 b hb)⟩, b4⟩
