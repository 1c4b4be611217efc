-- mount
def NvOK (s : List Nat) (b : NSt) : Prop := b.1 = 0 ∨ ((b.1 = 1 ∨ b.1 = 2) ∧ vld s.length (2 * b.1) b.2.2.2 = true)
theorem nstep_v {s : List Nat} {p q N c : Nat} {b : NSt} (hN : N = 2 ∨ N = 4) (hv : vld s.length N c = true) (hb : NvOK s b) : NvOK s (nstep s p q N c b) := by
  unfold nstep
  split
  · rcases hN with rfl | rfl
    · exact Or.inr ⟨Or.inl rfl, hv⟩
    · exact Or.inr ⟨Or.inr rfl, hv⟩
  · exact hb
theorem nearV {s : List Nat} {p q : Nat} : NvOK s (nearF s p q) := by
  rw [nearF]
  exact foldP_ok (pr := vld s.length 4) (f := nstep s p q 4) (P := NvOK s) (fun c b hv hb => nstep_v (Or.inr rfl) hv hb) 65536 _ (foldP_ok (pr := vld s.length 2) (f := nstep s p q 2) (P := NvOK s) (fun c b hv hb => nstep_v (Or.inl rfl) hv hb) 256 (0, 0, 0, 0) (Or.inl rfl))
theorem l_mount {g : gG} {d : Nat} {T : mT} {n : Nat} {I : mI} {J : mJ} {F : mF} {Q : mQ} {m h : Nat} {s : List Nat} {B : NSt} {v2 v3 : Int32} (hM : MS T F m) (hh : h < 6) (hs : StkM I m s) (hB : B.1 = 1 ∨ B.1 = 2) (hv : vld s.length (2 * B.1) B.2.2.2 = true) (h34 : I m 34 = nI B.1) (h15 : ∀ i, i < 2 * B.1 → I (m + 15) i = nI (dg (2 * B.1) B.2.2.2 i)) (kk : ∀ I' : mI, (∀ b, b ≠ m + 2 → I' b = I b) → I' (m + 2) (10 + 12 * h + 3) = nI B.1 → (∀ i, i < B.1 → I' (m + 2) (10 + 12 * h + 4 + 2 * i) = nI (stT s (dg (2 * B.1) B.2.2.2 (2 * i))) ∧ I' (m + 2) (10 + 12 * h + 5 + 2 * i) = nI (stT s (dg (2 * B.1) B.2.2.2 (2 * i + 1)))) → (∀ t, (t < 10 + 12 * h + 3 ∨ 10 + 12 * h + 12 ≤ t) → I' (m + 2) t = I (m + 2) t) → V g mX12_mount (d + 4) Q 0 0 124 [some (.ref m), some (.int (nI h)), some (.int v2), some (.int v3), some (.int (nI B.1))] [] T n I' J F) : ∀ (t j : Nat) (I' : mI), j + t = B.1 → ((∀ b, b ≠ m + 2 → I' b = I b) ∧ I' (m + 2) (10 + 12 * h + 3) = nI j ∧ (∀ i, i < j → I' (m + 2) (10 + 12 * h + 4 + 2 * i) = nI (stT s (dg (2 * B.1) B.2.2.2 (2 * i))) ∧ I' (m + 2) (10 + 12 * h + 5 + 2 * i) = nI (stT s (dg (2 * B.1) B.2.2.2 (2 * i + 1)))) ∧ ∀ t, (t < 10 + 12 * h + 3 ∨ 10 + 12 * h + 12 ≤ t) → I' (m + 2) t = I (m + 2) t) → V g mX12_mount (d + 4) Q 0 0 68 [some (.ref m), some (.int (nI h)), some (.int v2), some (.int v3), some (.int (nI j))] [] T n I' J F := by
  intro t
  induction t with
  | zero =>
    intro j I' hj hi
    obtain rfl : j = B.1 := by omega
    have e34 : I' m 34 = nI B.1 := by rw [hi.1 _ (by omega)]; exact h34
    refine V.iload (pc := 68) dX12_mount_68 rfl ?_
    refine V.aload_n (pc := 70) dX12_mount_70 rfl ?_
    refine V.getI (pc := 71) dX12_mount_71 fX12_378_11 rfl hM.o ?_
    rw [e34]
    refine V.icmp_ge 124 (pc := 74) dX12_mount_74 (by decide) (fun h74 => ?_) (fun h74 => absurd (nI_le (Nat.le_refl _) (by omega)) h74)
    exact kk I' hi.1 hi.2.1 hi.2.2.1 hi.2.2.2
  | succ t ih =>
    intro j I' hj hi
    have e34 : I' m 34 = nI B.1 := by rw [hi.1 _ (by omega)]; exact h34
    have h12 := hs.1.1
    have hd1 := vld_dg (by omega) hv (show 2 * j < 2 * B.1 by omega)
    have hd2 := vld_dg (by omega) hv (show 2 * j + 1 < 2 * B.1 by omega)
    have e1 : I' (m + 15) (2 * j) = nI (dg (2 * B.1) B.2.2.2 (2 * j)) := by rw [hi.1 _ (by omega)]; exact h15 _ (by omega)
    have e2 : I' (m + 15) (2 * j + 1) = nI (dg (2 * B.1) B.2.2.2 (2 * j + 1)) := by rw [hi.1 _ (by omega)]; exact h15 _ (by omega)
    have w1 := (hi.2.2.2 (82 + dg (2 * B.1) B.2.2.2 (2 * j)) (by omega)).trans (hs.at hd1)
    have w2 := (hi.2.2.2 (82 + dg (2 * B.1) B.2.2.2 (2 * j + 1)) (by omega)).trans (hs.at hd2)
    refine V.iload (pc := 68) dX12_mount_68 rfl ?_
    refine V.aload_n (pc := 70) dX12_mount_70 rfl ?_
    refine V.getI (pc := 71) dX12_mount_71 fX12_378_11 rfl hM.o ?_
    rw [e34]
    refine V.icmp_ge 124 (pc := 74) dX12_mount_74 (by decide) (fun h74 => absurd h74 (nI_ge (by omega) (by omega))) (fun h74 => ?_)
    refine V.aload_n (pc := 77) dX12_mount_77 rfl ?_
    refine V.iload_n (pc := 78) dX12_mount_78 rfl ?_
    refine V.aload_n (pc := 79) dX12_mount_79 rfl ?_
    refine V.getR (pc := 80) dX12_mount_80 fX12_13_11 rfl hM.o hM.f3 ?_
    refine V.bipush (v := 82) (pc := 83) dX12_mount_83 (by decide) ?_
    refine V.aload_n (pc := 85) dX12_mount_85 rfl ?_
    refine V.getR (pc := 86) dX12_mount_86 fX12_68_11 rfl hM.o hM.f33 ?_
    refine V.iconst (v := 2) (pc := 89) dX12_mount_89 (by decide) ?_
    refine V.iload (pc := 90) dX12_mount_90 rfl ?_
    refine V.imul (pc := 92) dX12_mount_92 ?_
    refine V.iald' (k := 2 * j) (pc := 93) dX12_mount_93 hM.t33 (by rw [show (2 : Int32) = nI 2 from rfl, pk_mul]) (by omega) (by decide) ?_
    rw [e1]
    refine V.iadd (pc := 94) dX12_mount_94 ?_
    refine V.iald' (k := 82 + dg (2 * B.1) B.2.2.2 (2 * j)) (pc := 95) dX12_mount_95 hM.t3 (by rw [show (82 : Int32) = nI 82 from rfl, nI_add]) (by omega) (by decide) ?_
    rw [w1]
    refine V.aload_n (pc := 96) dX12_mount_96 rfl ?_
    refine V.getR (pc := 97) dX12_mount_97 fX12_13_11 rfl hM.o hM.f3 ?_
    refine V.bipush (v := 82) (pc := 100) dX12_mount_100 (by decide) ?_
    refine V.aload_n (pc := 102) dX12_mount_102 rfl ?_
    refine V.getR (pc := 103) dX12_mount_103 fX12_68_11 rfl hM.o hM.f33 ?_
    refine V.iconst (v := 2) (pc := 106) dX12_mount_106 (by decide) ?_
    refine V.iload (pc := 107) dX12_mount_107 rfl ?_
    refine V.imul (pc := 109) dX12_mount_109 ?_
    refine V.iconst (v := 1) (pc := 110) dX12_mount_110 (by decide) ?_
    refine V.iadd (pc := 111) dX12_mount_111 ?_
    refine V.iald' (k := 2 * j + 1) (pc := 112) dX12_mount_112 hM.t33 (by rw [show (2 : Int32) = nI 2 from rfl, pk_mul, nI_1]) (by omega) (by decide) ?_
    rw [e2]
    refine V.iadd (pc := 113) dX12_mount_113 ?_
    refine V.iald' (k := 82 + dg (2 * B.1) B.2.2.2 (2 * j + 1)) (pc := 114) dX12_mount_114 hM.t3 (by rw [show (82 : Int32) = nI 82 from rfl, nI_add]) (by omega) (by decide) ?_
    rw [w2]
    refine V.invV0 (as := [_, _, _]) (pc := 115) dX12_mount_115 lX12_129 bX12_addPair nX12_addPair (ci := 11) rfl eX12_addPair hM.o (c_addPair (d := d + 3) (h := h) (k := j) _ _ _ hM rfl hh (by omega) hi.2.1) (by omega) rfl (Nat.le_of_ble_eq_true rfl) ?_
    rintro _ _ _ I2 _ _ ⟨rfl, rfl, rfl, rfl, rfl, g1, g2, g3, g4, g5⟩
    refine V.iinc1 (pc := 118) dX12_mount_118 (by decide) rfl (st1_4 rfl) ?_
    refine V.goto 68 (pc := 121) dX12_mount_121 (by decide) ?_
    rw [nI_1]
    refine ih (j + 1) I2 (by omega) ⟨fun b hb => (g1 b hb).trans (hi.1 b hb), g2, fun i h1 => ?_, fun t ht => (g5 t (by omega) (by omega) (by omega)).trans (hi.2.2.2 t ht)⟩
    by_cases q : i = j
    · subst q; exact ⟨g3, g4⟩
    · rw [g5 _ (by omega) (by omega) (by omega), g5 _ (by omega) (by omega) (by omega)]; exact hi.2.2.1 i (by omega)
