theorem RepM.storm {I I' : mI} {J J' : mJ} {m : Nat} {A : Ab} {st : List (Nat × Nat)} (h : RepM I J m A) (hI : ∀ b, b ≠ m → b ≠ m + 19 → b ≠ m + 20 → I' b = I b) (h0 : ∀ k, k ≠ 42 → I' m k = I m k) (h42 : I' m 42 = nI st.length) (hs : ∀ (h : Nat) (x : Nat × Nat), st[h]? = some x → I' (m + 20) h = nI x.1 ∧ I' (m + 19) h = nI x.2) (hJ : J' (m + 11) = J (m + 11)) : RepM I' J' m (cor A, img A, tap A, flt A, bnt A, rfs A, sts A, st) := by
  obtain ⟨⟨a1, a2, a3, a4, a5⟩, h1, h2, h3, h4, h5, h6⟩ := h
  refine ⟨⟨by rw [h0 _ (by omega)]; exact a1, by rw [h0 _ (by omega)]; exact a2, by rw [h0 _ (by omega)]; exact a3, by rw [h0 _ (by omega)]; exact a4, h42⟩, ?_, ?_, ?_, ?_, hs, ?_⟩
  · rw [hI (m + 1) (by omega) (by omega) (by omega)]; exact h1
  · rw [hI (m + 2) (by omega) (by omega) (by omega)]; exact h2
  · rw [hI (m + 3) (by omega) (by omega) (by omega), hI (m + 4) (by omega) (by omega) (by omega)]; exact h3
  · rw [hI (m + 5) (by omega) (by omega) (by omega)]; exact h4
  · rw [hJ]; exact h6
theorem stmL_len {hs : List Hd} {s d n : Nat} : (stmL hs s d n).length = hs.length := by unfold stmL; simp
theorem stmL_get {hs : List Hd} {s d n h : Nat} {x : Nat × Nat} (hx : (stmL hs s d n)[h]? = some x) : ∃ y, hs[h]? = some y ∧ h < hs.length ∧ x = (markD y (d + n - lostN s hs.length h n), lostN s hs.length h n) := by
  have hl : h < (stmL hs s d n).length := (List.getElem?_eq_some_iff.mp hx).1
  rw [stmL_len] at hl
  refine ⟨hs[h], List.getElem?_eq_getElem hl, hl, ?_⟩
  unfold stmL at hx
  rw [List.getElem?_map, List.getElem?_range hl] at hx
  simp only [Option.map_some, Option.some.injEq] at hx
  rw [← hx, getD_some (List.getElem?_eq_getElem hl)]
theorem HdM.congr {I I' : mI} {m h : Nat} {y : Hd} (hH : HdM I m h y) (e : I' (m + 2) = I (m + 2)) : HdM I' m h y := by unfold HdM; rw [e]; exact hH
/-- the storm so far: D days, k hands of the next -/
def SD (m s H D k : Nat) (I : mI) (J : mJ) (I' : mI) (J' : mJ) : Prop := (∀ b, b ≠ m + 19 → I' b = I b) ∧ (∀ h, h < H → I' (m + 19) h = nI (lostN s H h (D + if h < k then 1 else 0))) ∧ (∀ b, b ≠ m → J' b = J b) ∧ J' m 43 = lN (drw s (D * H + k))
theorem SD.turn {m s H D : Nat} {I I' : mI} {J J' : mJ} (h : SD m s H D H I J I' J') : SD m s H (D + 1) 0 I J I' J' := by
  obtain ⟨a, b, c, e⟩ := h
  refine ⟨a, fun h hh => ?_, c, ?_⟩
  · rw [b h hh, if_pos hh, if_neg (by omega)]
  · rw [e, show (D + 1) * H + 0 = D * H + H by rw [Nat.add_mul]; omega]
theorem SD.step {m s H D k : Nat} {I I' : mI} {J J' : mJ} (h : SD m s H D k I J I' J') (hk : k < H) : SD m s H D (k + 1) I J (up2 I' (m + 19) k (I' (m + 19) k + nI (outN s (D * H + k)))) (up2 J' m 43 (lN (drw s (D * H + k + 1)))) := by
  obtain ⟨a, b, c, e⟩ := h
  refine ⟨fun x hx => by rw [up2_off hx]; exact a x hx, fun h hh => ?_, fun x hx => by rw [up2_off hx]; exact c x hx, by rw [up2_same]; rfl⟩
  by_cases q : h = k
  · subst q
    rw [up2_same, b h hh, if_neg (by omega), if_pos (by omega), nI_add]
    rfl
  · rw [up2_ne (by omega), b h hh]
    by_cases q2 : h < k
    · rw [if_pos q2, if_pos (by omega)]
    · rw [if_neg q2, if_neg (by omega)]
theorem M1103 : (1103 : Int64) = lN 1103 := rfl
theorem M12345 : (12345 : Int64) = lN 12345 := rfl
theorem M1000003 : (1000003 : Int64) = lN 1000003 := rfl
theorem M10 : (10 : Int64) = lN 10 := rfl
theorem l_stZ {g : gG} {d : Nat} {T : mT} {n : Nat} {I : mI} {J : mJ} {F : mF} {Q : mQ} {m : Nat} {x1 x2 x3 : Int32} (hM : MS T F m) (kk : ∀ I' : mI, (∀ b, b ≠ m + 19 → I' b = I b) → (∀ i, i < 6 → I' (m + 19) i = 0) → V g mX12_storm (d + 4) Q 0 0 91 [some (.ref m), some (.int x1), some (.int x2), some (.int x3), some (.int (nI 6)), none, none, none] [] T n I' J F) : ∀ (t j : Nat) (I' : mI), j + t = 6 → ((∀ b, b ≠ m + 19 → I' b = I b) ∧ ∀ i, i < j → I' (m + 19) i = 0) → V g mX12_storm (d + 4) Q 0 0 70 [some (.ref m), some (.int x1), some (.int x2), some (.int x3), some (.int (nI j)), none, none, none] [] T n I' J F := by
  intro t
  induction t with
  | zero =>
    intro j I' hj hi
    obtain rfl : j = 6 := by omega
    refine V.iload (pc := 70) dX12_storm_70 rfl ?_
    refine V.bipush (v := 6) (pc := 72) dX12_storm_72 (by decide) ?_
    refine V.icmp_ge 91 (pc := 74) dX12_storm_74 (by decide) (fun h74 => ?_) (fun h74 => absurd (by rw [L6]; exact nI_le (by omega) (by omega)) h74)
    exact kk I' hi.1 hi.2
  | succ t ih =>
    intro j I' hj hi
    refine V.iload (pc := 70) dX12_storm_70 rfl ?_
    refine V.bipush (v := 6) (pc := 72) dX12_storm_72 (by decide) ?_
    refine V.icmp_ge 91 (pc := 74) dX12_storm_74 (by decide) (fun h74 => absurd h74 (by rw [L6]; exact nI_ge (by omega) (by omega))) (fun h74 => ?_)
    refine V.aload_n (pc := 77) dX12_storm_77 rfl ?_
    refine V.getR (pc := 78) dX12_storm_78 fX12_82_11 rfl hM.o hM.f40 ?_
    refine V.iload (pc := 81) dX12_storm_81 rfl ?_
    refine V.iconst (v := 0) (pc := 83) dX12_storm_83 (by decide) ?_
    refine V.iast' (k := j) (pc := 84) dX12_storm_84 hM.t40 rfl (by omega) (by decide) ?_
    refine V.iinc1 (pc := 85) dX12_storm_85 (by decide) rfl (st1_4 rfl) ?_
    refine V.goto 70 (pc := 88) dX12_storm_88 (by decide) ?_
    rw [nI_1]
    refine ih (j + 1) _ (by omega) ⟨fun b hb => by rw [up2_off hb]; exact hi.1 b hb, fun i h1 => ?_⟩
    by_cases q : i = j
    · subst q; rw [up2_same]
    · rw [up2_ne (by omega)]; exact hi.2 i (by omega)
theorem t_storm {g : gG} {d : Nat} {T : mT} {n : Nat} {I' : mI} {J' : mJ} {F : mF} {Q : mQ} {m s H D j N al out : Nat} {x1 x2 : Int32} {r : Option Value} (hM : MS T F m) (hj : j < 6) (kk : V g mX12_storm (d + 4) Q 0 0 106 [some (.ref m), some (.int x1), some (.int x2), some (.int (nI N)), some (.int (nI (al + out))), some (.int (nI D)), some (.int (nI (j + 1))), none] [] T n (up2 I' (m + 19) j (I' (m + 19) j + nI out)) J' F) : V g mX12_storm (d + 4) Q 0 0 153 [some (.ref m), some (.int x1), some (.int x2), some (.int (nI N)), some (.int (nI al)), some (.int (nI D)), some (.int (nI j)), r] [.int (nI out)] T n I' J' F := by
  refine V.is (pc := 153) dX12_storm_153 (by decide) (st1_7 rfl) ?_
  refine V.aload_n (pc := 155) dX12_storm_155 rfl ?_
  refine V.getR (pc := 156) dX12_storm_156 fX12_82_11 rfl hM.o hM.f40 ?_
  refine V.iload (pc := 159) dX12_storm_159 rfl ?_
  refine V.dup2 (pc := 161) dX12_storm_161 rfl rfl ?_
  refine V.iald' (k := j) (pc := 162) dX12_storm_162 hM.t40 rfl (by omega) (by decide) ?_
  refine V.iload (pc := 163) dX12_storm_163 rfl ?_
  refine V.iadd (pc := 165) dX12_storm_165 ?_
  refine V.iast' (k := j) (pc := 166) dX12_storm_166 hM.t40 rfl (by omega) (by decide) ?_
  refine V.iload (pc := 167) dX12_storm_167 rfl ?_
  refine V.iload (pc := 169) dX12_storm_169 rfl ?_
  refine V.iadd (pc := 171) dX12_storm_171 ?_
  rw [nI_add]
  refine V.is (pc := 172) dX12_storm_172 (by decide) (st1_4 rfl) ?_
  refine V.iinc1 (pc := 174) dX12_storm_174 (by decide) rfl (st1_6 rfl) ?_
  refine V.goto 106 (pc := 177) dX12_storm_177 (by decide) ?_
  refine V.weak wk_7 ?_
  rw [nI_1]
  exact kk
theorem l_stH {g : gG} {d : Nat} {T : mT} {n : Nat} {I : mI} {J : mJ} {F : mF} {Q : mQ} {m s H D N : Nat} {x1 x2 : Int32} (hM : MS T F m) (hs : s ≤ 1000000) (hH : H ≤ 6) (h42 : I m 42 = nI H) (hD : D < 100) (kk : ∀ (I' : mI) (J' : mJ), SD m s H D H I J I' J' → V g mX12_storm (d + 4) Q 0 0 180 [some (.ref m), some (.int x1), some (.int x2), some (.int (nI N)), some (.int (nI (allN s (D * H + H)))), some (.int (nI D)), some (.int (nI H)), none] [] T n I' J' F) : ∀ (t j : Nat) (I' : mI) (J' : mJ), j + t = H → (SD m s H D j I J I' J') → V g mX12_storm (d + 4) Q 0 0 106 [some (.ref m), some (.int x1), some (.int x2), some (.int (nI N)), some (.int (nI (allN s (D * H + j)))), some (.int (nI D)), some (.int (nI j)), none] [] T n I' J' F := by
  intro t
  induction t with
  | zero =>
    intro j I' J' hj hi
    obtain rfl : j = H := by omega
    have e42 : I' m 42 = nI j := by rw [hi.1 m (by omega)]; exact h42
    refine V.iload (pc := 106) dX12_storm_106 rfl ?_
    refine V.aload_n (pc := 108) dX12_storm_108 rfl ?_
    refine V.getI (pc := 109) dX12_storm_109 fX12_448_11 rfl hM.o ?_
    rw [e42]
    refine V.icmp_ge 180 (pc := 112) dX12_storm_112 (by decide) (fun h112 => ?_) (fun h112 => absurd (nI_le (Nat.le_refl _) (by omega)) h112)
    exact kk I' J' hi
  | succ t ih =>
    intro j I' J' hj hi
    have e42 : I' m 42 = nI H := by rw [hi.1 m (by omega)]; exact h42
    have hd1 := drw_lt hs (D * H + j)
    have hd2 := drw_lt hs (D * H + j + 1)
    have ed : (drw s (D * H + j) * 1103 + 12345) % 1000003 = drw s (D * H + j + 1) := rfl
    refine V.iload (pc := 106) dX12_storm_106 rfl ?_
    refine V.aload_n (pc := 108) dX12_storm_108 rfl ?_
    refine V.getI (pc := 109) dX12_storm_109 fX12_448_11 rfl hM.o ?_
    rw [e42]
    refine V.icmp_ge 180 (pc := 112) dX12_storm_112 (by decide) (fun h112 => absurd h112 (nI_ge (by omega) (by omega))) (fun h112 => ?_)
    refine V.aload_n (pc := 115) dX12_storm_115 rfl ?_
    refine V.aload_n (pc := 116) dX12_storm_116 rfl ?_
    refine V.getJ (pc := 117) dX12_storm_117 fX12_445_11 rfl hM.o ?_
    rw [hi.2.2.2]
    refine V.ldc2 (pc := 120) dX12_storm_120 qX12_451 ?_
    refine V.lmul (pc := 123) dX12_storm_123 ?_
    rw [M1103, lN_mul]
    refine V.ldc2 (pc := 124) dX12_storm_124 qX12_453 ?_
    refine V.ladd (pc := 127) dX12_storm_127 ?_
    rw [M12345, lN_add]
    refine V.ldc2 (pc := 128) dX12_storm_128 qX12_455 ?_
    refine V.lrem (pc := 131) dX12_storm_131 (by decide) ?_
    rw [M1000003, lN_rem (by omega) (by omega), ed]
    refine V.putJ (pc := 132) dX12_storm_132 fX12_445_11 (fun r h => by cases h; exact Or.inl rfl) rfl hM.o ?_
    refine V.aload_n (pc := 135) dX12_storm_135 rfl ?_
    refine V.getJ (pc := 136) dX12_storm_136 fX12_445_11 rfl hM.o ?_
    rw [up2_same]
    refine V.ldc2 (pc := 139) dX12_storm_139 qX12_180 ?_
    refine V.lrem (pc := 142) dX12_storm_142 (by decide) ?_
    rw [M10, lN_rem (by omega) (by omega)]
    refine V.lconst (v := 0) (pc := 143) dX12_storm_143 (by decide) ?_
    refine V.lcmp_ne 152 (pc := 144) dX12_storm_144 dX12_storm_145 (by decide) (fun h144 => ?_) (fun h144 => ?_)
    · have q : ¬ drw s (D * H + j + 1) % 10 = 0 := fun z => h144 (by rw [z]; rfl)
      refine V.iconst (v := 0) (pc := 152) dX12_storm_152 (by decide) ?_
      have z := ih (j + 1) _ _ (by omega) (hi.step (by omega))
      rw [show allN s (D * H + (j + 1)) = allN s (D * H + j) + outN s (D * H + j) from rfl] at z
      rw [show (0 : Int32) = nI (outN s (D * H + j)) from by rw [outN, if_neg q]; rfl]
      exact t_storm (s := s) (H := H) hM (by omega) z
    · have q : drw s (D * H + j + 1) % 10 = 0 := by
        rw [show (0 : Int64) = lN 0 from rfl, lN_eqL (by omega) (by decide)] at h144
        exact h144
      refine V.iconst (v := 1) (pc := 148) dX12_storm_148 (by decide) ?_
      refine V.goto 153 (pc := 149) dX12_storm_149 (by decide) ?_
      have z := ih (j + 1) _ _ (by omega) (hi.step (by omega))
      rw [show allN s (D * H + (j + 1)) = allN s (D * H + j) + outN s (D * H + j) from rfl] at z
      rw [show (1 : Int32) = nI (outN s (D * H + j)) from by rw [outN, if_pos q]; rfl]
      exact t_storm (s := s) (H := H) hM (by omega) z
theorem l_stD {g : gG} {d : Nat} {T : mT} {n : Nat} {I : mI} {J : mJ} {F : mF} {Q : mQ} {m s H N : Nat} {x1 x2 : Int32} (hM : MS T F m) (hs : s ≤ 1000000) (hH : H ≤ 6) (h42 : I m 42 = nI H) (hN : N ≤ 100) (kk : ∀ (I' : mI) (J' : mJ), SD m s H N 0 I J I' J' → V g mX12_storm (d + 4) Q 0 0 186 [some (.ref m), some (.int x1), some (.int x2), some (.int (nI N)), some (.int (nI (allN s (N * H)))), some (.int (nI N)), none, none] [] T n I' J' F) : ∀ (t j : Nat) (I' : mI) (J' : mJ), j + t = N → (SD m s H j 0 I J I' J') → V g mX12_storm (d + 4) Q 0 0 97 [some (.ref m), some (.int x1), some (.int x2), some (.int (nI N)), some (.int (nI (allN s (j * H)))), some (.int (nI j)), none, none] [] T n I' J' F := by
  intro t
  induction t with
  | zero =>
    intro j I' J' hj hi
    obtain rfl : j = N := by omega
    refine V.iload (pc := 97) dX12_storm_97 rfl ?_
    refine V.iload_n (pc := 99) dX12_storm_99 rfl ?_
    refine V.icmp_ge 186 (pc := 100) dX12_storm_100 (by decide) (fun h100 => ?_) (fun h100 => absurd (nI_le (Nat.le_refl _) (by omega)) h100)
    exact kk I' J' hi
  | succ t ih =>
    intro j I' J' hj hi
    refine V.iload (pc := 97) dX12_storm_97 rfl ?_
    refine V.iload_n (pc := 99) dX12_storm_99 rfl ?_
    refine V.icmp_ge 186 (pc := 100) dX12_storm_100 (by decide) (fun h100 => absurd h100 (nI_ge (by omega) (by omega))) (fun h100 => ?_)
    refine V.iconst (v := 0) (pc := 103) dX12_storm_103 (by decide) ?_
    refine V.is (pc := 104) dX12_storm_104 (by decide) (st1_6 rfl) ?_
    conv => arg 8; rw [show j * H = j * H + 0 from rfl, L0]
    refine l_stH (I := I) (J := J) hM hs hH h42 (by omega) (fun I2 J2 hS2 => ?_) H 0 I' J' (by omega) hi
    refine V.iinc1 (pc := 180) dX12_storm_180 (by decide) rfl (st1_5 rfl) ?_
    refine V.goto 97 (pc := 183) dX12_storm_183 (by decide) ?_
    refine V.weak wk_6 ?_
    have z := ih (j + 1) I2 J2 (by omega) hS2.turn
    rw [show (j + 1) * H = j * H + H by rw [Nat.add_mul]; omega] at z
    rw [nI_1]
    exact z
theorem l_stE {g : gG} {d : Nat} {T : mT} {n : Nat} {I : mI} {J : mJ} {F : mF} {Q : mQ} {m s dy N : Nat} {A : Ab} {x1 x2 : Int32} {v : Int32} (hM : MS T F m) (hx2 : x2 = nI dy) (hd : dy + N ≤ 1000000) (hN : N ≤ 100) (h6 : (hds (cor A)).length ≤ 6) (h42 : I m 42 = nI (hds (cor A)).length) (hl : ∀ h, h < (hds (cor A)).length → I (m + 19) h = nI (lostN s (hds (cor A)).length h N)) (hH : ∀ (h : Nat) (y : Hd), (hds (cor A))[h]? = some y → HdM I m h y) (kk : ∀ I' : mI, (∀ b, b ≠ m + 20 → I' b = I b) → (∀ (h : Nat) (y : Hd), h < (hds (cor A)).length → (hds (cor A))[h]? = some y → I' (m + 20) h = nI (markD y (dy + N - lostN s (hds (cor A)).length h N))) → V g mX12_storm (d + 4) Q 0 0 234 [some (.ref m), some (.int x1), some (.int x2), some (.int (nI N)), some (.int v), some (.int (nI (hds (cor A)).length)), none, none] [] T n I' J F) : ∀ (t j : Nat) (I' : mI), j + t = (hds (cor A)).length → ((∀ b, b ≠ m + 20 → I' b = I b) ∧ ∀ (h : Nat) (y : Hd), h < j → (hds (cor A))[h]? = some y → I' (m + 20) h = nI (markD y (dy + N - lostN s (hds (cor A)).length h N))) → V g mX12_storm (d + 4) Q 0 0 189 [some (.ref m), some (.int x1), some (.int x2), some (.int (nI N)), some (.int v), some (.int (nI j)), none, none] [] T n I' J F := by
  intro t
  induction t with
  | zero =>
    intro j I' hj hi
    obtain rfl : j = (hds (cor A)).length := by omega
    have e42 : I' m 42 = nI (hds (cor A)).length := by rw [hi.1 m (by omega)]; exact h42
    refine V.iload (pc := 189) dX12_storm_189 rfl ?_
    refine V.aload_n (pc := 191) dX12_storm_191 rfl ?_
    refine V.getI (pc := 192) dX12_storm_192 fX12_448_11 rfl hM.o ?_
    rw [e42]
    refine V.icmp_ge 234 (pc := 195) dX12_storm_195 (by decide) (fun h195 => ?_) (fun h195 => absurd (nI_le (Nat.le_refl _) (by omega)) h195)
    exact kk I' hi.1 hi.2
  | succ t ih =>
    intro j I' hj hi
    have e42 : I' m 42 = nI (hds (cor A)).length := by rw [hi.1 m (by omega)]; exact h42
    obtain ⟨y, hy⟩ : ∃ y, (hds (cor A))[j]? = some y := ⟨_, List.getElem?_eq_getElem (by omega)⟩
    have hH2 := (hH j y hy).congr (hi.1 (m + 2) (by omega))
    have el : I' (m + 19) j = nI (lostN s (hds (cor A)).length j N) := by rw [hi.1 _ (by omega)]; exact hl j (by omega)
    have hll := lostN_le s (hds (cor A)).length j N
    refine V.iload (pc := 189) dX12_storm_189 rfl ?_
    refine V.aload_n (pc := 191) dX12_storm_191 rfl ?_
    refine V.getI (pc := 192) dX12_storm_192 fX12_448_11 rfl hM.o ?_
    rw [e42]
    refine V.icmp_ge 234 (pc := 195) dX12_storm_195 (by decide) (fun h195 => absurd h195 (nI_ge (by omega) (by omega))) (fun h195 => ?_)
    refine V.aload_n (pc := 198) dX12_storm_198 rfl ?_
    refine V.getR (pc := 199) dX12_storm_199 fX12_85_11 rfl hM.o hM.f41 ?_
    refine V.iload (pc := 202) dX12_storm_202 rfl ?_
    refine V.aload_n (pc := 204) dX12_storm_204 rfl ?_
    refine V.iload (pc := 205) dX12_storm_205 rfl ?_
    refine V.aload_n (pc := 207) dX12_storm_207 rfl ?_
    refine V.iload (pc := 208) dX12_storm_208 rfl ?_
    refine V.iload_n (pc := 210) dX12_storm_210 rfl ?_
    refine V.iload_n (pc := 211) dX12_storm_211 rfl ?_
    refine V.iadd (pc := 212) dX12_storm_212 ?_
    rw [show x2 + nI N = nI (dy + N) from by rw [hx2, nI_add]]
    refine V.aload_n (pc := 213) dX12_storm_213 rfl ?_
    refine V.getR (pc := 214) dX12_storm_214 fX12_82_11 rfl hM.o hM.f40 ?_
    refine V.iload (pc := 217) dX12_storm_217 rfl ?_
    refine V.iald' (k := j) (pc := 219) dX12_storm_219 hM.t40 rfl (by omega) (by decide) ?_
    rw [el]
    refine V.isub (pc := 220) dX12_storm_220 ?_
    rw [pk_sub (by omega)]
    refine V.pV (as := [_, _]) (pc := 221) dX12_storm_221 lX12_307 bX12_gone2 nX12_gone2 (ci := 11) rfl eX12_gone2 hM.o (c_gone2 (d := d + 2) (h := j) (dd := dy + N - lostN s (hds (cor A)).length j N) (y := y) _ _ hM rfl hH2 rfl (by omega)) (by omega) rfl (Nat.le_of_ble_eq_true rfl) ?_
    refine V.pV (as := [_, _]) (pc := 224) dX12_storm_224 lX12_349 bX12_markAt nX12_markAt (ci := 11) rfl eX12_markAt hM.o (c_markAt (d := d + 0) (h := j) (go := goN (dy + N - lostN s (hds (cor A)).length j N) y.2.2.1) (y := y) _ _ hM rfl hH2 rfl (Nat.le_trans (goN_le _ _) (by omega))) (by omega) rfl (Nat.le_of_ble_eq_true rfl) ?_
    rw [show mkN (goN (dy + N - lostN s (hds (cor A)).length j N) y.2.2.1) (upN y.2.2.2) (loN y.2.2.2) y.1 y.2.1 = markD y (dy + N - lostN s (hds (cor A)).length j N) from rfl]
    refine V.iast' (k := j) (pc := 227) dX12_storm_227 hM.t41 rfl (by omega) (by decide) ?_
    refine V.iinc1 (pc := 228) dX12_storm_228 (by decide) rfl (st1_5 rfl) ?_
    refine V.goto 189 (pc := 231) dX12_storm_231 (by decide) ?_
    rw [nI_1]
    refine ih (j + 1) _ (by omega) ⟨fun b hb => by rw [up2_off hb]; exact hi.1 b hb, fun h y' h1 h2 => ?_⟩
    by_cases q : h = j
    · subst q; rw [up2_same]; rw [hy] at h2; cases h2; rfl
    · rw [up2_ne (by omega)]; exact hi.2 h y' (by omega) h2
theorem p_storm {g : gG} {d : Nat} {T : mT} {n : Nat} {I : mI} {J : mJ} {F : mF} {m : Nat} {A : Ab} (s dy nn : Int32) (hM : MS T F m) (hA : AbOK A) (hR : RepM I J m A)  : Ct g mX12_storm (d + 4) [.ref m, .int s, .int dy, .int nn] 0 0 T n I J F (QM m T n I J F (some (.int (iI (s_storm A s.toInt dy.toInt nn.toInt).1))) (s_storm A s.toInt dy.toInt nn.toInt).2) := by
  refine Ct.ofV (k := 4) (by decide) (Nat.le_of_ble_eq_true rfl) ?_
  show V g mX12_storm (d + 4) _ 0 0 0 [some (.ref m), some (.int s), some (.int dy), some (.int nn), none, none, none, none] [] T n I J F
  refine V.aload_n (pc := 0) dX12_storm_0 rfl ?_
  refine V.iconst (v := 0) (pc := 1) dX12_storm_1 (by decide) ?_
  refine V.putI (pc := 2) dX12_storm_2 fX12_88_11 (fun r h => by cases h; exact Or.inl rfl) rfl hM.o ?_
  refine V.thr hR (fun I1 hR1 hf => ?_)
  clear hR
  have hR := hR1
  clear hR1
  refine V.iload_n (pc := 5) dX12_storm_5 rfl ?_
  refine V.i2l (pc := 6) dX12_storm_6 ?_
  refine V.lconst (v := 0) (pc := 7) dX12_storm_7 (by decide) ?_
  refine V.ldc2 (pc := 8) dX12_storm_8 qX12_105 ?_
  refine V.pS (as := [_, _, _]) (pc := 11) dX12_storm_11 lX12_98 bX12_in sX12_in (c_in (d := d + 3) _ _ _) (by omega) rfl (Nat.le_of_ble_eq_true rfl) ?_
  refine V.if_eq 45 (pc := 14) dX12_storm_14 (by decide) (fun h14 => ?_) (fun h14 => ?_)
  · have q1 : ¬ (0 ≤ s.toInt ∧ s.toInt ≤ 1000000) := fun z => bi_eq.mp h14 ((in64 s 0 1000000 0 1000000 rfl rfl).mpr z)
    refine V.aload_n (pc := 45) dX12_storm_45 rfl ?_
    refine V.iconst (v := (-1)) (pc := 46) dX12_storm_46 (by decide) ?_
    refine V.invV0 (as := [_]) (pc := 47) dX12_storm_47 lX12_102 bX12_tell nX12_tell (ci := 11) rfl eX12_tell hM.o (c_tell (d := d + 3) _ hM (by first | decide | (rw [nI_toInt (by omega)]; omega))) (by omega) rfl (Nat.le_of_ble_eq_true rfl) ?_
    rintro _ _ _ _ _ _ ⟨rfl, rfl, rfl, rfl, rfl, rfl⟩
    exact V.iret (pc := 50) dX12_storm_50 rfl (QM.no hR hf (by decide) (by rw [s_storm, if_neg (show ¬ (((0 ≤ s.toInt ∧ s.toInt ≤ 1000000) ∧ (0 ≤ dy.toInt ∧ dy.toInt ≤ 1000000)) ∧ ((1 ≤ nn.toInt ∧ nn.toInt ≤ 100) ∧ dy.toInt + nn.toInt ≤ 1000000)) by omega)]; rfl))
  · have q1 : 0 ≤ s.toInt ∧ s.toInt ≤ 1000000 := (in64 s 0 1000000 0 1000000 rfl rfl).mp (bi_ne.mp h14)
    refine V.iload_n (pc := 17) dX12_storm_17 rfl ?_
    refine V.pS (as := [_]) (pc := 18) dX12_storm_18 lX12_318 bX12_isDay sX12_isDay (c_isDay (d := d + 2) _) (by omega) rfl (Nat.le_of_ble_eq_true rfl) ?_
    refine V.if_eq 45 (pc := 21) dX12_storm_21 (by decide) (fun h21 => ?_) (fun h21 => ?_)
    · have q2 := bi_eq.mp h21
      refine V.aload_n (pc := 45) dX12_storm_45 rfl ?_
      refine V.iconst (v := (-1)) (pc := 46) dX12_storm_46 (by decide) ?_
      refine V.invV0 (as := [_]) (pc := 47) dX12_storm_47 lX12_102 bX12_tell nX12_tell (ci := 11) rfl eX12_tell hM.o (c_tell (d := d + 3) _ hM (by first | decide | (rw [nI_toInt (by omega)]; omega))) (by omega) rfl (Nat.le_of_ble_eq_true rfl) ?_
      rintro _ _ _ _ _ _ ⟨rfl, rfl, rfl, rfl, rfl, rfl⟩
      exact V.iret (pc := 50) dX12_storm_50 rfl (QM.no hR hf (by decide) (by rw [s_storm, if_neg (show ¬ (((0 ≤ s.toInt ∧ s.toInt ≤ 1000000) ∧ (0 ≤ dy.toInt ∧ dy.toInt ≤ 1000000)) ∧ ((1 ≤ nn.toInt ∧ nn.toInt ≤ 100) ∧ dy.toInt + nn.toInt ≤ 1000000)) by omega)]; rfl))
    · have q2 := bi_ne.mp h21
      refine V.iload_n (pc := 24) dX12_storm_24 rfl ?_
      refine V.i2l (pc := 25) dX12_storm_25 ?_
      refine V.lconst (v := 1) (pc := 26) dX12_storm_26 (by decide) ?_
      refine V.ldc2 (pc := 27) dX12_storm_27 qX12_443 ?_
      refine V.pS (as := [_, _, _]) (pc := 30) dX12_storm_30 lX12_98 bX12_in sX12_in (c_in (d := d + 3) _ _ _) (by omega) rfl (Nat.le_of_ble_eq_true rfl) ?_
      refine V.if_eq 45 (pc := 33) dX12_storm_33 (by decide) (fun h33 => ?_) (fun h33 => ?_)
      · have q3 : ¬ (1 ≤ nn.toInt ∧ nn.toInt ≤ 100) := fun z => bi_eq.mp h33 ((in64 nn 1 100 1 100 rfl rfl).mpr z)
        refine V.aload_n (pc := 45) dX12_storm_45 rfl ?_
        refine V.iconst (v := (-1)) (pc := 46) dX12_storm_46 (by decide) ?_
        refine V.invV0 (as := [_]) (pc := 47) dX12_storm_47 lX12_102 bX12_tell nX12_tell (ci := 11) rfl eX12_tell hM.o (c_tell (d := d + 3) _ hM (by first | decide | (rw [nI_toInt (by omega)]; omega))) (by omega) rfl (Nat.le_of_ble_eq_true rfl) ?_
        rintro _ _ _ _ _ _ ⟨rfl, rfl, rfl, rfl, rfl, rfl⟩
        exact V.iret (pc := 50) dX12_storm_50 rfl (QM.no hR hf (by decide) (by rw [s_storm, if_neg (show ¬ (((0 ≤ s.toInt ∧ s.toInt ≤ 1000000) ∧ (0 ≤ dy.toInt ∧ dy.toInt ≤ 1000000)) ∧ ((1 ≤ nn.toInt ∧ nn.toInt ≤ 100) ∧ dy.toInt + nn.toInt ≤ 1000000)) by omega)]; rfl))
      · have q3 : 1 ≤ nn.toInt ∧ nn.toInt ≤ 100 := (in64 nn 1 100 1 100 rfl rfl).mp (bi_ne.mp h33)
        have hs1 := nIx (x := s) q1.1 rfl
        have hd1 := nIx (x := dy) q2.1 rfl
        have hn1 := nIx (x := nn) (by omega) rfl
        refine V.iload_n (pc := 36) dX12_storm_36 rfl ?_
        refine V.iload_n (pc := 37) dX12_storm_37 rfl ?_
        refine V.iadd (pc := 38) dX12_storm_38 ?_
        rw [show dy + nn = nI (dy.toInt.toNat + nn.toInt.toNat) from by rw [← nI_add, ← hd1, ← hn1]]
        refine V.pS (as := [_]) (pc := 39) dX12_storm_39 lX12_318 bX12_isDay sX12_isDay (c_isDay (d := d + 2) _) (by omega) rfl (Nat.le_of_ble_eq_true rfl) ?_
        refine V.if_ne 51 (pc := 42) dX12_storm_42 (by decide) (fun h42 => ?_) (fun h42 => ?_)
        · have q4 := bi_ne.mp h42
          rw [nI_toInt (by omega)] at q4
          refine V.aload_n (pc := 51) dX12_storm_51 rfl ?_
          refine V.iload_n (pc := 52) dX12_storm_52 rfl ?_
          refine V.i2l (pc := 53) dX12_storm_53 ?_
          rw [toL hs1 (by omega)]
          refine V.putJ (pc := 54) dX12_storm_54 fX12_445_11 (fun r h => by cases h; exact Or.inl rfl) rfl hM.o ?_
          refine V.aload_n (pc := 57) dX12_storm_57 rfl ?_
          refine V.aload_n (pc := 58) dX12_storm_58 rfl ?_
          refine V.getR (pc := 59) dX12_storm_59 fX12_13_11 rfl hM.o hM.f3 ?_
          refine V.iconst (v := 0) (pc := 62) dX12_storm_62 (by decide) ?_
          refine V.iald' (k := 0) (pc := 63) dX12_storm_63 hM.t3 rfl (by decide) (by decide) ?_
          rw [hR.h0]
          refine V.putI (pc := 64) dX12_storm_64 fX12_448_11 (fun r h => by cases h; exact Or.inl rfl) rfl hM.o ?_
          refine V.iconst (v := 0) (pc := 67) dX12_storm_67 (by decide) ?_
          refine V.is (pc := 68) dX12_storm_68 (by decide) (st1_4 rfl) ?_
          have h6 := hA.1.1
          have hb6 : nn.toInt.toNat * (hds (cor A)).length ≤ 100 * 6 := Nat.mul_le_mul (by omega) h6
          have hb7 := allN_le s.toInt.toNat (nn.toInt.toNat * (hds (cor A)).length)
          rw [L0]
          refine l_stZ hM (fun I2 g1 g2 => ?_) 6 0 _ (by omega) ⟨fun _ _ => rfl, fun i h => absurd h (by omega)⟩
          refine V.iconst (v := 0) (pc := 91) dX12_storm_91 (by decide) ?_
          refine V.is (pc := 92) dX12_storm_92 (by decide) (st1_4 rfl) ?_
          refine V.iconst (v := 0) (pc := 94) dX12_storm_94 (by decide) ?_
          refine V.is (pc := 95) dX12_storm_95 (by decide) (st1_5 rfl) ?_
          have e42 : I2 m 42 = nI (hds (cor A)).length := by rw [g1 m (by omega), up2_same]
          conv => arg 8; rw [hn1]
          refine Eq.mp (congrArg (fun v => V g mX12_storm (d + 4) _ 0 0 97 [some (.ref m), some (.int s), some (.int dy), some (.int (nI nn.toInt.toNat)), some (.int v), some (.int (nI 0)), none, none] [] T n I2 (up2 J m 43 (lN s.toInt.toNat)) F) (show nI (allN s.toInt.toNat (0 * (hds (cor A)).length)) = 0 from by rw [Nat.zero_mul]; rfl)) (l_stD (d := d) (I := I2) (J := up2 J m 43 (lN s.toInt.toNat)) hM (s := s.toInt.toNat) (by omega) h6 e42 (N := nn.toInt.toNat) (by omega) (fun I3 J3 hS => ?_) nn.toInt.toNat 0 I2 _ (by omega) ⟨fun _ _ => rfl, fun h hh => by rw [g2 h (by omega)]; rfl, fun _ _ => rfl, by rw [up2_same]; simp [drw]⟩)
          refine V.iconst (v := 0) (pc := 186) dX12_storm_186 (by decide) ?_
          refine V.is (pc := 187) dX12_storm_187 (by decide) (st1_5 rfl) ?_
          refine l_stE (d := d) (s := s.toInt.toNat) (dy := dy.toInt.toNat) hM hd1 (by omega) (by omega) h6 (by rw [hS.1 m (by omega)]; exact e42) (fun h hh => by rw [hS.2.1 h hh]; rfl) (fun h y hy => (hR.hd hA hy).congr (by rw [hS.1 _ (by omega), g1 _ (by omega), up2_off (by omega)])) (fun I4 k1 k2 => ?_) (hds (cor A)).length 0 I3 (by omega) ⟨fun _ _ => rfl, fun h _ hh => absurd hh (by omega)⟩
          refine V.aload_n (pc := 234) dX12_storm_234 rfl ?_
          refine V.iload (pc := 235) dX12_storm_235 rfl ?_
          refine V.invV0 (as := [_]) (pc := 237) dX12_storm_237 lX12_102 bX12_tell nX12_tell (ci := 11) rfl eX12_tell hM.o (c_tell (d := d + 3) _ hM (by first | decide | (rw [nI_toInt (by omega)]; omega))) (by omega) rfl (Nat.le_of_ble_eq_true rfl) ?_
          rintro _ _ _ _ _ _ ⟨rfl, rfl, rfl, rfl, rfl, rfl⟩
          exact V.iret (pc := 240) dX12_storm_240 rfl ⟨by rw [s_storm, if_pos (show ((0 ≤ s.toInt ∧ s.toInt ≤ 1000000) ∧ (0 ≤ dy.toInt ∧ dy.toInt ≤ 1000000)) ∧ ((1 ≤ nn.toInt ∧ nn.toInt ≤ 100) ∧ dy.toInt + nn.toInt ≤ 1000000) by omega), iI_nat], rfl, rfl, rfl, Frm.tell (fun b hb => by rw [k1 b (by omega), hS.1 b (by omega), g1 b (by omega), up2_off (by omega)]; exact hf b hb), fun b hb => by rw [hS.2.2.1 b (by omega), up2_off (by omega)], by
                    rw [s_storm, if_pos (show ((0 ≤ s.toInt ∧ s.toInt ≤ 1000000) ∧ (0 ≤ dy.toInt ∧ dy.toInt ≤ 1000000)) ∧ ((1 ≤ nn.toInt ∧ nn.toInt ≤ 100) ∧ dy.toInt + nn.toInt ≤ 1000000) by omega)]
                    refine RepM.okay (hR.storm (st := stmL (hds (cor A)) s.toInt.toNat dy.toInt.toNat nn.toInt.toNat) (fun b b0 b1 b2 => by rw [k1 b b2, hS.1 b b1, g1 b b1, up2_off b0]) (fun k hk => by rw [k1 m (by omega), hS.1 m (by omega), g1 m (by omega), up2_ne (by omega)]) (by rw [k1 m (by omega), hS.1 m (by omega), e42, stmL_len]) (fun h x hx => ?_) (by rw [hS.2.2.1 _ (by omega), up2_off (by omega)])) _ (nI_pos' (Nat.lt_of_le_of_lt (allN_le _ _) (by omega)))
                    obtain ⟨y, hy, hl, ex⟩ := stmL_get hx
                    rw [ex]
                    exact ⟨k2 h y hl hy, by rw [k1 _ (by omega), hS.2.1 h hl]; rfl⟩⟩
        · have q4 := bi_eq.mp h42
          rw [nI_toInt (by omega)] at q4
          refine V.aload_n (pc := 45) dX12_storm_45 rfl ?_
          refine V.iconst (v := (-1)) (pc := 46) dX12_storm_46 (by decide) ?_
          refine V.invV0 (as := [_]) (pc := 47) dX12_storm_47 lX12_102 bX12_tell nX12_tell (ci := 11) rfl eX12_tell hM.o (c_tell (d := d + 3) _ hM (by first | decide | (rw [nI_toInt (by omega)]; omega))) (by omega) rfl (Nat.le_of_ble_eq_true rfl) ?_
          rintro _ _ _ _ _ _ ⟨rfl, rfl, rfl, rfl, rfl, rfl⟩
          exact V.iret (pc := 50) dX12_storm_50 rfl (QM.no hR hf (by decide) (by rw [s_storm, if_neg (show ¬ (((0 ≤ s.toInt ∧ s.toInt ≤ 1000000) ∧ (0 ≤ dy.toInt ∧ dy.toInt ≤ 1000000)) ∧ ((1 ≤ nn.toInt ∧ nn.toInt ≤ 100) ∧ dy.toInt + nn.toInt ≤ 1000000)) by omega)]; rfl))
theorem p_stormed {g : gG} {d : Nat} {T : mT} {n : Nat} {I : mI} {J : mJ} {F : mF} {m : Nat} {A : Ab} (x w : Int32) (hM : MS T F m) (hA : AbOK A) (hR : RepM I J m A)  : Ct g mX12_stormed (d + 3) [.ref m, .int x, .int w] 0 0 T n I J F (QM m T n I J F (some (.int (iI (s_stormed A x.toInt w.toInt)))) A) := by
  refine Ct.ofV (k := 0) (by decide) (Nat.le_of_ble_eq_true rfl) ?_
  show V g mX12_stormed (d + 3) _ 0 0 0 [some (.ref m), some (.int x), some (.int w)] [] T n I J F
  refine V.aload_n (pc := 0) dX12_stormed_0 rfl ?_
  refine V.iconst (v := 0) (pc := 1) dX12_stormed_1 (by decide) ?_
  refine V.putI (pc := 2) dX12_stormed_2 fX12_88_11 (fun r h => by cases h; exact Or.inl rfl) rfl hM.o ?_
  refine V.thr hR (fun I1 hR1 hf => ?_)
  clear hR
  have hR := hR1
  clear hR1
  refine V.iload_n (pc := 5) dX12_stormed_5 rfl ?_
  refine V.i2l (pc := 6) dX12_stormed_6 ?_
  refine V.lconst (v := 0) (pc := 7) dX12_stormed_7 (by decide) ?_
  refine V.aload_n (pc := 8) dX12_stormed_8 rfl ?_
  refine V.getI (pc := 9) dX12_stormed_9 fX12_448_11 rfl hM.o ?_
  rw [hR.1.2.2.2.2]
  refine V.i2l (pc := 12) dX12_stormed_12 ?_
  refine V.lconst (v := 1) (pc := 13) dX12_stormed_13 (by decide) ?_
  refine V.lsub (pc := 14) dX12_stormed_14 ?_
  refine V.pS (as := [_, _, _]) (pc := 15) dX12_stormed_15 lX12_98 bX12_in sX12_in (c_in (d := d + 2) _ _ _) (by omega) rfl (Nat.le_of_ble_eq_true rfl) ?_
  refine V.if_eq 53 (pc := 18) dX12_stormed_18 (by decide) (fun h18 => ?_) (fun h18 => ?_)
  · have q : ¬ (0 ≤ x.toInt ∧ x.toInt < (stm A).length) := fun z => bi_eq.mp h18 ((in0 x _ (by have := hA.2.2.2.2; omega)).mpr z)
    refine V.iconst (v := (-1)) (pc := 53) dX12_stormed_53 (by decide) ?_
    exact V.iret (pc := 54) dX12_stormed_54 rfl ⟨by rw [s_stormed, if_neg q]; rfl, rfl, rfl, rfl, hf, Frm.rf, hR⟩
  · have q : 0 ≤ x.toInt ∧ x.toInt < (stm A).length := (in0 x _ (by have := hA.2.2.2.2; omega)).mp (bi_ne.mp h18)
    have h6 := hA.2.2.2.2
    have hx := nIx (x := x) q.1 rfl
    have hg := List.getElem?_eq_getElem (show x.toInt.toNat < (stm A).length by omega)
    obtain ⟨r1, r2⟩ := hR.2.2.2.2.2.1 _ _ hg
    refine V.iload_n (pc := 21) dX12_stormed_21 rfl ?_
    refine V.i2l (pc := 22) dX12_stormed_22 ?_
    refine V.lconst (v := 0) (pc := 23) dX12_stormed_23 (by decide) ?_
    refine V.lconst (v := 1) (pc := 24) dX12_stormed_24 (by decide) ?_
    refine V.pS (as := [_, _, _]) (pc := 25) dX12_stormed_25 lX12_98 bX12_in sX12_in (c_in (d := d + 2) _ _ _) (by omega) rfl (Nat.le_of_ble_eq_true rfl) ?_
    refine V.if_eq 53 (pc := 28) dX12_stormed_28 (by decide) (fun h28 => ?_) (fun h28 => ?_)
    · have qw : ¬ (0 ≤ w.toInt ∧ w.toInt ≤ 1) := fun z => bi_eq.mp h28 ((in64 w 0 1 0 1 rfl rfl).mpr z)
      refine V.iconst (v := (-1)) (pc := 53) dX12_stormed_53 (by decide) ?_
      exact V.iret (pc := 54) dX12_stormed_54 rfl ⟨by rw [s_stormed, if_pos q, if_neg (by omega), if_neg (by omega)]; rfl, rfl, rfl, rfl, hf, Frm.rf, hR⟩
    · have qw : 0 ≤ w.toInt ∧ w.toInt ≤ 1 := (in64 w 0 1 0 1 rfl rfl).mp (bi_ne.mp h28)
      refine V.iload_n (pc := 31) dX12_stormed_31 rfl ?_
      refine V.if_ne 44 (pc := 32) dX12_stormed_32 (by decide) (fun h32 => ?_) (fun h32 => ?_)
      · have w1 : ¬ w.toInt = 0 := fun z => h32 ((eq32 w 0).mpr z)
        refine V.aload_n (pc := 44) dX12_stormed_44 rfl ?_
        refine V.getR (pc := 45) dX12_stormed_45 fX12_82_11 rfl hM.o hM.f40 ?_
        refine V.iload_n (pc := 48) dX12_stormed_48 rfl ?_
        refine V.iald' (k := x.toInt.toNat) (pc := 49) dX12_stormed_49 hM.t40 hx (by omega) (by decide) ?_
        rw [r2]
        refine V.goto 54 (pc := 50) dX12_stormed_50 (by decide) ?_
        exact V.iret (pc := 54) dX12_stormed_54 rfl ⟨by rw [s_stormed, if_pos q, if_neg w1, if_pos (by omega), iI_nat, getD_some hg], rfl, rfl, rfl, hf, Frm.rf, hR⟩
      · have w1 : w.toInt = 0 := by rw [h32]; rfl
        refine V.aload_n (pc := 35) dX12_stormed_35 rfl ?_
        refine V.getR (pc := 36) dX12_stormed_36 fX12_85_11 rfl hM.o hM.f41 ?_
        refine V.iload_n (pc := 39) dX12_stormed_39 rfl ?_
        refine V.iald' (k := x.toInt.toNat) (pc := 40) dX12_stormed_40 hM.t41 hx (by omega) (by decide) ?_
        rw [r1]
        refine V.goto 54 (pc := 41) dX12_stormed_41 (by decide) ?_
        exact V.iret (pc := 54) dX12_stormed_54 rfl ⟨by rw [s_stormed, if_pos q, if_pos w1, iI_nat, getD_some hg], rfl, rfl, rfl, hf, Frm.rf, hR⟩
