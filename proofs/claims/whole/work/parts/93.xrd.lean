-- the class reads tokens (u: the Reader; its tokens at u + 1, its code at u + 5, its starts at u + 6)
def RrS (T : mT) (F : mF) (u : Nat) : Prop := T u = some (.inl 4) ∧ F u 0 = some (u + 1) ∧ TkS T F (u + 1) ∧ (F u 8 = some (u + 5) ∧ T (u + 5) = some (.inr (.int, 400))) ∧ F u 9 = some (u + 6) ∧ T (u + 6) = some (.inr (.int, 13))
section RRS
variable {T : mT} {F : mF} {u x : Nat}
theorem RrS.o (h : RrS T F u) : T u = some (.inl 4) := h.1
theorem RrS.f0 (h : RrS T F u) : F u 0 = some (u + 1) := h.2.1
theorem RrS.tk (h : RrS T F u) : TkS T F (u + 1) := h.2.2.1
theorem RrS.f8 (h : RrS T F u) : F u 8 = some (u + 5) := h.2.2.2.1.1
theorem RrS.t8 (h : RrS T F u) : T (u + 5) = some (.inr (.int, 400)) := h.2.2.2.1.2
theorem RrS.f9 (h : RrS T F u) : F u 9 = some (u + 6) := h.2.2.2.2.1
theorem RrS.t9 (h : RrS T F u) : T (u + 6) = some (.inr (.int, 13)) := h.2.2.2.2.2
theorem XS.rr (h : XS T F x) : RrS T F (x + 24) := ⟨h.o8, h.g24_0, h.tk, ⟨h.g24_8, h.u29⟩, h.g24_9, h.u30⟩
end RRS
def TkAt (tt : Nat → Nat) (N : Nat) (I : mI) (u i : Nat) : Prop := I u 1 = nI i ∧ I u 2 = iI (kdT tt N i) ∧ I u 3 = nI (nmT tt N i) ∧ I u 4 = nI (frT tt N i)
def CdX (I : mI) (u s : Nat) (c : Nat → Nat) : Prop := I u 7 = nI s ∧ ∀ j, j < s → I (u + 5) j = nI (c j) ∧ c j < 2 ^ 20
def XrM (tt : Nat → Nat) (N : Nat) (I : mI) (u i p s : Nat) (c : Nat → Nat) : Prop := TkAt tt N I u i ∧ I u 5 = nI p ∧ CdX I u s c ∧ TkX I (u + 1) tt N (tkN tt N + 1) ∧ i ≤ tkN tt N ∧ s ≤ i ∧ lcX c s = p ∧ p ≤ 50
def XrF (u : Nat) (I I' : mI) : Prop := (∀ b, b ≠ u → b ≠ u + 5 → I' b = I b) ∧ ∀ t, t = 0 ∨ t = 6 ∨ 7 < t → I' u t = I u t
def TtM (tt : Nat → Nat) (N : Nat) : Prop := N ≤ 400 ∧ ∀ i, tt i ≤ 255
section XRP
variable {tt : Nat → Nat} {N u i p s : Nat} {c : Nat → Nat} {I I' I'' : mI}
theorem XrF.rf : XrF u I I := ⟨fun _ _ _ => rfl, fun _ _ => rfl⟩
theorem XrF.tr (h : XrF u I I') (h2 : XrF u I' I'') : XrF u I I'' := ⟨fun b a e => (h2.1 b a e).trans (h.1 b a e), fun t e => (h2.2 t e).trans (h.2 t e)⟩
theorem XrF.up {a t : Nat} {v : Int32} (h : XrF u I I') (ha : (a = u ∧ t ≠ 0 ∧ t ≠ 6 ∧ t ≤ 7) ∨ a = u + 5) : XrF u I (up2 I' a t v) := ⟨fun b h1 h2 => by rw [up2_off (by omega)]; exact h.1 b h1 h2, fun t h1 => by rw [up2_ne (by omega)]; exact h.2 t h1⟩
theorem TtM.end (h : TtM tt N) : EndT (kdT tt N) (tkN tt N) := EndT.of h.1
theorem TtM.kd (h : TtM tt N) (i : Nat) : kdT tt N i ≤ 305 := kdT_le (fun i _ => h.2 i) i
theorem nmT_le {i : Nat} : nmT tt N i ≤ 10001 := by
  unfold nmT
  split
  · omega
  · split
    · omega
    · split
      · exact dvX_le _
      · omega
theorem kdT_ge {i : Nat} : -1 ≤ kdT tt N i := by
  by_cases h : frT tt N i < N
  · have := kdT_pos h; omega
  · have h2 := (frT_bd (t := tt) (n := N) i).2
    rw [kdT_end (by omega)]; omega
theorem nI_or (a b : Nat) : nI a ||| nI b = nI (a ||| b) := Int32.toBitVec_inj.mp (by simp [nI, BitVec.ofNat_or])
theorem or5 {v k : Nat} (hk : k < 32) : nI (v * 2 ^ 5) ||| nI k = nI (32 * v + k) := by
  have e : 32 * v + k = v * 2 ^ 5 ||| k := by
    have := Nat.two_pow_add_eq_or_of_lt (i := 5) (b := k) (by omega) v
    rw [Nat.mul_comm v]
    exact this
  rw [e]
  exact nI_or _ _
theorem shl5 {v : Nat} (h : v < 2 ^ 20) : nI v <<< ((5 : Int32) &&& 31) = nI (v * 2 ^ 5) := pk_shlN _ 5 (by decide) (by omega)
theorem TkX.keep {k : Nat} {I I' : mI} {M : Nat} (h : TkX I k tt N M) (e : ∀ b, k ≤ b → b ≤ k + 3 → I' b = I b) : TkX I' k tt N M := ⟨by rw [e k (by omega) (by omega)]; exact h.1, fun j hj => by rw [e _ (by omega) (by omega), e _ (by omega) (by omega), e _ (by omega) (by omega)]; exact h.2 j hj⟩
/-- one step more -/
theorem XrM.step {kd v : Nat} (h : XrM tt N I u i p s c) (hk : kd < 32) (h5 : 5 < kd) (hv : v ≤ 10001) (hs : s < i) : XrM tt N (up2 (up2 I (u + 5) s (nI (32 * v + kd))) u 7 (nI (s + 1))) u i p (s + 1) (fun j => if j = s then 32 * v + kd else c j) := by
  obtain ⟨⟨a1, a2, a3, a4⟩, b, ⟨d1, d2⟩, e, f, g, l, l2⟩ := h
  refine ⟨⟨?_, ?_, ?_, ?_⟩, ?_, ⟨up2_same, fun j hj => ?_⟩, TkX.keep e (fun b h1 h2 => by rw [up2_off (by omega), up2_off (by omega)]), f, hs, ?_, l2⟩
  · rw [up2_ne (by omega), up2_off (by omega)]; exact a1
  · rw [up2_ne (by omega), up2_off (by omega)]; exact a2
  · rw [up2_ne (by omega), up2_off (by omega)]; exact a3
  · rw [up2_ne (by omega), up2_off (by omega)]; exact a4
  · rw [up2_ne (by omega), up2_off (by omega)]; exact b
  · show _ = nI (if j = s then 32 * v + kd else c j) ∧ (if j = s then 32 * v + kd else c j) < 2 ^ 20
    by_cases z : j = s
    · rw [if_pos z, z, up2_off (by omega), up2_same]; exact ⟨rfl, by omega⟩
    · rw [if_neg z, up2_off (by omega), up2_ne (by omega)]; exact d2 j (by omega)
  · show lcX (fun j => if j = s then 32 * v + kd else c j) s + _ = p
    rw [lcX_congr (c := c) s (fun j hj => by rw [if_neg (by omega)])]
    have : ¬ (32 * v + kd) % 32 ≤ 5 := by omega
    simp only [if_true, this, if_false]
    exact l
end XRP
theorem x_nextToken {g : gG} {d : Nat} {T : mT} {n : Nat} {I : mI} {J : mJ} {F : mF} {u N i : Nat} {tt : Nat → Nat} (hRd : RrS T F u) (hk : TkX I (u + 1) tt N (tkN tt N + 1)) (hi : i ≤ tkN tt N) (hE : tkN tt N ≤ 400) (h1 : I u 1 = iI ((i : Int) - 1)) : Ct g mX4_nextToken (d + 1) [.ref u] 0 0 T n I J F (fun r' T' n' I' J' F' => r' = none ∧ T' = T ∧ n' = n ∧ J' = J ∧ F' = F ∧ (∀ b, b ≠ u → I' b = I b) ∧ (∀ t, t = 0 ∨ 4 < t → I' u t = I u t) ∧ TkAt tt N I' u i) := by
  refine Ct.ofV (k := 0) (by decide) (Nat.le_of_ble_eq_true rfl) ?_
  show V g mX4_nextToken (d + 1) _ 0 0 0 [some (.ref u)] [] T n I J F
  have hTo := hRd.tk.o
  have hF0 := hRd.tk.f0
  have hF1 := hRd.tk.f1
  have hF2 := hRd.tk.f2
  have hT0 := hRd.tk.t0
  have hT1 := hRd.tk.t1
  have hT2 := hRd.tk.t2
  have e3 := hk.1
  obtain ⟨q1, q2, q3⟩ := hk.2 i (by omega)
  refine V.aload_n (pc := 0) dX4_nextToken_0 rfl ?_
  refine V.aload_n (pc := 1) dX4_nextToken_1 rfl ?_
  refine V.getI (pc := 2) dX4_nextToken_2 fX4_18_4 rfl hRd.o ?_
  rw [h1]
  refine V.iconst (v := 1) (pc := 5) dX4_nextToken_5 (by decide) ?_
  refine V.iadd (pc := 6) dX4_nextToken_6 ?_
  rw [iI_inc]
  refine V.aload_n (pc := 7) dX4_nextToken_7 rfl ?_
  refine V.getR (pc := 8) dX4_nextToken_8 fX4_12_4 rfl hRd.o hRd.f0 ?_
  refine V.getI (pc := 11) dX4_nextToken_11 fX4_129_9 rfl (by assumption) ?_
  rw [e3]
  refine V.iconst (v := 1) (pc := 14) dX4_nextToken_14 (by decide) ?_
  refine V.isub (pc := 15) dX4_nextToken_15 ?_
  rw [nI_pred]
  refine V.mmin (pc := 16) dX4_nextToken_16 lX4_67 (by omega) (Nat.le_of_ble_eq_true rfl) ?_
  rw [nI_min (by omega) (by omega), Nat.min_eq_left hi]
  refine V.putI (pc := 19) dX4_nextToken_19 fX4_18_4 (fun r h => by cases h; exact Or.inl rfl) rfl hRd.o ?_
  refine V.aload_n (pc := 22) dX4_nextToken_22 rfl ?_
  refine V.getI (pc := 23) dX4_nextToken_23 fX4_18_4 rfl hRd.o ?_
  rw [up2_same]
  refine V.if_lt 87 (pc := 26) dX4_nextToken_26 (by decide) (fun h26 => absurd h26 (nI_pos (by omega))) (fun h26 => ?_)
  refine V.aload_n (pc := 29) dX4_nextToken_29 rfl ?_
  refine V.getI (pc := 30) dX4_nextToken_30 fX4_18_4 rfl hRd.o ?_
  rw [up2_same]
  refine V.sipush (v := 400) (pc := 33) dX4_nextToken_33 (by decide) ?_
  refine V.icmp_gt 87 (pc := 36) dX4_nextToken_36 (by decide) (fun h36 => absurd (show nI 400 < nI i from h36) (nI_nlt (by omega) (by omega))) (fun h36 => ?_)
  refine V.aload_n (pc := 39) dX4_nextToken_39 rfl ?_
  refine V.aload_n (pc := 40) dX4_nextToken_40 rfl ?_
  refine V.getR (pc := 41) dX4_nextToken_41 fX4_12_4 rfl hRd.o hRd.f0 ?_
  refine V.getR (pc := 44) dX4_nextToken_44 fX4_132_9 rfl (by assumption) (by assumption) ?_
  refine V.aload_n (pc := 47) dX4_nextToken_47 rfl ?_
  refine V.getI (pc := 48) dX4_nextToken_48 fX4_18_4 rfl hRd.o ?_
  rw [up2_same]
  refine V.iald' (k := i) (pc := 51) dX4_nextToken_51 (by assumption) rfl (by omega) (by decide) ?_
  rw [up2_off (by omega), q1]
  refine V.putI (pc := 52) dX4_nextToken_52 fX4_22_4 (fun r h => by cases h; exact Or.inl rfl) rfl hRd.o ?_
  refine V.aload_n (pc := 55) dX4_nextToken_55 rfl ?_
  refine V.aload_n (pc := 56) dX4_nextToken_56 rfl ?_
  refine V.getR (pc := 57) dX4_nextToken_57 fX4_12_4 rfl hRd.o hRd.f0 ?_
  refine V.getR (pc := 60) dX4_nextToken_60 fX4_135_9 rfl (by assumption) (by assumption) ?_
  refine V.aload_n (pc := 63) dX4_nextToken_63 rfl ?_
  refine V.getI (pc := 64) dX4_nextToken_64 fX4_18_4 rfl hRd.o ?_
  rw [up2_ne (by omega), up2_same]
  refine V.iald' (k := i) (pc := 67) dX4_nextToken_67 (by assumption) rfl (by omega) (by decide) ?_
  rw [up2_off (by omega), up2_off (by omega), q2]
  refine V.putI (pc := 68) dX4_nextToken_68 fX4_25_4 (fun r h => by cases h; exact Or.inl rfl) rfl hRd.o ?_
  refine V.aload_n (pc := 71) dX4_nextToken_71 rfl ?_
  refine V.aload_n (pc := 72) dX4_nextToken_72 rfl ?_
  refine V.getR (pc := 73) dX4_nextToken_73 fX4_12_4 rfl hRd.o hRd.f0 ?_
  refine V.getR (pc := 76) dX4_nextToken_76 fX4_138_9 rfl (by assumption) (by assumption) ?_
  refine V.aload_n (pc := 79) dX4_nextToken_79 rfl ?_
  refine V.getI (pc := 80) dX4_nextToken_80 fX4_18_4 rfl hRd.o ?_
  rw [up2_ne (by omega), up2_ne (by omega), up2_same]
  refine V.iald' (k := i) (pc := 83) dX4_nextToken_83 (by assumption) rfl (by omega) (by decide) ?_
  rw [up2_off (by omega), up2_off (by omega), up2_off (by omega), q3]
  refine V.putI (pc := 84) dX4_nextToken_84 fX4_28_4 (fun r h => by cases h; exact Or.inl rfl) rfl hRd.o ?_
  exact V.vret (pc := 87) dX4_nextToken_87 rfl ⟨rfl, rfl, rfl, rfl, rfl, fun b hb => by rw [up2_off hb, up2_off hb, up2_off hb, up2_off hb], fun t ht => by rw [up2_ne (by omega), up2_ne (by omega), up2_ne (by omega), up2_ne (by omega)], by rw [up2_ne (by omega), up2_ne (by omega), up2_ne (by omega), up2_same], by rw [up2_ne (by omega), up2_ne (by omega), up2_same], by rw [up2_ne (by omega), up2_same], up2_same⟩
theorem x_addStep {g : gG} {d : Nat} {T : mT} {n : Nat} {I : mI} {J : mJ} {F : mF} {u s kd v : Nat} (x y : Int32) (hRd : RrS T F u) (h7 : I u 7 = nI s) (hs : s < 400) (hkd : kd < 32) (hv : v < 2 ^ 20) (hx : x = nI kd) (hy : y = nI v) : Ct g mX4_addStep (d + 0) [.ref u, .int x, .int y] 0 0 T n I J F (fun r' T' n' I' J' F' => r' = none ∧ T' = T ∧ n' = n ∧ I' = up2 (up2 I (u + 5) s (nI (32 * v + kd))) u 7 (nI (s + 1)) ∧ J' = J ∧ F' = F) := by
  refine Ct.ofV (k := 0) (by decide) (Nat.le_of_ble_eq_true rfl) ?_
  show V g mX4_addStep (d + 0) _ 0 0 0 [some (.ref u), some (.int x), some (.int y)] [] T n I J F
  subst hx hy
  refine V.aload_n (pc := 0) dX4_addStep_0 rfl ?_
  refine V.getI (pc := 1) dX4_addStep_1 fX4_37_4 rfl hRd.o ?_
  rw [h7]
  refine V.if_lt 43 (pc := 4) dX4_addStep_4 (by decide) (fun h4 => absurd h4 (nI_pos (by omega))) (fun h4 => ?_)
  refine V.aload_n (pc := 7) dX4_addStep_7 rfl ?_
  refine V.getI (pc := 8) dX4_addStep_8 fX4_37_4 rfl hRd.o ?_
  rw [h7]
  refine V.aload_n (pc := 11) dX4_addStep_11 rfl ?_
  refine V.getR (pc := 12) dX4_addStep_12 fX4_40_4 rfl hRd.o hRd.f8 ?_
  refine V.alen (pc := 15) dX4_addStep_15 hRd.t8 ty_i (by rfl) ?_
  refine V.icmp_ge 43 (pc := 16) dX4_addStep_16 (by decide) (fun h16 => absurd (show nI 400 ≤ nI s from h16) (nI_ge hs (by omega))) (fun h16 => ?_)
  refine V.aload_n (pc := 19) dX4_addStep_19 rfl ?_
  refine V.getR (pc := 20) dX4_addStep_20 fX4_40_4 rfl hRd.o hRd.f8 ?_
  refine V.aload_n (pc := 23) dX4_addStep_23 rfl ?_
  refine V.getI (pc := 24) dX4_addStep_24 fX4_37_4 rfl hRd.o ?_
  rw [h7]
  refine V.iload_n (pc := 27) dX4_addStep_27 rfl ?_
  refine V.iconst (v := 5) (pc := 28) dX4_addStep_28 (by decide) ?_
  refine V.ishl (pc := 29) dX4_addStep_29 ?_
  rw [shl5 hv]
  refine V.iload_n (pc := 30) dX4_addStep_30 rfl ?_
  refine V.ior (pc := 31) dX4_addStep_31 ?_
  rw [or5 hkd]
  refine V.iast' (k := s) (pc := 32) dX4_addStep_32 hRd.t8 rfl (by omega) (by decide) ?_
  refine V.aload_n (pc := 33) dX4_addStep_33 rfl ?_
  refine V.dup (pc := 34) dX4_addStep_34 rfl ?_
  refine V.getI (pc := 35) dX4_addStep_35 fX4_37_4 rfl hRd.o ?_
  rw [up2_off (by omega), h7]
  refine V.iconst (v := 1) (pc := 38) dX4_addStep_38 (by decide) ?_
  refine V.iadd (pc := 39) dX4_addStep_39 ?_
  rw [nI_1]
  refine V.putI (pc := 40) dX4_addStep_40 fX4_37_4 (fun r h => by cases h; exact Or.inl rfl) rfl hRd.o ?_
  exact V.vret (pc := 43) dX4_addStep_43 rfl ⟨rfl, rfl, rfl, rfl, rfl, rfl⟩
theorem x_aimHere {g : gG} {d : Nat} {T : mT} {n : Nat} {I : mI} {J : mJ} {F : mF} {u s at_ kd : Nat} (x y : Int32) (hRd : RrS T F u) (h7 : I u 7 = nI s) (hs : s ≤ 400) (ha : at_ < 400) (hkd : kd < 32) (hx : x = nI at_) (hy : y = nI kd) : Ct g mX4_aimHere (d + 0) [.ref u, .int x, .int y] 0 0 T n I J F (fun r' T' n' I' J' F' => r' = none ∧ T' = T ∧ n' = n ∧ I' = up2 I (u + 5) at_ (nI (32 * s + kd)) ∧ J' = J ∧ F' = F) := by
  refine Ct.ofV (k := 0) (by decide) (Nat.le_of_ble_eq_true rfl) ?_
  show V g mX4_aimHere (d + 0) _ 0 0 0 [some (.ref u), some (.int x), some (.int y)] [] T n I J F
  subst hx hy
  refine V.iload_n (pc := 0) dX4_aimHere_0 rfl ?_
  refine V.if_lt 27 (pc := 1) dX4_aimHere_1 (by decide) (fun h1 => absurd h1 (nI_pos (by omega))) (fun h1 => ?_)
  refine V.iload_n (pc := 4) dX4_aimHere_4 rfl ?_
  refine V.aload_n (pc := 5) dX4_aimHere_5 rfl ?_
  refine V.getR (pc := 6) dX4_aimHere_6 fX4_40_4 rfl hRd.o hRd.f8 ?_
  refine V.alen (pc := 9) dX4_aimHere_9 hRd.t8 ty_i (by rfl) ?_
  refine V.icmp_ge 27 (pc := 10) dX4_aimHere_10 (by decide) (fun h10 => absurd (show nI 400 ≤ nI at_ from h10) (nI_ge ha (by omega))) (fun h10 => ?_)
  refine V.aload_n (pc := 13) dX4_aimHere_13 rfl ?_
  refine V.getR (pc := 14) dX4_aimHere_14 fX4_40_4 rfl hRd.o hRd.f8 ?_
  refine V.iload_n (pc := 17) dX4_aimHere_17 rfl ?_
  refine V.aload_n (pc := 18) dX4_aimHere_18 rfl ?_
  refine V.getI (pc := 19) dX4_aimHere_19 fX4_37_4 rfl hRd.o ?_
  rw [h7]
  refine V.iconst (v := 5) (pc := 22) dX4_aimHere_22 (by decide) ?_
  refine V.ishl (pc := 23) dX4_aimHere_23 ?_
  rw [shl5 (by omega)]
  refine V.iload_n (pc := 24) dX4_aimHere_24 rfl ?_
  refine V.ior (pc := 25) dX4_aimHere_25 ?_
  rw [or5 hkd]
  refine V.iast' (k := at_) (pc := 26) dX4_aimHere_26 hRd.t8 rfl (by omega) (by decide) ?_
  exact V.vret (pc := 27) dX4_aimHere_27 rfl ⟨rfl, rfl, rfl, rfl, rfl, rfl⟩
def cmK (k : Int) : Nat := if k = 60 then 11 else if k = 62 then 12 else if k = 61 then 13 else 0
def muK (k : Int) : Nat := if k = 42 then 8 else if k = 47 then 9 else if k = 37 then 10 else 0
def adK (k : Int) : Nat := if k = 43 then 6 else if k = 45 then 7 else 0
def kOr (x : Nat) : Int := if x = 0 then -1 else (x : Int)
theorem cmK_op {k : Int} : (cmpOp k = 0 ↔ cmK k = 0) ∧ (cmK k ≠ 0 → 11 ≤ cmK k ∧ cmK k ≤ 13 ∧ cmX (cmK k) = cmpOp k) := by
  unfold cmK cmpOp cmX
  by_cases h1 : k = 60
  · subst h1; decide
  · by_cases h2 : k = 62
    · subst h2; decide
    · by_cases h3 : k = 61
      · subst h3; decide
      · rw [if_neg h1, if_neg h2, if_neg h3, if_neg h1, if_neg h2, if_neg h3]; decide
theorem muK_op {k : Int} : (mulOp k = 0 ↔ muK k = 0) ∧ (muK k ≠ 0 → 8 ≤ muK k ∧ muK k ≤ 10 ∧ arX (muK k) = mulOp k) := by
  unfold muK mulOp
  by_cases h1 : k = 42
  · subst h1; decide
  · by_cases h2 : k = 47
    · subst h2; decide
    · by_cases h3 : k = 37
      · subst h3; decide
      · rw [if_neg h1, if_neg h2, if_neg h3, if_neg h1, if_neg h2, if_neg h3]; decide
theorem adK_op {k : Int} : (addOp k = 0 ↔ adK k = 0) ∧ (adK k ≠ 0 → 6 ≤ adK k ∧ adK k ≤ 7 ∧ arX (adK k) = addOp k) := by
  unfold adK addOp
  by_cases h1 : k = 43
  · subst h1; decide
  · by_cases h2 : k = 45
    · subst h2; decide
    · rw [if_neg h1, if_neg h2, if_neg h1, if_neg h2]; decide
theorem iI_eqc {z : Int} {k : Int} (h1 : -2147483648 ≤ z ∧ z ≤ 2147483647) (h2 : -2147483648 ≤ k ∧ k ≤ 2147483647) : iI z = iI k ↔ z = k := by rw [← Int32.toInt_inj, iI_toInt h1.1 h1.2, iI_toInt h2.1 h2.2]
theorem x_comparisonOf {g : gG} {d : Nat} {T : mT} {n : Nat} {I : mI} {J : mJ} {F : mF} {z : Int} (h1 : -2147483648 ≤ z ∧ z ≤ 2147483647) : Ct g mX4_comparisonOf (d + 0) [.int (iI z)] 0 0 T n I J F (pureQ T n I J F (some (.int (iI (kOr (cmK z)))))) := by
  refine Ct.ofV (k := 0) (by decide) (Nat.le_of_ble_eq_true rfl) ?_
  show V g mX4_comparisonOf (d + 0) _ 0 0 0 [some (.int (iI z))] [] T n I J F
  by_cases q60 : z = 60
  · subst q60
    refine V.iload_n (pc := 0) dX4_comparisonOf_0 rfl ?_
    refine V.tIn 28 (pc := 1) dX4_comparisonOf_1 (by decide) (by decide) (off := 27) (by decide) (by decide) ?_
    refine V.bipush (v := 11) (pc := 28) dX4_comparisonOf_28 (by decide) ?_
    exact V.iret (pc := 30) dX4_comparisonOf_30 rfl ⟨rfl, rfl, rfl, rfl, rfl, rfl⟩
  · by_cases q62 : z = 62
    · subst q62
      refine V.iload_n (pc := 0) dX4_comparisonOf_0 rfl ?_
      refine V.tIn 31 (pc := 1) dX4_comparisonOf_1 (by decide) (by decide) (off := 30) (by decide) (by decide) ?_
      refine V.bipush (v := 12) (pc := 31) dX4_comparisonOf_31 (by decide) ?_
      exact V.iret (pc := 33) dX4_comparisonOf_33 rfl ⟨rfl, rfl, rfl, rfl, rfl, rfl⟩
    · by_cases q61 : z = 61
      · subst q61
        refine V.iload_n (pc := 0) dX4_comparisonOf_0 rfl ?_
        refine V.tIn 34 (pc := 1) dX4_comparisonOf_1 (by decide) (by decide) (off := 33) (by decide) (by decide) ?_
        refine V.bipush (v := 13) (pc := 34) dX4_comparisonOf_34 (by decide) ?_
        exact V.iret (pc := 36) dX4_comparisonOf_36 rfl ⟨rfl, rfl, rfl, rfl, rfl, rfl⟩
      · rw [show cmK z = 0 by unfold cmK; rw [if_neg q60, if_neg q62, if_neg q61]]
        have hz := iI_toInt h1.1 h1.2
        refine V.iload_n (pc := 0) dX4_comparisonOf_0 rfl ?_
        refine V.tOut 37 (pc := 1) dX4_comparisonOf_1 (by rw [hz]; omega) (by decide) ?_
        refine V.iconst (v := (-1)) (pc := 37) dX4_comparisonOf_37 (by decide) ?_
        exact V.iret (pc := 38) dX4_comparisonOf_38 rfl ⟨rfl, rfl, rfl, rfl, rfl, rfl⟩
theorem x_multiplierOf {g : gG} {d : Nat} {T : mT} {n : Nat} {I : mI} {J : mJ} {F : mF} {z : Int} (h1 : -2147483648 ≤ z ∧ z ≤ 2147483647) : Ct g mX4_multiplierOf (d + 0) [.int (iI z)] 0 0 T n I J F (pureQ T n I J F (some (.int (iI (kOr (muK z)))))) := by
  refine Ct.ofV (k := 0) (by decide) (Nat.le_of_ble_eq_true rfl) ?_
  show V g mX4_multiplierOf (d + 0) _ 0 0 0 [some (.int (iI z))] [] T n I J F
  by_cases q42 : z = 42
  · subst q42
    refine V.iload_n (pc := 0) dX4_multiplierOf_0 rfl ?_
    refine V.lsw 36 (pc := 1) dX4_multiplierOf_1 (by decide) (off := 35) (by decide) (by decide) ?_
    refine V.bipush (v := 8) (pc := 36) dX4_multiplierOf_36 (by decide) ?_
    exact V.iret (pc := 38) dX4_multiplierOf_38 rfl ⟨rfl, rfl, rfl, rfl, rfl, rfl⟩
  · by_cases q47 : z = 47
    · subst q47
      refine V.iload_n (pc := 0) dX4_multiplierOf_0 rfl ?_
      refine V.lsw 39 (pc := 1) dX4_multiplierOf_1 (by decide) (off := 38) (by decide) (by decide) ?_
      refine V.bipush (v := 9) (pc := 39) dX4_multiplierOf_39 (by decide) ?_
      exact V.iret (pc := 41) dX4_multiplierOf_41 rfl ⟨rfl, rfl, rfl, rfl, rfl, rfl⟩
    · by_cases q37 : z = 37
      · subst q37
        refine V.iload_n (pc := 0) dX4_multiplierOf_0 rfl ?_
        refine V.lsw 42 (pc := 1) dX4_multiplierOf_1 (by decide) (off := 41) (by decide) (by decide) ?_
        refine V.bipush (v := 10) (pc := 42) dX4_multiplierOf_42 (by decide) ?_
        exact V.iret (pc := 44) dX4_multiplierOf_44 rfl ⟨rfl, rfl, rfl, rfl, rfl, rfl⟩
      · rw [show muK z = 0 by unfold muK; rw [if_neg q42, if_neg q47, if_neg q37]]
        have hz := iI_toInt h1.1 h1.2
        refine V.iload_n (pc := 0) dX4_multiplierOf_0 rfl ?_
        refine V.lsw 45 (pc := 1) dX4_multiplierOf_1 (by decide) (off := 44) (by simp [Op.lookupswitch.offset, hz, q42, q47, q37, Ne.symm q42, Ne.symm q47, Ne.symm q37]) (by decide) ?_
        refine V.iconst (v := (-1)) (pc := 45) dX4_multiplierOf_45 (by decide) ?_
        exact V.iret (pc := 46) dX4_multiplierOf_46 rfl ⟨rfl, rfl, rfl, rfl, rfl, rfl⟩
