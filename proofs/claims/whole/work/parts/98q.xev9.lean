-- the class: cam
def CaF (x : Nat) (I : mI) (J : mJ) (F : mF) (I' : mI) (J' : mJ) (F' : mF) : Prop := (∀ c, c ≠ x + 31 → c ≠ x + 49 → I' c = I c) ∧ (∀ c, c ≠ x + 32 → J' c = J c) ∧ (∀ c, c ≠ x + 31 → F' c = F c) ∧ ∀ t, t ≠ 4 → F' (x + 31) t = F (x + 31) t
section CAF
variable {T : mT} {I I' I2 : mI} {J J' J2 : mJ} {F F' F2 : mF} {x : Nat} {A : Ab}
theorem CaF.rf : CaF x I J F I J F := ⟨fun _ _ _ => rfl, fun _ _ => rfl, fun _ _ => rfl, fun _ _ => rfl⟩
theorem CaF.ak {k : Nat} {v : Int32} (h : CaF x I J F I' J' F') (h2 : AkF x I' J' F' I2 J2 F2) : CaF x I J F (up2 I2 (x + 49) k v) J2 F2 := ⟨fun c c1 c2 => by rw [up2_off c2, h2.1 c c1]; exact h.1 c c1 c2, fun c hc => (h2.2.1 c hc).trans (h.2.1 c hc), fun c hc => (h2.2.2.1 c hc).trans (h.2.2.1 c hc), fun t ht => (h2.2.2.2 t ht).trans (h.2.2.2 t ht)⟩
theorem CaF.frx (h : CaF x I J F I' J' F') : FrX x I I' ∧ FrX x J J' ∧ FrX x F F' := ⟨fun b b1 b2 => h.1 b (by omega) (by omega), fun b b1 b2 => h.2.1 b (by omega), fun b b1 b2 => h.2.2.1 b (by omega)⟩
theorem CaF.xs (h : CaF x I J F I' J' F') (hX : XS T F x) : XS T F' x := by
  refine hX.mono (fun _ _ z => z) (fun b t h1 h2 h3 h4 h5 => ?_) (hX.2.congr (by rw [h.2.2.1 _ (by omega)]) (fun b hb => h.2.2.1 b (by omega)))
  by_cases z : b = x + 31
  · subst z; exact h.2.2.2 t (by have := h5 rfl; omega)
  · rw [h.2.2.1 b z]
theorem CaF.rep (f : CaF x I J F I' J' F') (h : RepX T I J F x A) (hA : AbOK A) : RepX T I' J' F' x A := by
  obtain ⟨h1, h2, h3, ⟨⟨h4, h5⟩, h6, h7⟩, ⟨h8, h8'⟩, h9, h10⟩ := h
  have hC : ∀ {u : Nat} {c : Core}, StX T I J F (x + 111) u c → CoreOK c → (u = x + 1 ∨ u = x + 50 ∨ u = x + 70) → StX T I' J' F' (x + 111) u c := fun {u c} hs hc hu => hs.congr hc (fun _ _ z => z) (fun b _ _ => f.1 b (by omega) (by omega)) (fun b _ _ => f.2.1 b (by omega)) (fun b hb hb2 => f.1 b (by omega) (by omega)) (fun b hb hb2 => f.2.2.1 b (by omega)) (f.2.2.1 _ (by omega))
  refine ⟨by rw [f.1 _ (by omega) (by omega)]; exact h1, by rw [f.1 _ (by omega) (by omega)]; exact h2, hC h3 hA.1 (by omega), ⟨⟨by rw [f.1 _ (by omega) (by omega)]; exact h4, fun c hc => hC (h5 c hc) (hA.2.1 0 c hc) (by omega)⟩, by rw [f.1 _ (by omega) (by omega)]; exact h6, fun c hc => hC (h7 c hc) (hA.2.1 1 c hc) (by omega)⟩, ⟨fun i hi => ?_, fun i hi => ?_⟩, fun i t hi => by rw [f.1 _ (by omega) (by omega)]; exact h9 i t hi, ?_⟩
  · rw [f.2.2.1 _ (by omega)]; exact h8 i hi
  · rw [f.2.2.1 _ (by omega)]; exact h8' i hi
  · rw [f.1 _ (by omega) (by omega), f.1 (x + 47) (by omega) (by omega), f.1 (x + 48) (by omega) (by omega)]; exact h10
theorem CaF.qx {n : Nat} {r : Option Value} {S : Option Value} (f : CaF x I J F I' J' F') (hX : XS T F x) (hA : AbOK A) (hR : RepX T I J F x A) (hr : r = S) : QX x T n I J F S A r T n I' J' F' := ⟨hr, fun _ _ z => z, Nat.le_refl _, f.frx.1, f.frx.2.1, f.frx.2.2, f.xs hX, f.rep hR hA⟩
theorem CaF.lv {v : Value} {c : Core} (f : CaF x I J F I' J' F') (h : LawV T I F x c v) : LawV T I' F' x c v := by
  rcases h with h | ⟨a, fi, w, h1, h2, h3, h4⟩
  · exact Or.inl h
  · exact Or.inr ⟨a, fi, w, h1, h2, h3, h4.congr (fun _ _ z => z) (fun b hb _ => f.1 b (by omega) (by omega)) (fun b hb _ => f.2.2.1 b (by omega))⟩
end CAF
theorem okB_no {f : Nat → Int32} {j : Nat} (h : f j = NOI) : ∀ N, j < N → ¬ okB f N = true := by
  intro N
  induction N with
  | zero => intro h2; omega
  | succ N ih =>
    intro h2 z
    rw [okB, Bool.and_eq_true] at z
    by_cases q : j = N
    · subst q; exact (of_decide_eq_true z.2) h
    · exact ih (by omega) z.1
theorem l_comes {g : gG} {d : Nat} {T : mT} {n : Nat} {I : mI} {J : mJ} {F : mF} {Q : mQ} {x N p : Nat} {f : Nat → Int32} (hX : XS T F x) (hp : 1 ≤ p) (hpN : p ≤ 99) (hN : N ≤ 2000) (hs : ∀ i, i < N + 1 → I (x + 49) i = f i) (kk : Q (some (.int (bi (camG f N p = true)))) T n I J F) : ∀ (t j : Nat) , j + t = N + 1 → (p ≤ j ∧ amB f p (j - p) = true) → V g mX11_comesAgain (d + 0) Q 0 0 9 [some (.ref x), some (.int (nI p)), some (.int (nI N)), some (.int (nI j))] [] T n I J F := by
  intro t
  induction t with
  | zero =>
    intro j  hj hi
    obtain rfl : j = N + 1 := by omega
    refine V.iload_n (pc := 9) dX11_comesAgain_9 rfl ?_
    refine V.iload_n (pc := 10) dX11_comesAgain_10 rfl ?_
    refine V.icmp_gt 48 (pc := 11) dX11_comesAgain_11 (by decide) (fun h11 => ?_) (fun h11 => absurd (by rw [lt32, nI_toInt (by omega), nI_toInt (by omega)]; omega) h11)
    rw [bi_t (show camG f N p = true from hi.2)] at kk
    refine V.iconst (v := 1) (pc := 48) dX11_comesAgain_48 (by decide) ?_
    exact V.zret (pc := 49) dX11_comesAgain_49 rfl (by first | exact Or.inl rfl | exact Or.inr rfl | exact bi_or | assumption) kk
  | succ t ih =>
    intro j  hj hi
    refine V.iload_n (pc := 9) dX11_comesAgain_9 rfl ?_
    refine V.iload_n (pc := 10) dX11_comesAgain_10 rfl ?_
    refine V.icmp_gt 48 (pc := 11) dX11_comesAgain_11 (by decide) (fun h11 => absurd h11 (by rw [lt32, nI_toInt (by omega), nI_toInt (by omega)]; omega)) (fun h11 => ?_)
    refine V.iload_n (pc := 14) dX11_comesAgain_14 rfl ?_
    refine V.aload_n (pc := 15) dX11_comesAgain_15 rfl ?_
    refine V.getR (pc := 16) dX11_comesAgain_16 fX11_82_10 rfl hX.o hX.f14 ?_
    refine V.alen (pc := 19) dX11_comesAgain_19 hX.t14 ty_i (by rfl) ?_
    refine V.icmp_ge 48 (pc := 20) dX11_comesAgain_20 (by decide) (fun h20 => absurd h20 (by rw [show Int32.ofNat 2001 = nI 2001 from rfl]; exact nI_ge (by omega) (by omega))) (fun h20 => ?_)
    refine V.aload_n (pc := 23) dX11_comesAgain_23 rfl ?_
    refine V.getR (pc := 24) dX11_comesAgain_24 fX11_82_10 rfl hX.o hX.f14 ?_
    refine V.iload_n (pc := 27) dX11_comesAgain_27 rfl ?_
    refine V.iald' (k := j) (pc := 28) dX11_comesAgain_28 hX.t14 rfl (by omega) (by decide) ?_
    rw [hs j (by omega)]
    refine V.aload_n (pc := 29) dX11_comesAgain_29 rfl ?_
    refine V.getR (pc := 30) dX11_comesAgain_30 fX11_82_10 rfl hX.o hX.f14 ?_
    refine V.iload_n (pc := 33) dX11_comesAgain_33 rfl ?_
    refine V.iload_n (pc := 34) dX11_comesAgain_34 rfl ?_
    refine V.isub (pc := 35) dX11_comesAgain_35 ?_
    refine V.iald' (k := j - p) (pc := 36) dX11_comesAgain_36 hX.t14 (pk_sub (by omega)) (by omega) (by decide) ?_
    rw [hs (j - p) (by omega)]
    refine V.icmp_eq 42 (pc := 37) dX11_comesAgain_37 (by decide) (fun h37 => ?_) (fun h37 => ?_)
    · refine V.iinc1 (pc := 42) dX11_comesAgain_42 (by decide) rfl (st1_3 rfl) ?_
      refine V.goto 9 (pc := 45) dX11_comesAgain_45 (by decide) ?_
      rw [nI_1]
      exact ih (j + 1) (by omega) ⟨by omega, by rw [amB_s hi.1, Bool.and_eq_true]; exact ⟨hi.2, decide_eq_true h37⟩⟩
    · rw [bi_f (show ¬ camG f N p = true from fun z => amB_m (k := j + 1 - p) (fun q => (by rw [amB_s hi.1, Bool.and_eq_true] at q; exact h37 (of_decide_eq_true q.2))) (N + 1 - p) (by omega) z)] at kk
      refine V.iconst (v := 0) (pc := 40) dX11_comesAgain_40 (by decide) ?_
      exact V.zret (pc := 41) dX11_comesAgain_41 rfl (by first | exact Or.inl rfl | exact Or.inr rfl | exact bi_or | assumption) kk
theorem x_comes {g : gG} {d : Nat} {T : mT} {n : Nat} {I : mI} {J : mJ} {F : mF} {x N p : Nat} {f : Nat → Int32} (v z : Int32) (hX : XS T F x) (hv : v = nI p) (hz : z = nI N) (hp : 1 ≤ p) (hpN : p ≤ 99) (hN : N ≤ 2000) (hpp : p ≤ N) (hs : ∀ i, i < N + 1 → I (x + 49) i = f i) : Ct g mX11_comesAgain (d + 0) [.ref x, .int v, .int z] 0 0 T n I J F (pureQ T n I J F (some (.int (bi (camG f N p = true))))) := by
  refine Ct.ofV (k := 1) (by decide) (Nat.le_of_ble_eq_true rfl) ?_
  show V g mX11_comesAgain (d + 0) _ 0 0 0 [some (.ref x), some (.int v), some (.int z), none] [] T n I J F
  subst hv hz
  refine V.iload_n (pc := 0) dX11_comesAgain_0 rfl ?_
  refine V.iconst (v := 1) (pc := 1) dX11_comesAgain_1 (by decide) ?_
  refine V.icmp_ge 7 (pc := 2) dX11_comesAgain_2 (by decide) (fun h2 => ?_) (fun h2 => absurd (by rw [le32, nI_toInt (by omega)]; show (1 : Int) ≤ _; omega) h2)
  refine V.iload_n (pc := 7) dX11_comesAgain_7 rfl ?_
  refine V.isn (pc := 8) dX11_comesAgain_8 (by decide) (st1_3 rfl) ?_
  exact l_comes (f := f) hX hp hpN hN hs ⟨rfl, rfl, rfl, rfl, rfl, rfl⟩ (N + 1 - p) p (by omega) ⟨Nat.le_refl _, by rw [Nat.sub_self]; rfl⟩
theorem l_camA {g : gG} {d : Nat} {T : mT} {n : Nat} {I : mI} {J : mJ} {F : mF} {Q : mQ} {x h N la : Nat} {y : Hd} {A : Ab} (hX : XS T F x) (hA : AbOK A) (hR : RepX T I J F x A) (hy : (hds (cor A))[h]? = some y) (hLV : LawV T I F x (cor A) (.ref la)) (hN : N ≤ 2000) (kk : ∀ (I' : mI) (J' : mJ) (F' : mF), CaF x I J F I' J' F' → (∀ i, i < N + 1 → I' (x + 49) i = (shI (cor A) h y) i) → okB (shI (cor A) h y) (N + 1) = true → V g mX11_cam (d + 7) Q 0 0 96 [some (.ref x), some (.int (nI h)), some (.int (nI N)), some (.ref (x + 1 + 8 + 2 * h)), some (.ref la), some (.int (nI (N + 1)))] [] T n I' J' F') (kr : ∀ (I' : mI) (J' : mJ) (F' : mF), CaF x I J F I' J' F' → ¬ okB (shI (cor A) h y) (N + 1) = true → Q (some (.int (-1))) T n I' J' F') : ∀ (t j : Nat) (I' : mI) (J' : mJ) (F' : mF), j + t = N + 1 → (CaF x I J F I' J' F' ∧ (∀ i, i < j → I' (x + 49) i = (shI (cor A) h y) i) ∧ okB (shI (cor A) h y) j = true) → V g mX11_cam (d + 7) Q 0 0 40 [some (.ref x), some (.int (nI h)), some (.int (nI N)), some (.ref (x + 1 + 8 + 2 * h)), some (.ref la), some (.int (nI j))] [] T n I' J' F' := by
  intro t
  induction t with
  | zero =>
    intro j I' J' F' hj hi
    obtain rfl : j = N + 1 := by omega
    refine V.iload (pc := 40) dX11_cam_40 rfl ?_
    refine V.iload_n (pc := 42) dX11_cam_42 rfl ?_
    refine V.icmp_gt 96 (pc := 43) dX11_cam_43 (by decide) (fun h43 => ?_) (fun h43 => absurd (by rw [lt32, nI_toInt (by omega), nI_toInt (by omega)]; omega) h43)
    exact kk I' J' F' hi.1 hi.2.1 hi.2.2
  | succ t ih =>
    intro j I' J' F' hj hi
    have hX0 := hX
    replace hX := hi.1.xs hX
    have hR2 := hi.1.rep hR hA
    have hLV2 := hi.1.lv hLV
    have hT9 := hX.o9
    refine V.iload (pc := 40) dX11_cam_40 rfl ?_
    refine V.iload_n (pc := 42) dX11_cam_42 rfl ?_
    refine V.icmp_gt 96 (pc := 43) dX11_cam_43 (by decide) (fun h43 => absurd h43 (by rw [lt32, nI_toInt (by omega), nI_toInt (by omega)]; omega)) (fun h43 => ?_)
    refine V.iload (pc := 46) dX11_cam_46 rfl ?_
    refine V.aload_n (pc := 48) dX11_cam_48 rfl ?_
    refine V.getR (pc := 49) dX11_cam_49 fX11_82_10 rfl hX.o hX.f14 ?_
    refine V.alen (pc := 52) dX11_cam_52 hX.t14 ty_i (by rfl) ?_
    refine V.icmp_ge 96 (pc := 53) dX11_cam_53 (by decide) (fun h53 => absurd h53 (by rw [show Int32.ofNat 2001 = nI 2001 from rfl]; exact nI_ge (by omega) (by omega))) (fun h53 => ?_)
    refine V.aload_n (pc := 56) dX11_cam_56 rfl ?_
    refine V.getR (pc := 57) dX11_cam_57 fX11_82_10 rfl hX.o hX.f14 ?_
    refine V.iload (pc := 60) dX11_cam_60 rfl ?_
    refine V.aload_n (pc := 62) dX11_cam_62 rfl ?_
    refine V.getR (pc := 63) dX11_cam_63 fX11_50_10 rfl hX.o hX.f9 ?_
    refine V.aload (pc := 66) dX11_cam_66 rfl ?_
    refine V.iload_n (pc := 68) dX11_cam_68 rfl ?_
    refine V.aload_n (pc := 69) dX11_cam_69 rfl ?_
    refine V.iload (pc := 70) dX11_cam_70 rfl ?_
    refine V.invV0 (as := [_, _, _, _]) (pc := 72) dX11_cam_72 lX11_191 bX0_tells nX0_tells (ci := 0) rfl eX0_tells (by assumption) (x_ask (d := d + 2) (h := h) (dd := j) _ _ hX hA hR2 hy hLV2 rfl rfl (by omega)) (by omega) rfl (Nat.le_of_ble_eq_true rfl) ?_
    rintro _ _ _ I2 J2 F2 ⟨rfl, rfl, rfl, f2⟩
    replace hX := f2.xs hX
    refine V.iast' (k := j) (pc := 75) dX11_cam_75 hX.t14 rfl (by omega) (by decide) ?_
    refine V.aload_n (pc := 76) dX11_cam_76 rfl ?_
    refine V.getR (pc := 77) dX11_cam_77 fX11_82_10 rfl hX.o hX.f14 ?_
    refine V.iload (pc := 80) dX11_cam_80 rfl ?_
    refine V.iald' (k := j) (pc := 82) dX11_cam_82 hX.t14 rfl (by omega) (by decide) ?_
    rw [up2_same]
    refine V.ldc (pc := 83) dX11_cam_83 qX11_186 ?_
    refine V.icmp_ne 90 (pc := 85) dX11_cam_85 (by decide) (fun h85 => ?_) (fun h85 => ?_)
    · refine V.iinc1 (pc := 90) dX11_cam_90 (by decide) rfl (st1_5 rfl) ?_
      refine V.goto 40 (pc := 93) dX11_cam_93 (by decide) ?_
      rw [nI_1]
      refine ih (j + 1) (up2 I2 (x + 49) j ((shI (cor A) h y) j)) J2 F2 (by omega) ⟨hi.1.ak f2, fun i h1 => ?_, by rw [okB, Bool.and_eq_true]; exact ⟨hi.2.2, decide_eq_true h85⟩⟩
      by_cases q : i = j
      · subst q; rw [up2_same]
      · rw [up2_ne (by omega), f2.1 _ (by omega)]; exact hi.2.1 i (by omega)
    · refine V.iconst (v := (-1)) (pc := 88) dX11_cam_88 (by decide) ?_
      exact V.iret (pc := 89) dX11_cam_89 rfl (kr _ _ _ (hi.1.ak f2) (okB_no h85 (N + 1) (by omega)))
theorem l_camZ {g : gG} {d : Nat} {T : mT} {n : Nat} {I : mI} {J : mJ} {F : mF} {Q : mQ} {x h N : Nat} {y : Hd} {A : Ab} (hX : XS T F x) (hA : AbOK A) (hR : RepX T I J F x A) (hy : (hds (cor A))[h]? = some y) (hLV : LawV T I F x (cor A) (.null)) (hN : N ≤ 2000) (kk : ∀ (I' : mI) (J' : mJ) (F' : mF), CaF x I J F I' J' F' → (∀ i, i < N + 1 → I' (x + 49) i = (shI (cor A) h y) i) → okB (shI (cor A) h y) (N + 1) = true → V g mX11_cam (d + 7) Q 0 0 96 [some (.ref x), some (.int (nI h)), some (.int (nI N)), some (.ref (x + 1 + 8 + 2 * h)), some (.null), some (.int (nI (N + 1)))] [] T n I' J' F') (kr : ∀ (I' : mI) (J' : mJ) (F' : mF), CaF x I J F I' J' F' → ¬ okB (shI (cor A) h y) (N + 1) = true → Q (some (.int (-1))) T n I' J' F') : ∀ (t j : Nat) (I' : mI) (J' : mJ) (F' : mF), j + t = N + 1 → (CaF x I J F I' J' F' ∧ (∀ i, i < j → I' (x + 49) i = (shI (cor A) h y) i) ∧ okB (shI (cor A) h y) j = true) → V g mX11_cam (d + 7) Q 0 0 40 [some (.ref x), some (.int (nI h)), some (.int (nI N)), some (.ref (x + 1 + 8 + 2 * h)), some (.null), some (.int (nI j))] [] T n I' J' F' := by
  intro t
  induction t with
  | zero =>
    intro j I' J' F' hj hi
    obtain rfl : j = N + 1 := by omega
    refine V.iload (pc := 40) dX11_cam_40 rfl ?_
    refine V.iload_n (pc := 42) dX11_cam_42 rfl ?_
    refine V.icmp_gt 96 (pc := 43) dX11_cam_43 (by decide) (fun h43 => ?_) (fun h43 => absurd (by rw [lt32, nI_toInt (by omega), nI_toInt (by omega)]; omega) h43)
    exact kk I' J' F' hi.1 hi.2.1 hi.2.2
  | succ t ih =>
    intro j I' J' F' hj hi
    have hX0 := hX
    replace hX := hi.1.xs hX
    have hR2 := hi.1.rep hR hA
    have hLV2 := hi.1.lv hLV
    have hT9 := hX.o9
    refine V.iload (pc := 40) dX11_cam_40 rfl ?_
    refine V.iload_n (pc := 42) dX11_cam_42 rfl ?_
    refine V.icmp_gt 96 (pc := 43) dX11_cam_43 (by decide) (fun h43 => absurd h43 (by rw [lt32, nI_toInt (by omega), nI_toInt (by omega)]; omega)) (fun h43 => ?_)
    refine V.iload (pc := 46) dX11_cam_46 rfl ?_
    refine V.aload_n (pc := 48) dX11_cam_48 rfl ?_
    refine V.getR (pc := 49) dX11_cam_49 fX11_82_10 rfl hX.o hX.f14 ?_
    refine V.alen (pc := 52) dX11_cam_52 hX.t14 ty_i (by rfl) ?_
    refine V.icmp_ge 96 (pc := 53) dX11_cam_53 (by decide) (fun h53 => absurd h53 (by rw [show Int32.ofNat 2001 = nI 2001 from rfl]; exact nI_ge (by omega) (by omega))) (fun h53 => ?_)
    refine V.aload_n (pc := 56) dX11_cam_56 rfl ?_
    refine V.getR (pc := 57) dX11_cam_57 fX11_82_10 rfl hX.o hX.f14 ?_
    refine V.iload (pc := 60) dX11_cam_60 rfl ?_
    refine V.aload_n (pc := 62) dX11_cam_62 rfl ?_
    refine V.getR (pc := 63) dX11_cam_63 fX11_50_10 rfl hX.o hX.f9 ?_
    refine V.nload (pc := 66) dX11_cam_66 rfl ?_
    refine V.iload_n (pc := 68) dX11_cam_68 rfl ?_
    refine V.aload_n (pc := 69) dX11_cam_69 rfl ?_
    refine V.iload (pc := 70) dX11_cam_70 rfl ?_
    refine V.invV0 (as := [_, _, _, _]) (pc := 72) dX11_cam_72 lX11_191 bX0_tells nX0_tells (ci := 0) rfl eX0_tells (by assumption) (x_ask (d := d + 2) (h := h) (dd := j) _ _ hX hA hR2 hy hLV2 rfl rfl (by omega)) (by omega) rfl (Nat.le_of_ble_eq_true rfl) ?_
    rintro _ _ _ I2 J2 F2 ⟨rfl, rfl, rfl, f2⟩
    replace hX := f2.xs hX
    refine V.iast' (k := j) (pc := 75) dX11_cam_75 hX.t14 rfl (by omega) (by decide) ?_
    refine V.aload_n (pc := 76) dX11_cam_76 rfl ?_
    refine V.getR (pc := 77) dX11_cam_77 fX11_82_10 rfl hX.o hX.f14 ?_
    refine V.iload (pc := 80) dX11_cam_80 rfl ?_
    refine V.iald' (k := j) (pc := 82) dX11_cam_82 hX.t14 rfl (by omega) (by decide) ?_
    rw [up2_same]
    refine V.ldc (pc := 83) dX11_cam_83 qX11_186 ?_
    refine V.icmp_ne 90 (pc := 85) dX11_cam_85 (by decide) (fun h85 => ?_) (fun h85 => ?_)
    · refine V.iinc1 (pc := 90) dX11_cam_90 (by decide) rfl (st1_5 rfl) ?_
      refine V.goto 40 (pc := 93) dX11_cam_93 (by decide) ?_
      rw [nI_1]
      refine ih (j + 1) (up2 I2 (x + 49) j ((shI (cor A) h y) j)) J2 F2 (by omega) ⟨hi.1.ak f2, fun i h1 => ?_, by rw [okB, Bool.and_eq_true]; exact ⟨hi.2.2, decide_eq_true h85⟩⟩
      by_cases q : i = j
      · subst q; rw [up2_same]
      · rw [up2_ne (by omega), f2.1 _ (by omega)]; exact hi.2.1 i (by omega)
    · refine V.iconst (v := (-1)) (pc := 88) dX11_cam_88 (by decide) ?_
      exact V.iret (pc := 89) dX11_cam_89 rfl (kr _ _ _ (hi.1.ak f2) (okB_no h85 (N + 1) (by omega)))
theorem l_cam2A {g : gG} {d : Nat} {T : mT} {n : Nat} {I : mI} {J : mJ} {F : mF} {Q : mQ} {x N hb la : Nat} {f : Nat → Int32} {v1 : Int32} (hX : XS T F x) (hN : N ≤ 2000) (hN2 : 99 ≤ N) (hs : ∀ i, i < N + 1 → I (x + 49) i = f i) (kk : fP (camG f N) 1 99 = -1 → V g mX11_cam (d + 7) Q 0 0 125 [some (.ref x), some (.int v1), some (.int (nI N)), some (.ref hb), some (.ref la), some (.int (nI 100))] [] T n I J F) (kr : ∀ j : Nat, fP (camG f N) 1 99 = (j : Int) → Q (some (.int (nI j))) T n I J F) : ∀ (t j : Nat) , j + t = 100 → (1 ≤ j ∧ fP (camG f N) 1 99 = fP (camG f N) j (100 - j)) → V g mX11_cam (d + 7) Q 0 0 99 [some (.ref x), some (.int v1), some (.int (nI N)), some (.ref hb), some (.ref la), some (.int (nI j))] [] T n I J F := by
  intro t
  induction t with
  | zero =>
    intro j  hj hi
    obtain rfl : j = 100 := by omega
    refine V.iload (pc := 99) dX11_cam_99 rfl ?_
    refine V.bipush (v := 99) (pc := 101) dX11_cam_101 (by decide) ?_
    refine V.icmp_gt 125 (pc := 103) dX11_cam_103 (by decide) (fun h103 => ?_) (fun h103 => absurd (by decide) h103)
    exact kk hi.2
  | succ t ih =>
    intro j  hj hi
    refine V.iload (pc := 99) dX11_cam_99 rfl ?_
    refine V.bipush (v := 99) (pc := 101) dX11_cam_101 (by decide) ?_
    refine V.icmp_gt 125 (pc := 103) dX11_cam_103 (by decide) (fun h103 => absurd h103 (by rw [lt32, nI_toInt (by omega)]; show ¬ (99 : Int) < _; omega)) (fun h103 => ?_)
    refine V.aload_n (pc := 106) dX11_cam_106 rfl ?_
    refine V.iload (pc := 107) dX11_cam_107 rfl ?_
    refine V.iload_n (pc := 109) dX11_cam_109 rfl ?_
    refine V.pV (as := [_, _]) (pc := 110) dX11_cam_110 lX11_230 bX11_comesAgain nX11_comesAgain (ci := 10) rfl eX11_comesAgain hX.o (x_comes (d := d + 6) (f := f) (p := j) (N := N) _ _ hX rfl rfl hi.1 (by omega) hN (by omega) hs) (by omega) rfl (Nat.le_of_ble_eq_true rfl) ?_
    refine V.if_eq 119 (pc := 113) dX11_cam_113 (by decide) (fun h113 => ?_) (fun h113 => ?_)
    · refine V.iinc1 (pc := 119) dX11_cam_119 (by decide) rfl (st1_5 rfl) ?_
      refine V.goto 99 (pc := 122) dX11_cam_122 (by decide) ?_
      rw [nI_1]
      exact ih (j + 1) (by omega) ⟨by omega, by rw [hi.2, show 100 - j = (100 - (j + 1)) + 1 by omega, fP, if_neg (bi_eq.mp h113)]⟩
    · refine V.iload (pc := 116) dX11_cam_116 rfl ?_
      exact V.iret (pc := 118) dX11_cam_118 rfl (kr j (by rw [hi.2, show 100 - j = (100 - (j + 1)) + 1 by omega, fP, if_pos (bi_ne.mp h113)]))
theorem l_cam2Z {g : gG} {d : Nat} {T : mT} {n : Nat} {I : mI} {J : mJ} {F : mF} {Q : mQ} {x N hb : Nat} {f : Nat → Int32} {v1 : Int32} (hX : XS T F x) (hN : N ≤ 2000) (hN2 : 99 ≤ N) (hs : ∀ i, i < N + 1 → I (x + 49) i = f i) (kk : fP (camG f N) 1 99 = -1 → V g mX11_cam (d + 7) Q 0 0 125 [some (.ref x), some (.int v1), some (.int (nI N)), some (.ref hb), some (.null), some (.int (nI 100))] [] T n I J F) (kr : ∀ j : Nat, fP (camG f N) 1 99 = (j : Int) → Q (some (.int (nI j))) T n I J F) : ∀ (t j : Nat) , j + t = 100 → (1 ≤ j ∧ fP (camG f N) 1 99 = fP (camG f N) j (100 - j)) → V g mX11_cam (d + 7) Q 0 0 99 [some (.ref x), some (.int v1), some (.int (nI N)), some (.ref hb), some (.null), some (.int (nI j))] [] T n I J F := by
  intro t
  induction t with
  | zero =>
    intro j  hj hi
    obtain rfl : j = 100 := by omega
    refine V.iload (pc := 99) dX11_cam_99 rfl ?_
    refine V.bipush (v := 99) (pc := 101) dX11_cam_101 (by decide) ?_
    refine V.icmp_gt 125 (pc := 103) dX11_cam_103 (by decide) (fun h103 => ?_) (fun h103 => absurd (by decide) h103)
    exact kk hi.2
  | succ t ih =>
    intro j  hj hi
    refine V.iload (pc := 99) dX11_cam_99 rfl ?_
    refine V.bipush (v := 99) (pc := 101) dX11_cam_101 (by decide) ?_
    refine V.icmp_gt 125 (pc := 103) dX11_cam_103 (by decide) (fun h103 => absurd h103 (by rw [lt32, nI_toInt (by omega)]; show ¬ (99 : Int) < _; omega)) (fun h103 => ?_)
    refine V.aload_n (pc := 106) dX11_cam_106 rfl ?_
    refine V.iload (pc := 107) dX11_cam_107 rfl ?_
    refine V.iload_n (pc := 109) dX11_cam_109 rfl ?_
    refine V.pV (as := [_, _]) (pc := 110) dX11_cam_110 lX11_230 bX11_comesAgain nX11_comesAgain (ci := 10) rfl eX11_comesAgain hX.o (x_comes (d := d + 6) (f := f) (p := j) (N := N) _ _ hX rfl rfl hi.1 (by omega) hN (by omega) hs) (by omega) rfl (Nat.le_of_ble_eq_true rfl) ?_
    refine V.if_eq 119 (pc := 113) dX11_cam_113 (by decide) (fun h113 => ?_) (fun h113 => ?_)
    · refine V.iinc1 (pc := 119) dX11_cam_119 (by decide) rfl (st1_5 rfl) ?_
      refine V.goto 99 (pc := 122) dX11_cam_122 (by decide) ?_
      rw [nI_1]
      exact ih (j + 1) (by omega) ⟨by omega, by rw [hi.2, show 100 - j = (100 - (j + 1)) + 1 by omega, fP, if_neg (bi_eq.mp h113)]⟩
    · refine V.iload (pc := 116) dX11_cam_116 rfl ?_
      exact V.iret (pc := 118) dX11_cam_118 rfl (kr j (by rw [hi.2, show 100 - j = (100 - (j + 1)) + 1 by omega, fP, if_pos (bi_ne.mp h113)]))
theorem y_cam {g : gG} {d : Nat} {T : mT} {n : Nat} {I : mI} {J : mJ} {F : mF} {x : Nat} {A : Ab} (v z : Int32) (hX : XS T F x) (hA : AbOK A) (hR : RepX T I J F x A)  : Ct g mX11_cam (d + 7) [.ref x, .int v, .int z] 0 0 T n I J F (QX x T n I J F (some (.int (iI (s_cam A v.toInt z.toInt)))) A) := by
  refine Ct.ofV (k := 3) (by decide) (Nat.le_of_ble_eq_true rfl) ?_
  show V g mX11_cam (d + 7) _ 0 0 0 [some (.ref x), some (.int v), some (.int z), none, none, none] [] T n I J F
  have hTo := hX.s.o
  have hT9 := hX.o9
  have e99 : (99 : Int32).toInt = 99 := rfl
  have e2k : (2000 : Int32).toInt = 2000 := rfl
  refine V.aload_n (pc := 0) dX11_cam_0 rfl ?_
  refine V.getR (pc := 1) dX11_cam_1 fX11_10_10 rfl hX.o hX.f0 ?_
  refine V.iload_n (pc := 4) dX11_cam_4 rfl ?_
  by_cases q1 : 0 ≤ v.toInt ∧ v.toInt < (hds (cor A)).length
  · obtain ⟨y1, hy1, e1y⟩ := hdAt_yes q1
    have h6 := hA.1.1
    have hY1 := hA.1.2.1 y1 (List.mem_of_getElem? hy1)
    have hW1 := hR.hd hy1
    have hN1 := hX.s.n (h := v.toInt.toNat) (by omega)
    have hTa1 := hN1.o
    have hv1 := nIx q1.1 rfl
    refine V.pV (as := [_]) (pc := 5) dX11_cam_5 lX11_95 bX8_handAt nX8_handAt (ci := 7) rfl eX8_handAt (by assumption) (x_handAtY (d := d + 6) (k := (hds (cor A)).length) _ hX.s hR.h2 hA.1.1 q1) (by omega) rfl (Nat.le_of_ble_eq_true rfl) ?_
    refine V.asn (pc := 8) dX11_cam_8 (by decide) (st1_3 rfl) ?_
    refine V.aload_n (pc := 9) dX11_cam_9 rfl ?_
    refine V.ifnull (pc := 10) dX11_cam_10 ?_
    refine V.iload_n (pc := 13) dX11_cam_13 rfl ?_
    refine V.bipush (v := 99) (pc := 14) dX11_cam_14 (by decide) ?_
    refine V.icmp_lt 26 (pc := 16) dX11_cam_16 (by decide) (fun h16 => ?_) (fun h16 => ?_)
    · rw [lt32] at h16
      refine V.iconst (v := (-1)) (pc := 26) dX11_cam_26 (by decide) ?_
      exact V.iret (pc := 27) dX11_cam_27 rfl (QX.q hX hR (by rw [s_cam]; simp only [e1y]; rw [if_neg (by omega)]; rfl))
    · rw [lt32] at h16
      refine V.iload_n (pc := 19) dX11_cam_19 rfl ?_
      refine V.sipush (v := 2000) (pc := 20) dX11_cam_20 (by decide) ?_
      refine V.icmp_le 28 (pc := 23) dX11_cam_23 (by decide) (fun h23 => ?_) (fun h23 => ?_)
      · rw [le32] at h23
        have hz1 := nIx (x := z) (by omega) rfl
        refine V.aload_n (pc := 28) dX11_cam_28 rfl ?_
        refine V.getR (pc := 29) dX11_cam_29 fX11_10_10 rfl hX.o hX.f0 ?_
        refine V.invV0 (as := []) (pc := 32) dX11_cam_32 lX11_187 bX8_lawInForce nX8_lawInForce (ci := 7) rfl eX8_lawInForce (by assumption) (x_lif (d := d + 6) hX.s hX hA hR) (by omega) rfl (Nat.le_of_ble_eq_true rfl) ?_
        rintro _ _ _ _ _ _ ⟨v2, rfl, hLV, rfl, rfl, rfl, rfl, rfl⟩
        rcases id hLV with ⟨qf, rfl⟩ | ⟨la, fi, w2, hfi, hw2, rfl, hlw⟩
        · refine V.ns (pc := 35) dX11_cam_35 (by decide) (st1_4 rfl) ?_
          refine V.iconst (v := 0) (pc := 37) dX11_cam_37 (by decide) ?_
          refine V.is (pc := 38) dX11_cam_38 (by decide) (st1_5 rfl) ?_
          conv => arg 8; rw [hv1, hz1, show (0 : Int32) = nI 0 from rfl]
          rw [show (nI v.toInt.toNat).toInt.toNat = v.toInt.toNat from by rw [← hv1]]
          refine l_camZ (h := v.toInt.toNat) (N := z.toInt.toNat) (y := y1) hX hA hR hy1 hLV (by omega) ?kl_camZ ?rl_camZ (z.toInt.toNat + 1) 0 _ _ _ (by omega) ⟨CaF.rf, fun i h => absurd h (by omega), rfl⟩
          case rl_camZ =>
            intro I2 J2 F2 c2 qo
            exact (c2.qx hX hA hR (by rw [s_cam]; simp only [e1y]; rw [if_pos (show 99 ≤ z.toInt ∧ z.toInt ≤ 2000 by omega), camV, if_neg qo]; rfl))
          intro I2 J2 F2 c2 hs2 qo
          refine V.iconst (v := 1) (pc := 96) dX11_cam_96 (by decide) ?_
          refine V.is (pc := 97) dX11_cam_97 (by decide) (st1_5 rfl) ?_
          conv => arg 8; rw [show (1 : Int32) = nI 1 from rfl]
          refine l_cam2Z (f := (shI (cor A) v.toInt.toNat y1)) (N := z.toInt.toNat) (c2.xs hX) (by omega) (by omega) hs2 ?kl_cam2Z ?rl_cam2Z 99 1 (by omega) ⟨Nat.le_refl _, congrArg (fP _ 1) (show 99 = 100 - 1 by decide)⟩
          case rl_cam2Z =>
            intro j e0
            exact (c2.qx hX hA hR (by rw [s_cam]; simp only [e1y]; rw [if_pos (show 99 ≤ z.toInt ∧ z.toInt ≤ 2000 by omega), camV, if_pos qo, e0, iI_nat]))
          intro e0
          refine V.iconst (v := (-1)) (pc := 125) dX11_cam_125 (by decide) ?_
          exact V.iret (pc := 126) dX11_cam_126 rfl (c2.qx hX hA hR (by rw [s_cam]; simp only [e1y]; rw [if_pos (show 99 ≤ z.toInt ∧ z.toInt ≤ 2000 by omega), camV, if_pos qo, e0]; rfl))
        · refine V.as (pc := 35) dX11_cam_35 (by decide) (st1_4 rfl) ?_
          refine V.iconst (v := 0) (pc := 37) dX11_cam_37 (by decide) ?_
          refine V.is (pc := 38) dX11_cam_38 (by decide) (st1_5 rfl) ?_
          conv => arg 8; rw [hv1, hz1, show (0 : Int32) = nI 0 from rfl]
          rw [show (nI v.toInt.toNat).toInt.toNat = v.toInt.toNat from by rw [← hv1]]
          refine l_camA (h := v.toInt.toNat) (N := z.toInt.toNat) (y := y1) hX hA hR hy1 hLV (by omega) ?kl_camA ?rl_camA (z.toInt.toNat + 1) 0 _ _ _ (by omega) ⟨CaF.rf, fun i h => absurd h (by omega), rfl⟩
          case rl_camA =>
            intro I2 J2 F2 c2 qo
            exact (c2.qx hX hA hR (by rw [s_cam]; simp only [e1y]; rw [if_pos (show 99 ≤ z.toInt ∧ z.toInt ≤ 2000 by omega), camV, if_neg qo]; rfl))
          intro I2 J2 F2 c2 hs2 qo
          refine V.iconst (v := 1) (pc := 96) dX11_cam_96 (by decide) ?_
          refine V.is (pc := 97) dX11_cam_97 (by decide) (st1_5 rfl) ?_
          conv => arg 8; rw [show (1 : Int32) = nI 1 from rfl]
          refine l_cam2A (f := (shI (cor A) v.toInt.toNat y1)) (N := z.toInt.toNat) (c2.xs hX) (by omega) (by omega) hs2 ?kl_cam2A ?rl_cam2A 99 1 (by omega) ⟨Nat.le_refl _, congrArg (fP _ 1) (show 99 = 100 - 1 by decide)⟩
          case rl_cam2A =>
            intro j e0
            exact (c2.qx hX hA hR (by rw [s_cam]; simp only [e1y]; rw [if_pos (show 99 ≤ z.toInt ∧ z.toInt ≤ 2000 by omega), camV, if_pos qo, e0, iI_nat]))
          intro e0
          refine V.iconst (v := (-1)) (pc := 125) dX11_cam_125 (by decide) ?_
          exact V.iret (pc := 126) dX11_cam_126 rfl (c2.qx hX hA hR (by rw [s_cam]; simp only [e1y]; rw [if_pos (show 99 ≤ z.toInt ∧ z.toInt ≤ 2000 by omega), camV, if_pos qo, e0]; rfl))
      · rw [le32] at h23
        refine V.iconst (v := (-1)) (pc := 26) dX11_cam_26 (by decide) ?_
        exact V.iret (pc := 27) dX11_cam_27 rfl (QX.q hX hR (by rw [s_cam]; simp only [e1y]; rw [if_neg (by omega)]; rfl))
  · have e1y := hdAt_no q1
    refine V.pV (as := [_]) (pc := 5) dX11_cam_5 lX11_95 bX8_handAt nX8_handAt (ci := 7) rfl eX8_handAt (by assumption) (x_handAtN (d := d + 6) (k := (hds (cor A)).length) _ hX.s hR.h2 hA.1.1 q1) (by omega) rfl (Nat.le_of_ble_eq_true rfl) ?_
    refine V.nsn (pc := 8) dX11_cam_8 (by decide) (st1_3 rfl) ?_
    refine V.nload_n (pc := 9) dX11_cam_9 rfl ?_
    refine V.ifnullN 26 (pc := 10) dX11_cam_10 (by decide) ?_
    refine V.iconst (v := (-1)) (pc := 26) dX11_cam_26 (by decide) ?_
    exact V.iret (pc := 27) dX11_cam_27 rfl (QX.q hX hR (by rw [s_cam]; simp only [e1y]; rfl))
