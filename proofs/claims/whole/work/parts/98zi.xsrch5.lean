-- nearest, near, mount of the class
def SrF (x : Nat) (I : mI) (J : mJ) (I' : mI) (J' : mJ) : Prop := (∀ c, (c < x + 33 ∨ x + 40 < c) → I' c = I c) ∧ ∀ c, c ≠ x + 33 → J' c = J c
section SRF
variable {T : mT} {I I' : mI} {J J' : mJ} {F : mF} {x : Nat} {A : Ab}
theorem SrF.frx (h : SrF x I J I' J') : FrX x I I' ∧ FrX x J J' := ⟨fun b b1 b2 => h.1 b (by omega), fun b b1 b2 => h.2 b (by omega)⟩
theorem SrF.rep (f : SrF x I J I' J') (h : RepX T I J F x A) (hA : AbOK A) : RepX T I' J' F x A := by
  obtain ⟨h1, h2, h3, ⟨⟨h4, h5⟩, h6, h7⟩, h8, h9, h10⟩ := h
  have hC : ∀ {u : Nat} {c : Core}, StX T I J F (x + 111) u c → CoreOK c → (u = x + 1 ∨ u = x + 50 ∨ u = x + 70) → StX T I' J' F (x + 111) u c := fun {u c} hs hc hu => hs.congr hc (fun _ _ z => z) (fun b _ _ => f.1 b (by omega)) (fun b _ _ => f.2 b (by omega)) (fun b hb hb2 => f.1 b (by omega)) (fun b hb hb2 => rfl) rfl
  exact ⟨by rw [f.1 _ (by omega)]; exact h1, by rw [f.1 _ (by omega)]; exact h2, hC h3 hA.1 (by omega), ⟨⟨by rw [f.1 _ (by omega)]; exact h4, fun c hc => hC (h5 c hc) (hA.2.1 0 c hc) (by omega)⟩, by rw [f.1 _ (by omega)]; exact h6, fun c hc => hC (h7 c hc) (hA.2.1 1 c hc) (by omega)⟩, h8, fun i t hi => by rw [f.1 _ (by omega)]; exact h9 i t hi, by rw [f.1 _ (by omega), f.1 (x + 47) (by omega), f.1 (x + 48) (by omega)]; exact h10⟩
theorem SrF.qx {n : Nat} {r : Option Value} {S : Option Value} (f : SrF x I J I' J') (hX : XS T F x) (hA : AbOK A) (hR : RepX T I J F x A) (hr : r = S) : QX x T n I J F S A r T n I' J' F := ⟨hr, fun _ _ z => z, Nat.le_refl _, f.frx.1, f.frx.2, fun _ _ _ => rfl, hX, f.rep hR hA⟩
theorem XS.near (hX : XS T F x) : SrS 3 T F (x + 33) := ⟨hX.o10, ⟨hX.g33_0, hX.u34⟩, hX.g33_1, hX.u35⟩
theorem RepX.stkU (hR : RepX T I J F x A) (hA : AbOK A) : StkU I (x + 1) (stk (cor A)) := ⟨⟨hA.1.2.2.1, hA.1.2.2.2.1⟩, hR.h4, hR.2.2.1.2.2.1⟩
theorem NRx.srf {p q : Nat} {b : NSt} (h : NRx p q (x + 33) I J b I' J') : SrF x I J I' J' := ⟨fun c hc => h.1 c (by omega) (by omega) (by omega), fun c hc => h.2.1 c hc⟩
end SRF
theorem nearF_0 {s : List Nat} {p q : Nat} (h : ¬ 1 < s.length) : (nearF s p q).1 = 0 := by
  rw [nearF, foldP_none (fun c => vld_small (by omega)), foldP_none (fun c => vld_small2 (by omega))]
theorem y_nearest {g : gG} {d : Nat} {T : mT} {n : Nat} {I : mI} {J : mJ} {F : mF} {x : Nat} {A : Ab} (p q w : Int32) (hX : XS T F x) (hA : AbOK A) (hR : RepX T I J F x A)  : Ct g mX11_nearest (d + 6) [.ref x, .int p, .int q, .int w] 0 0 T n I J F (QX x T n I J F (some (.int (iI (s_nearest A p.toInt q.toInt w.toInt)))) A) := by
  refine Ct.ofV (k := 0) (by decide) (Nat.le_of_ble_eq_true rfl) ?_
  show V g mX11_nearest (d + 6) _ 0 0 0 [some (.ref x), some (.int p), some (.int q), some (.int w)] [] T n I J F
  have hTo := hX.s.o
  have hT10 := hX.o10
  have hT11 := hX.o11
  refine V.iload_n (pc := 0) dX11_nearest_0 rfl ?_
  refine V.iload_n (pc := 1) dX11_nearest_1 rfl ?_
  refine V.pS (as := [_, _]) (pc := 2) dX11_nearest_2 lX11_195 bX11_isRate sX11_isRate (x_isRate (d := d + 5) _ _) (by omega) rfl (Nat.le_of_ble_eq_true rfl) ?_
  refine V.if_eq 17 (pc := 5) dX11_nearest_5 (by decide) (fun h5 => ?_) (fun h5 => ?_)
  · have qr := bi_eq.mp h5
    refine V.iconst (v := (-1)) (pc := 17) dX11_nearest_17 (by decide) ?_
    exact V.iret (pc := 18) dX11_nearest_18 rfl (QX.q hX hR (by rw [s_nearest, if_neg (show ¬ (((1 ≤ p.toInt ∧ p.toInt ≤ 100000) ∧ (1 ≤ q.toInt ∧ q.toInt ≤ 100000)) ∧ (0 ≤ w.toInt ∧ w.toInt ≤ 4) ∧ 1 < (stk (cor A)).length) from fun z => qr z.1)]; rfl))
  · have qr := bi_ne.mp h5
    have hp1 := nIx (x := p) (by omega) rfl
    have hq1 := nIx (x := q) (by omega) rfl
    refine V.iload_n (pc := 8) dX11_nearest_8 rfl ?_
    refine V.if_lt 17 (pc := 9) dX11_nearest_9 (by decide) (fun h9 => ?_) (fun h9 => ?_)
    · have w1 : w.toInt < 0 := (lt32 _ _).mp h9
      refine V.iconst (v := (-1)) (pc := 17) dX11_nearest_17 (by decide) ?_
      exact V.iret (pc := 18) dX11_nearest_18 rfl (QX.q hX hR (by rw [s_nearest, if_neg (show ¬ (((1 ≤ p.toInt ∧ p.toInt ≤ 100000) ∧ (1 ≤ q.toInt ∧ q.toInt ≤ 100000)) ∧ (0 ≤ w.toInt ∧ w.toInt ≤ 4) ∧ 1 < (stk (cor A)).length) from fun z => absurd z.2.1.1 (by omega))]; rfl))
    · have w1x : 0 ≤ w.toInt := by
        rw [lt32] at h9
        have e0 : (0 : Int32).toInt = 0 := rfl
        omega
      refine V.iload_n (pc := 12) dX11_nearest_12 rfl ?_
      refine V.iconst (v := 4) (pc := 13) dX11_nearest_13 (by decide) ?_
      refine V.icmp_le 19 (pc := 14) dX11_nearest_14 (by decide) (fun h14 => ?_) (fun h14 => ?_)
      · have qw : w.toInt ≤ 4 := (le32 _ _).mp h14
        refine V.aload_n (pc := 19) dX11_nearest_19 rfl ?_
        refine V.getR (pc := 20) dX11_nearest_20 fX11_57_10 rfl hX.o hX.f10 ?_
        refine V.aload_n (pc := 23) dX11_nearest_23 rfl ?_
        refine V.getR (pc := 24) dX11_nearest_24 fX11_10_10 rfl hX.o hX.f0 ?_
        refine V.iload_n (pc := 27) dX11_nearest_27 rfl ?_
        refine V.iload_n (pc := 28) dX11_nearest_28 rfl ?_
        refine V.invV0 (as := [_, _, _]) (pc := 29) dX11_nearest_29 lX11_214 bX3_findFor nX3_findFor (ci := 3) rfl eX3_findFor (by assumption) (x_find3 (d := d + 0) (u := x + 1) (p := p.toInt.toNat) (q := q.toInt.toNat) (s := stk (cor A)) _ _ hX.near hX.s (hR.stkU hA) (by omega) hp1 hq1 (by omega) (by omega)) (by omega) rfl (Nat.le_of_ble_eq_true rfl) ?_
        rintro _ _ _ I2 J2 _ ⟨rfl, rfl, rfl, rfl, w1⟩
        have f2 := w1.srf
        refine V.if_ne 37 (pc := 32) dX11_nearest_32 (by decide) (fun h32 => ?_) (fun h32 => ?_)
        · have qn := bi_ne.mp h32
          have hS2 : 1 < (stk (cor A)).length := Nat.lt_of_not_le (fun z => qn (nearF_0 (by omega)))
          have hnk := w1.2.2.2.2.2
          have hnv := nearV (s := stk (cor A)) (p := p.toInt.toNat) (q := q.toInt.toNat)
          obtain ⟨w2, w3⟩ := w1.2.2.2.2.1 qn
          have w4 := w1.2.2.2.1
          generalize hgB : (nearF (stk (cor A)) p.toInt.toNat q.toInt.toNat) = B at hnk hnv w2 w3 w4 qn
          obtain ⟨k1, k2, k3, k4⟩ := hnk
          have hB : B.1 = 1 ∨ B.1 = 2 := by omega
          refine V.iload_n (pc := 37) dX11_nearest_37 rfl ?_
          refine V.if_ne 51 (pc := 38) dX11_nearest_38 (by decide) (fun h38 => ?_) (fun h38 => ?_)
          · have w0 : ¬ w.toInt = 0 := fun z => h38 ((eq32 _ _).mpr z)
            refine V.aload_n (pc := 51) dX11_nearest_51 rfl ?_
            refine V.getR (pc := 52) dX11_nearest_52 fX11_57_10 rfl hX.o hX.f10 ?_
            refine V.iload_n (pc := 55) dX11_nearest_55 rfl ?_
            refine V.iconst (v := 1) (pc := 56) dX11_nearest_56 (by decide) ?_
            refine V.isub (pc := 57) dX11_nearest_57 ?_
            rw [i_pred (by omega)]
            refine V.pU (as := [_]) (pc := 58) dX11_nearest_58 (ci := 3) rfl uX11_221_X3 bX5_bestWheel nX5_bestWheel (by assumption) (x_best3 (d := d + 5) (k := B.1) _ hX.near w4 k1) (by omega) rfl (Nat.le_of_ble_eq_true rfl) ?_
            rw [nI_toInt (by omega), Int.toNat_natCast]
            exact V.iret (pc := 61) dX11_nearest_61 rfl (f2.qx hX hA hR (by rw [s_nearest, if_pos (show (((1 ≤ p.toInt ∧ p.toInt ≤ 100000) ∧ (1 ≤ q.toInt ∧ q.toInt ≤ 100000)) ∧ (0 ≤ w.toInt ∧ w.toInt ≤ 4) ∧ 1 < (stk (cor A)).length) from ⟨qr, ⟨w1x, qw⟩, hS2⟩), if_neg w0, hgB]; by_cases z : w.toInt ≤ 2 * (B.1 : Int); rw [if_pos (by omega), if_pos z, w3.2 _ (by omega), iI_nat]; rw [if_neg (by omega), if_neg z]; rfl))
          · have w0 : w.toInt = 0 := by rw [h38]; rfl
            refine V.aload_n (pc := 41) dX11_nearest_41 rfl ?_
            refine V.getR (pc := 42) dX11_nearest_42 fX11_57_10 rfl hX.o hX.f10 ?_
            refine V.getI (pc := 45) dX11_nearest_45 fX11_218_3 rfl (by assumption) ?_
            rw [w4]
            refine V.goto 61 (pc := 48) dX11_nearest_48 (by decide) ?_
            exact V.iret (pc := 61) dX11_nearest_61 rfl (f2.qx hX hA hR (by rw [s_nearest, if_pos (show (((1 ≤ p.toInt ∧ p.toInt ≤ 100000) ∧ (1 ≤ q.toInt ∧ q.toInt ≤ 100000)) ∧ (0 ≤ w.toInt ∧ w.toInt ≤ 4) ∧ 1 < (stk (cor A)).length) from ⟨qr, ⟨w1x, qw⟩, hS2⟩), if_pos w0, hgB, iI_nat]))
        · have qn := bi_eq.mp h32
          have hS2 : ¬ 1 < (stk (cor A)).length := fun z => qn (nearF_1 z)
          refine V.iconst (v := (-1)) (pc := 35) dX11_nearest_35 (by decide) ?_
          exact V.iret (pc := 36) dX11_nearest_36 rfl (f2.qx hX hA hR (by rw [s_nearest, if_neg (show ¬ (((1 ≤ p.toInt ∧ p.toInt ≤ 100000) ∧ (1 ≤ q.toInt ∧ q.toInt ≤ 100000)) ∧ (0 ≤ w.toInt ∧ w.toInt ≤ 4) ∧ 1 < (stk (cor A)).length) from fun z => hS2 z.2.2)]; rfl))
      · have qw : ¬ w.toInt ≤ 4 := fun z => h14 ((le32 _ _).mpr z)
        refine V.iconst (v := (-1)) (pc := 17) dX11_nearest_17 (by decide) ?_
        exact V.iret (pc := 18) dX11_nearest_18 rfl (QX.q hX hR (by rw [s_nearest, if_neg (show ¬ (((1 ≤ p.toInt ∧ p.toInt ≤ 100000) ∧ (1 ≤ q.toInt ∧ q.toInt ≤ 100000)) ∧ (0 ≤ w.toInt ∧ w.toInt ≤ 4) ∧ 1 < (stk (cor A)).length) from fun z => qw z.2.1.2)]; rfl))
theorem y_near {g : gG} {d : Nat} {T : mT} {n : Nat} {I : mI} {J : mJ} {F : mF} {x : Nat} {A : Ab} (p q w : Int32) (hX : XS T F x) (hA : AbOK A) (hR : RepX T I J F x A)  : Ct g mX11_near (d + 6) [.ref x, .int p, .int q, .int w] 0 0 T n I J F (QX x T n I J F (some (.long (lI (s_near A p.toInt q.toInt w.toInt)))) A) := by
  refine Ct.ofV (k := 0) (by decide) (Nat.le_of_ble_eq_true rfl) ?_
  show V g mX11_near (d + 6) _ 0 0 0 [some (.ref x), some (.int p), some (.int q), some (.int w)] [] T n I J F
  have hTo := hX.s.o
  have hT10 := hX.o10
  have hT11 := hX.o11
  refine V.iload_n (pc := 0) dX11_near_0 rfl ?_
  refine V.iload_n (pc := 1) dX11_near_1 rfl ?_
  refine V.pS (as := [_, _]) (pc := 2) dX11_near_2 lX11_195 bX11_isRate sX11_isRate (x_isRate (d := d + 5) _ _) (by omega) rfl (Nat.le_of_ble_eq_true rfl) ?_
  refine V.if_eq 17 (pc := 5) dX11_near_5 (by decide) (fun h5 => ?_) (fun h5 => ?_)
  · have qr := bi_eq.mp h5
    refine V.ldc2 (pc := 17) dX11_near_17 qX11_164 ?_
    exact V.lret (pc := 20) dX11_near_20 rfl (QX.q hX hR (by rw [s_near, if_neg (show ¬ (((1 ≤ p.toInt ∧ p.toInt ≤ 100000) ∧ (1 ≤ q.toInt ∧ q.toInt ≤ 100000)) ∧ (0 ≤ w.toInt ∧ w.toInt ≤ 1) ∧ 1 < (stk (cor A)).length) from fun z => qr z.1)]; rfl))
  · have qr := bi_ne.mp h5
    have hp1 := nIx (x := p) (by omega) rfl
    have hq1 := nIx (x := q) (by omega) rfl
    refine V.iload_n (pc := 8) dX11_near_8 rfl ?_
    refine V.if_lt 17 (pc := 9) dX11_near_9 (by decide) (fun h9 => ?_) (fun h9 => ?_)
    · have w1 : w.toInt < 0 := (lt32 _ _).mp h9
      refine V.ldc2 (pc := 17) dX11_near_17 qX11_164 ?_
      exact V.lret (pc := 20) dX11_near_20 rfl (QX.q hX hR (by rw [s_near, if_neg (show ¬ (((1 ≤ p.toInt ∧ p.toInt ≤ 100000) ∧ (1 ≤ q.toInt ∧ q.toInt ≤ 100000)) ∧ (0 ≤ w.toInt ∧ w.toInt ≤ 1) ∧ 1 < (stk (cor A)).length) from fun z => absurd z.2.1.1 (by omega))]; rfl))
    · have w1x : 0 ≤ w.toInt := by
        rw [lt32] at h9
        have e0 : (0 : Int32).toInt = 0 := rfl
        omega
      refine V.iload_n (pc := 12) dX11_near_12 rfl ?_
      refine V.iconst (v := 1) (pc := 13) dX11_near_13 (by decide) ?_
      refine V.icmp_le 21 (pc := 14) dX11_near_14 (by decide) (fun h14 => ?_) (fun h14 => ?_)
      · have qw : w.toInt ≤ 1 := (le32 _ _).mp h14
        refine V.aload_n (pc := 21) dX11_near_21 rfl ?_
        refine V.getR (pc := 22) dX11_near_22 fX11_57_10 rfl hX.o hX.f10 ?_
        refine V.aload_n (pc := 25) dX11_near_25 rfl ?_
        refine V.getR (pc := 26) dX11_near_26 fX11_10_10 rfl hX.o hX.f0 ?_
        refine V.iload_n (pc := 29) dX11_near_29 rfl ?_
        refine V.iload_n (pc := 30) dX11_near_30 rfl ?_
        refine V.invV0 (as := [_, _, _]) (pc := 31) dX11_near_31 lX11_214 bX3_findFor nX3_findFor (ci := 3) rfl eX3_findFor (by assumption) (x_find3 (d := d + 0) (u := x + 1) (p := p.toInt.toNat) (q := q.toInt.toNat) (s := stk (cor A)) _ _ hX.near hX.s (hR.stkU hA) (by omega) hp1 hq1 (by omega) (by omega)) (by omega) rfl (Nat.le_of_ble_eq_true rfl) ?_
        rintro _ _ _ I2 J2 _ ⟨rfl, rfl, rfl, rfl, w1⟩
        have f2 := w1.srf
        refine V.if_ne 41 (pc := 34) dX11_near_34 (by decide) (fun h34 => ?_) (fun h34 => ?_)
        · have qn := bi_ne.mp h34
          have hS2 : 1 < (stk (cor A)).length := Nat.lt_of_not_le (fun z => qn (nearF_0 (by omega)))
          have hnk := w1.2.2.2.2.2
          have hnv := nearV (s := stk (cor A)) (p := p.toInt.toNat) (q := q.toInt.toNat)
          obtain ⟨w2, w3⟩ := w1.2.2.2.2.1 qn
          have w4 := w1.2.2.2.1
          generalize hgB : (nearF (stk (cor A)) p.toInt.toNat q.toInt.toNat) = B at hnk hnv w2 w3 w4 qn
          obtain ⟨k1, k2, k3, k4⟩ := hnk
          have hB : B.1 = 1 ∨ B.1 = 2 := by omega
          refine V.aload_n (pc := 41) dX11_near_41 rfl ?_
          refine V.getR (pc := 42) dX11_near_42 fX11_57_10 rfl hX.o hX.f10 ?_
          refine V.getJ (pc := 45) dX11_near_45 fX11_224_3 rfl (by assumption) ?_
          rw [w2]
          refine V.aload_n (pc := 48) dX11_near_48 rfl ?_
          refine V.getR (pc := 49) dX11_near_49 fX11_57_10 rfl hX.o hX.f10 ?_
          refine V.getJ (pc := 52) dX11_near_52 fX11_227_3 rfl (by assumption) ?_
          rw [w3.1]
          refine V.iload_n (pc := 55) dX11_near_55 rfl ?_
          refine V.i2l (pc := 56) dX11_near_56 ?_
          rw [toL hq1 (by omega)]
          refine V.lmul (pc := 57) dX11_near_57 ?_
          rw [lN_mul]
          refine V.iload_n (pc := 58) dX11_near_58 rfl ?_
          refine V.pS (as := [_, _, _]) (pc := 59) dX11_near_59 lX11_204 bX11_inLowestTerms sX11_inLowestTerms (x_low (d := d + 4) (a := B.2.1) (b := B.2.2.1 * q.toInt.toNat) _ _ _ rfl rfl (by omega) (Nat.lt_of_le_of_lt (Nat.mul_le_mul k3 (show q.toInt.toNat ≤ 100000 by omega)) (by decide)) (Nat.mul_pos (by have := k4 qn; omega) (by omega))) (by omega) rfl (Nat.le_of_ble_eq_true rfl) ?_
          exact V.lret (pc := 62) dX11_near_62 rfl (f2.qx hX hA hR (by rw [s_near, if_pos (show (((1 ≤ p.toInt ∧ p.toInt ≤ 100000) ∧ (1 ≤ q.toInt ∧ q.toInt ≤ 100000)) ∧ (0 ≤ w.toInt ∧ w.toInt ≤ 1) ∧ 1 < (stk (cor A)).length) from ⟨qr, ⟨w1x, qw⟩, hS2⟩), hgB]; by_cases w0 : w = 0; rw [if_pos w0, if_pos (show w.toInt = 0 by rw [w0]; rfl), lI_nat]; rw [if_neg w0, if_neg (show ¬ w.toInt = 0 from fun z => w0 ((eq32 _ _).mpr z)), lI_nat]))
        · have qn := bi_eq.mp h34
          have hS2 : ¬ 1 < (stk (cor A)).length := fun z => qn (nearF_1 z)
          refine V.ldc2 (pc := 37) dX11_near_37 qX11_164 ?_
          exact V.lret (pc := 40) dX11_near_40 rfl (f2.qx hX hA hR (by rw [s_near, if_neg (show ¬ (((1 ≤ p.toInt ∧ p.toInt ≤ 100000) ∧ (1 ≤ q.toInt ∧ q.toInt ≤ 100000)) ∧ (0 ≤ w.toInt ∧ w.toInt ≤ 1) ∧ 1 < (stk (cor A)).length) from fun z => hS2 z.2.2)]; rfl))
      · have qw : ¬ w.toInt ≤ 1 := fun z => h14 ((le32 _ _).mpr z)
        refine V.ldc2 (pc := 17) dX11_near_17 qX11_164 ?_
        exact V.lret (pc := 20) dX11_near_20 rfl (QX.q hX hR (by rw [s_near, if_neg (show ¬ (((1 ≤ p.toInt ∧ p.toInt ≤ 100000) ∧ (1 ≤ q.toInt ∧ q.toInt ≤ 100000)) ∧ (0 ≤ w.toInt ∧ w.toInt ≤ 1) ∧ 1 < (stk (cor A)).length) from fun z => qw z.2.1.2)]; rfl))
