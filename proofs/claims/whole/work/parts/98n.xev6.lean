-- the class's law in force, and what it tells
def LawV (T : mT) (I : mI) (F : mF) (x : Nat) (c : Core) (v : Value) : Prop := (frc c = -1 ∧ v = .null) ∨ ∃ (a fi : Nat) (w : Lw), frc c = (fi : Int) ∧ (lws c)[fi]? = some w ∧ v = .ref a ∧ LwX T I F (x + 111) a w
def QLf (T : mT) (n : Nat) (I : mI) (J : mJ) (F : mF) (x : Nat) (c : Core) : mQ := fun r' T' n' I' J' F' => ∃ v, r' = some v ∧ LawV T I F x c v ∧ T' = T ∧ n' = n ∧ I' = I ∧ J' = J ∧ F' = F
/-- what an asking leaves -/
def AkF (x : Nat) (I : mI) (J : mJ) (F : mF) (I' : mI) (J' : mJ) (F' : mF) : Prop := (∀ c, c ≠ x + 31 → I' c = I c) ∧ (∀ c, c ≠ x + 32 → J' c = J c) ∧ (∀ c, c ≠ x + 31 → F' c = F c) ∧ ∀ t, t ≠ 4 → F' (x + 31) t = F (x + 31) t
section AKF
variable {T : mT} {I I' I2 : mI} {J J' J2 : mJ} {F F' F2 : mF} {x : Nat} {A : Ab}
theorem AkF.rf : AkF x I J F I J F := ⟨fun _ _ => rfl, fun _ _ => rfl, fun _ _ => rfl, fun _ _ => rfl⟩
theorem AkF.tr (h : AkF x I J F I' J' F') (h2 : AkF x I' J' F' I2 J2 F2) : AkF x I J F I2 J2 F2 := ⟨fun c hc => (h2.1 c hc).trans (h.1 c hc), fun c hc => (h2.2.1 c hc).trans (h.2.1 c hc), fun c hc => (h2.2.2.1 c hc).trans (h.2.2.1 c hc), fun t ht => (h2.2.2.2 t ht).trans (h.2.2.2 t ht)⟩
theorem AkF.frx (h : AkF x I J F I' J' F') : FrX x I I' ∧ FrX x J J' ∧ FrX x F F' := ⟨fun b b1 b2 => h.1 b (by omega), fun b b1 b2 => h.2.1 b (by omega), fun b b1 b2 => h.2.2.1 b (by omega)⟩
theorem AkF.xs (h : AkF x I J F I' J' F') (hX : XS T F x) : XS T F' x := by
  refine hX.mono (fun _ _ z => z) (fun b t h1 h2 h3 h4 h5 => ?_) (hX.2.congr (by rw [h.2.2.1 _ (by omega)]) (fun b hb => h.2.2.1 b (by omega)))
  by_cases z : b = x + 31
  · subst z; exact h.2.2.2 t (by have := h5 rfl; omega)
  · rw [h.2.2.1 b z]
theorem AkF.rep (f : AkF x I J F I' J' F') (h : RepX T I J F x A) (hA : AbOK A) : RepX T I' J' F' x A := by
  obtain ⟨h1, h2, h3, ⟨⟨h4, h5⟩, h6, h7⟩, ⟨h8, h8'⟩, h9, h10⟩ := h
  have hC : ∀ {u : Nat} {c : Core}, StX T I J F (x + 111) u c → CoreOK c → (u = x + 1 ∨ u = x + 50 ∨ u = x + 70) → StX T I' J' F' (x + 111) u c := fun {u c} hs hc hu => hs.congr hc (fun _ _ z => z) (fun b _ _ => f.1 b (by omega)) (fun b _ _ => f.2.1 b (by omega)) (fun b hb hb2 => f.1 b (by omega)) (fun b hb hb2 => f.2.2.1 b (by omega)) (f.2.2.1 _ (by omega))
  refine ⟨by rw [f.1 _ (by omega)]; exact h1, by rw [f.1 _ (by omega)]; exact h2, hC h3 hA.1 (by omega), ⟨⟨by rw [f.1 _ (by omega)]; exact h4, fun c hc => hC (h5 c hc) (hA.2.1 0 c hc) (by omega)⟩, by rw [f.1 _ (by omega)]; exact h6, fun c hc => hC (h7 c hc) (hA.2.1 1 c hc) (by omega)⟩, ⟨fun i hi => ?_, fun i hi => ?_⟩, fun i t hi => by rw [f.1 _ (by omega)]; exact h9 i t hi, ?_⟩
  · rw [f.2.2.1 _ (by omega)]; exact h8 i hi
  · rw [f.2.2.1 _ (by omega)]; exact h8' i hi
  · rw [f.1 _ (by omega), f.1 (x + 47) (by omega), f.1 (x + 48) (by omega)]; exact h10
theorem AkF.qx {n : Nat} {r : Option Value} {S : Option Value} (f : AkF x I J F I' J' F') (hX : XS T F x) (hA : AbOK A) (hR : RepX T I J F x A) (hr : r = S) : QX x T n I J F S A r T n I' J' F' := ⟨hr, fun _ _ z => z, Nat.le_refl _, f.frx.1, f.frx.2.1, f.frx.2.2, f.xs hX, f.rep hR hA⟩
end AKF
theorem x_lif {g : gG} {d : Nat} {T : mT} {n : Nat} {I : mI} {J : mJ} {F : mF} {x : Nat} {A : Ab} (hS : SS T F (x + 1)) (hX : XS T F x) (hA : AbOK A) (hR : RepX T I J F x A) : Ct g mX8_lawInForce (d + 0) [.ref (x + 1)] 0 0 T n I J F (QLf T n I J F x (cor A)) := by
  refine Ct.ofV (k := 0) (by decide) (Nat.le_of_ble_eq_true rfl) ?_
  show V g mX8_lawInForce (d + 0) _ 0 0 0 [some (.ref (x + 1))] [] T n I J F
  by_cases qf : frc (cor A) = -1
  · have e8 : I (x + 1) 8 = -1 := by rw [hR.h8, qf]; rfl
    refine V.aload_n (pc := 0) dX8_lawInForce_0 rfl ?_
    refine V.getI (pc := 1) dX8_lawInForce_1 fX8_44_7 rfl hS.o ?_
    rw [e8]
    refine V.if_lt 42 (pc := 4) dX8_lawInForce_4 (by decide) (fun h4 => ?_) (fun h4 => absurd (by decide) h4)
    refine V.anull (pc := 42) dX8_lawInForce_42 ?_
    exact V.aret (b := none) (pc := 43) dX8_lawInForce_43 rfl ⟨.null, rfl, Or.inl ⟨qf, rfl⟩, rfl, rfl, rfl, rfl, rfl⟩
  · have hk5 := hA.1.2.2.2.2.1
    have hk6 := hA.1.2.2.2.2.2.1
    have hk7 := hA.1.2.2.2.2.2.2.1
    obtain ⟨fi, hfi⟩ : ∃ fi : Nat, frc (cor A) = (fi : Int) := ⟨(frc (cor A)).toNat, by omega⟩
    obtain ⟨w, hw⟩ : ∃ w, (lws (cor A))[fi]? = some w := ⟨_, List.getElem?_eq_getElem (by omega)⟩
    obtain ⟨la, hla, hlw⟩ := hR.2.2.1.2.2.2.2.2.1 fi w hw
    have e8 : I (x + 1) 8 = nI fi := by rw [hR.h8, hfi, iI_nat]
    refine V.aload_n (pc := 0) dX8_lawInForce_0 rfl ?_
    refine V.getI (pc := 1) dX8_lawInForce_1 fX8_44_7 rfl hS.o ?_
    rw [e8]
    refine V.if_lt 42 (pc := 4) dX8_lawInForce_4 (by decide) (fun h4 => absurd h4 (nI_pos (by omega))) (fun h4 => ?_)
    refine V.aload_n (pc := 7) dX8_lawInForce_7 rfl ?_
    refine V.getI (pc := 8) dX8_lawInForce_8 fX8_44_7 rfl hS.o ?_
    rw [e8]
    refine V.aload_n (pc := 11) dX8_lawInForce_11 rfl ?_
    refine V.getI (pc := 12) dX8_lawInForce_12 fX8_41_7 rfl hS.o ?_
    rw [hR.h7]
    refine V.icmp_ge 42 (pc := 15) dX8_lawInForce_15 (by decide) (fun h15 => absurd h15 (nI_ge (by omega) (by omega))) (fun h15 => ?_)
    refine V.aload_n (pc := 18) dX8_lawInForce_18 rfl ?_
    refine V.getI (pc := 19) dX8_lawInForce_19 fX8_44_7 rfl hS.o ?_
    rw [e8]
    refine V.aload_n (pc := 22) dX8_lawInForce_22 rfl ?_
    refine V.getR (pc := 23) dX8_lawInForce_23 fX8_37_7 rfl hS.o hS.f6 ?_
    refine V.alen (pc := 26) dX8_lawInForce_26 hS.t6 ty_W (by rfl) ?_
    refine V.icmp_ge 42 (pc := 27) dX8_lawInForce_27 (by decide) (fun h27 => absurd h27 (by rw [show Int32.ofNat 6 = nI 6 from rfl]; exact nI_ge (by omega) (by omega))) (fun h27 => ?_)
    refine V.aload_n (pc := 30) dX8_lawInForce_30 rfl ?_
    refine V.getR (pc := 31) dX8_lawInForce_31 fX8_37_7 rfl hS.o hS.f6 ?_
    refine V.aload_n (pc := 34) dX8_lawInForce_34 rfl ?_
    refine V.getI (pc := 35) dX8_lawInForce_35 fX8_44_7 rfl hS.o ?_
    rw [e8]
    refine V.aald' (k := fi) (pc := 38) dX8_lawInForce_38 hS.t6 ty_W rfl (by omega) (by decide) ?_
    rw [show F (x + 1 + 3) fi = some la from hla]
    refine V.goto 43 (pc := 39) dX8_lawInForce_39 (by decide) ?_
    exact V.aret (b := some _) (pc := 43) dX8_lawInForce_43 rfl ⟨.ref la, rfl, Or.inr ⟨la, fi, w, hfi, hw, rfl, hlw⟩, rfl, rfl, rfl, rfl, rfl⟩
theorem x_tellsN {g : gG} {d : Nat} {T : mT} {n : Nat} {I : mI} {J : mJ} {F : mF} {k b : Nat} (x z : Int32)  : Ct g mX0_tells (d + 0) [.ref k, .null, .int x, .ref b, .int z] 0 0 T n I J F (pureQ T n I J F (some (.int (-2000000000)))) := by
  refine Ct.ofV (k := 1) (by decide) (Nat.le_of_ble_eq_true rfl) ?_
  show V g mX0_tells (d + 0) _ 0 0 0 [some (.ref k), some (.null), some (.int x), some (.ref b), some (.int z), none] [] T n I J F
  refine V.nload_n (pc := 0) dX0_tells_0 rfl ?_
  refine V.ifnullN 8 (pc := 1) dX0_tells_1 (by decide) ?_
  refine V.ldc (pc := 8) dX0_tells_8 qX0_33 ?_
  exact V.iret (pc := 10) dX0_tells_10 rfl ⟨rfl, rfl, rfl, rfl, rfl, rfl⟩
theorem x_ask {g : gG} {d : Nat} {T : mT} {n : Nat} {I : mI} {J : mJ} {F : mF} {x h dd : Nat} {y : Hd} {A : Ab} {v : Value} (xv z : Int32) (hX : XS T F x) (hA : AbOK A) (hR : RepX T I J F x A) (hy : (hds (cor A))[h]? = some y) (hv : LawV T I F x (cor A) v) (hx : xv = nI h) (hz : z = nI dd) (hd : dd ≤ 1000000) : Ct g mX0_tells (d + 4) [.ref (x + 31), v, .int xv, .ref (x + 1 + 8 + 2 * h), .int z] 0 0 T n I J F (fun r' T' n' I' J' F' => r' = some (.int (shI (cor A) h y dd)) ∧ T' = T ∧ n' = n ∧ AkF x I J F I' J' F') := by
  have h6 := hA.1.1
  have hl := (List.getElem?_eq_some_iff.mp hy).1
  rcases hv with ⟨qf, rfl⟩ | ⟨a, fi, w, hfi, hw, rfl, h1, h2, c, s, lc, ls, c1, c2, c3, c4, c5, c6, cl, f, st, l1, l2, l3, l4, l5, l6, l7, l8⟩
  · exact (x_tellsN (d := d + 4) xv z).imp (by
      rintro _ _ _ _ _ _ ⟨rfl, rfl, rfl, rfl, rfl, rfl⟩
      exact ⟨by rw [shI, shV, if_pos qf]; rfl, rfl, rfl, AkF.rf⟩)
  · subst l1
    have hcode : ∀ i, i < lc → I c i = nI (f i) ∧ f i < 1048576 := fun i hi => by
      obtain ⟨q0, q2⟩ := l6 i hi
      have q1 : (I c i).toInt = (f i : Int) := q0
      exact ⟨by rw [nIx (x := I c i) (by rw [q1]; omega) rfl, q1, Int.toNat_natCast], q2⟩
    have hcls : ClsX cl f st s lc I := ⟨l2, fun i hi => by
      obtain ⟨q0, q2⟩ := l7 i hi
      have q1 : (I s i).toInt = (st i : Int) := q0
      exact ⟨by rw [nIx (x := I s i) (by rw [q1]; omega) rfl, q1, Int.toNat_natCast], q2⟩, l8⟩
    exact (x_tells (y := y) xv z hX.ak ⟨h2, ⟨c3, c4⟩, c5, c6⟩ (hX.s.n (by omega)) (hR.hd hy) (hA.1.2.1 y (List.mem_of_getElem? hy)) (by omega) hx hz hd (by omega) l4 l5 hcode hcls).imp (by
      rintro _ _ _ I2 J2 _ ⟨rfl, rfl, rfl, rfl, g1, g2⟩
      refine ⟨?_, rfl, rfl, g1, g2, fun c hc => up2_off hc, fun t ht => up2_ne (by omega)⟩
      rw [shI, shV, if_neg (by omega), hfi, Int.toNat_natCast, getD_some hw, l3])
