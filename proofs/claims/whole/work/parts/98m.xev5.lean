theorem x_holds {g : gG} {d : Nat} {T : mT} {n : Nat} {I : mI} {J : mJ} {F : mF} {k a cc s lc ls b dd h i A0 bb E : Nat} {y : Hd} {f : Nat → Nat} {q : ClA} (x : Int32) (hAk : AkS T F k) (hLw : LaS T F a cc s lc ls) (hAE : AkE k cc b lc dd h y f T I J F) (hsk : s ≠ k) (hx : x = nI i) (hi : i + 1 < ls) (hls : ls ≤ 400) (e1 : I s i = nI A0) (e2 : I s (i + 1) = nI E) (hE : E ≤ lc) (hAb : A0 ≤ bb) (hbE : bb ≤ E) (hR1 : RealX f A0 bb q.1) (hR2 : (match q.2 with
  | none => E = bb
  | some t => RealXT f bb E t)) : Ct g mX0_holds (d + 3) [.ref k, .ref a, .int x] 0 0 T n I J F (fun r' T' n' I' J' F' => T' = T ∧ n' = n ∧ F' = F ∧ HF k I J I' J' ∧ (clSem q (envN h y dd) = none → r' = some (.int 0)) ∧ ∀ z, clSem q (envN h y dd) = some z → r' = some (.int 1) ∧ J' (k + 1) 0 = lI z) := by
  refine Ct.ofV (k := 5) (by decide) (Nat.le_of_ble_eq_true rfl) ?_
  show V g mX0_holds (d + 3) _ 0 0 0 [some (.ref k), some (.ref a), some (.int x), none, none, none, none, none] [] T n I J F
  subst hx
  have hTa := hLw.o
  refine V.aload_n (pc := 0) dX0_holds_0 rfl ?_
  refine V.iconst (v := 0) (pc := 1) dX0_holds_1 (by decide) ?_
  refine V.putI (pc := 2) dX0_holds_2 fX0_15_0 (fun r h => by cases h; exact Or.inl rfl) rfl hAk.o ?_
  refine V.aload_n (pc := 5) dX0_holds_5 rfl ?_
  refine V.iconst (v := 1) (pc := 6) dX0_holds_6 (by decide) ?_
  refine V.putZ (pc := 7) dX0_holds_7 fX0_19_0 (fun r h => by cases h; exact Or.inl rfl) rfl (by first | exact Or.inl rfl | exact Or.inr rfl | assumption) hAk.o ?_
  refine V.aload_n (pc := 10) dX0_holds_10 rfl ?_
  refine V.iload_n (pc := 11) dX0_holds_11 rfl ?_
  refine V.iconst (v := 1) (pc := 12) dX0_holds_12 (by decide) ?_
  refine V.iadd (pc := 13) dX0_holds_13 ?_
  refine V.pV (as := [_]) (pc := 14) dX0_holds_14 lX0_44 bX2_startOf nX2_startOf (ci := 2) rfl eX2_startOf (by assumption) (x_lstart (d := d + 2) (i := i + 1) _ hLw (by rw [nI_1]) hi hls) (by omega) rfl (Nat.le_of_ble_eq_true rfl) ?_
  rw [up2_off hsk, up2_off hsk, e2]
  refine V.isn (pc := 17) dX0_holds_17 (by decide) (st1_3 rfl) ?_
  refine V.aload_n (pc := 18) dX0_holds_18 rfl ?_
  refine V.iload_n (pc := 19) dX0_holds_19 rfl ?_
  refine V.pV (as := [_]) (pc := 20) dX0_holds_20 lX0_44 bX2_startOf nX2_startOf (ci := 2) rfl eX2_startOf (by assumption) (x_lstart (d := d + 2) (i := i) _ hLw rfl (by omega) hls) (by omega) rfl (Nat.le_of_ble_eq_true rfl) ?_
  rw [up2_off hsk, up2_off hsk, e1]
  refine V.is (pc := 23) dX0_holds_23 (by decide) (st1_4 rfl) ?_
  have hF1 : HF k I J (up2 (up2 I k 1 0) k 2 1) J := ⟨fun c hc => by rw [up2_off hc, up2_off hc], fun t t1 t2 => by rw [up2_ne (by omega), up2_ne (by omega)], fun _ _ => rfl⟩
  have hl4 : lc ≤ 400 := hAE.2.2.2.2.2.2.2.2.2.1
  refine hR1 (envN h y dd) (KX g d T n (up2 (up2 I k 1 0) k 2 1) J F _ k a E (nI i) f) (BX T n (up2 (up2 I k 1 0) k 2 1) J F _ k) (h_clo hAk hLw (hAE.keep hF1) hbE hE) [] true (fun z hz => ?_) (fun hz => ?_) (Nat.zero_le _) (fun z hz => by cases hz) _ _ ⟨⟨fun _ _ => rfl, fun _ _ _ => rfl, fun _ _ => rfl⟩, by rw [up2_ne (by omega), up2_same]; rfl, by rw [up2_same]; rfl, trivial⟩
  · cases hq : q.2 with
    | none =>
      have hEb : E = bb := by rw [hq] at hR2; exact hR2
      intro _ _ I2 J2 hi
      exact h_end hAk (by omega) (by omega) (by rw [hi.2.2.1]; exact so32_or _) ⟨rfl, rfl, rfl, hF1.tr hi.1, fun hw => (by rw [clSem_s hz (Or.inl hq)] at hw; cases hw), fun w hw => (by rw [clSem_s hz (Or.inl hq)] at hw; cases hw; exact ⟨by rw [hi.2.2.1]; rfl, hi.2.2.2.1⟩)⟩
    | some t =>
      have hR3 : RealXT f bb E t := by rw [hq] at hR2; exact hR2
      refine hR3 (envN h y dd) (KX g d T n (up2 (up2 I k 1 0) k 2 1) J F _ k a E (nI i) f) (BX T n (up2 (up2 I k 1 0) k 2 1) J F _ k) (h_clo hAk hLw (hAE.keep hF1) (Nat.le_refl _) hE) [z] true (fun tv ht => ?_) (fun ht => ?_)
      · intro _ _ I2 J2 hi
        cases tv with
        | false => exact h_end hAk (by omega) (by omega) (by rw [hi.2.2.1]; exact so32_or _) ⟨rfl, rfl, rfl, hF1.tr hi.1, fun _ => (by rw [hi.2.2.1]; rfl), fun w hw => (by rw [clSem_n2 hq (by rw [ht]; exact fun z => by cases z)] at hw; cases hw)⟩
        | true => exact h_end hAk (by omega) (by omega) (by rw [hi.2.2.1]; exact so32_or _) ⟨rfl, rfl, rfl, hF1.tr hi.1, fun hw => (by rw [clSem_s hz (Or.inr ⟨t, hq, ht⟩)] at hw; cases hw), fun w hw => (by rw [clSem_s hz (Or.inr ⟨t, hq, ht⟩)] at hw; cases hw; exact ⟨by rw [hi.2.2.1]; rfl, hi.2.2.2.1⟩)⟩
      · intro I2 J2 hf
        exact ⟨rfl, rfl, rfl, hF1.tr hf, fun _ => rfl, fun w hw => (by rw [clSem_n2 hq (by rw [ht]; exact fun z => by cases z)] at hw; cases hw)⟩
  · intro I2 J2 hf
    exact ⟨rfl, rfl, rfl, hF1.tr hf, fun _ => rfl, fun w hw => (by rw [clSem_n1 hz] at hw; cases hw)⟩
theorem iI_dec {j : Nat} : nI j + (-1) = iI ((j : Int) - 1) := by
  rw [← iI_nat, show (-1 : Int32) = iI (-1) from rfl, iI_add]
  congr 1
def ClsX (cl : List ClA) (f st : Nat → Nat) (s lc : Nat) (I : mI) : Prop := cl.length ≤ 12 ∧ (∀ i, i ≤ cl.length → I s i = nI (st i) ∧ st i ≤ lc) ∧ ∀ (i : Nat) (q : ClA), cl[i]? = some q → ∃ b, st i ≤ b ∧ b ≤ st (i + 1) ∧ RealX f (st i) b q.1 ∧ (match q.2 with
  | none => st (i + 1) = b
  | some t => RealXT f b (st (i + 1)) t)
theorem l_tells {g : gG} {d : Nat} {T : mT} {n : Nat} {I : mI} {J : mJ} {F : mF} {Q : mQ} {k a cc s lc b dd h : Nat} {y : Hd} {f st : Nat → Nat} {cl : List ClA} {vh vd : Int32} (hAk : AkS T F k) (hLw : LaS T F a cc s lc (cl.length + 1)) (hAE : AkE k cc b lc dd h y f T I J F) (hsk : s ≠ k) (hC : ClsX cl f st s lc I) (kk : ∀ (I' : mI) (J' : mJ), HF k I J I' J' → Q (some (.int (iI ((lawSem cl (envN h y dd)).getD (-2000000000))))) T n I' J' F) : ∀ (j : Nat) (I' : mI) (J' : mJ), j ≤ cl.length → HF k I J I' J' → lawSem cl (envN h y dd) = lawSem (cl.take j) (envN h y dd) → V g mX0_tells (d + 4) Q 0 0 35 [some (.ref k), some (.ref a), some (.int vh), some (.ref b), some (.int vd), some (.int (iI ((j : Nat) - 1 : Int)))] [] T n I' J' F := by
  intro j
  have hTa := hLw.o
  have h12 := hC.1
  induction j with
  | zero =>
    intro I' J' hj hf he
    have kz := kk I' J' hf
    rw [he] at kz
    refine V.iload (pc := 35) dX0_tells_35 rfl ?_
    refine V.if_lt 64 (pc := 37) dX0_tells_37 (by decide) (fun h37 => ?_) (fun h37 => absurd (by decide) h37)
    refine V.ldc (pc := 64) dX0_tells_64 qX0_33 ?_
    exact V.iret (pc := 66) dX0_tells_66 rfl kz
  | succ j ih =>
    intro I' J' hj hf he
    have eJ : iI (((j + 1 : Nat) : Int) - 1) = nI j := by rw [← iI_nat]; congr 1; omega
    rw [eJ]
    obtain ⟨q, hq⟩ : ∃ q, cl[j]? = some q := ⟨_, List.getElem?_eq_getElem (by omega)⟩
    obtain ⟨bb, b1, b2, b3, b4⟩ := hC.2.2 j q hq
    obtain ⟨s1, s2⟩ := hC.2.1 j (by omega)
    obtain ⟨s3, s4⟩ := hC.2.1 (j + 1) (by omega)
    have et : cl.take (j + 1) = cl.take j ++ [q] := by rw [List.take_succ, hq]; rfl
    rw [et, lawSem_snoc] at he
    refine V.iload (pc := 35) dX0_tells_35 rfl ?_
    refine V.if_lt 64 (pc := 37) dX0_tells_37 (by decide) (fun h37 => absurd h37 (nI_pos (by omega))) (fun h37 => ?_)
    refine V.aload_n (pc := 40) dX0_tells_40 rfl ?_
    refine V.aload_n (pc := 41) dX0_tells_41 rfl ?_
    refine V.iload (pc := 42) dX0_tells_42 rfl ?_
    refine V.invV0 (as := [_, _]) (pc := 44) dX0_tells_44 lX0_40 bX0_holds nX0_holds (ci := 0) rfl eX0_holds hAk.o (x_holds (d := d + 0) (i := j) (q := q) (E := st (j + 1)) (A0 := st j) (bb := bb) _ hAk hLw (hAE.keep hf) hsk rfl (by omega) (by omega) (by rw [hf.1 _ hsk]; exact s1) (by rw [hf.1 _ hsk]; exact s3) s4 b1 b2 b3 b4) (by omega) rfl (Nat.le_of_ble_eq_true rfl) ?_
    rintro r2 _ _ I2 J2 _ ⟨rfl, rfl, rfl, f2, n2, y2⟩
    rcases hs : clSem q (envN h y dd) with _ | z
    · obtain rfl := n2 hs
      rw [hs] at he
      refine V.if_eq 58 (pc := 47) dX0_tells_47 (by decide) (fun h47 => ?_) (fun h47 => absurd rfl h47)
      refine V.iinc (v := _ + (-1)) (pc := 58) dX0_tells_58 (by decide) rfl rfl (st1_5 rfl) ?_
      rw [iI_dec]
      refine V.goto 35 (pc := 61) dX0_tells_61 (by decide) ?_
      exact ih I2 J2 (by omega) (hf.tr f2) he
    · obtain ⟨rfl, e0⟩ := y2 z hs
      rw [hs] at he
      have kz := kk I2 J2 (hf.tr f2)
      rw [he] at kz
      refine V.if_eq 58 (pc := 47) dX0_tells_47 (by decide) (fun h47 => absurd h47 (by decide)) (fun h47 => ?_)
      refine V.aload_n (pc := 50) dX0_tells_50 rfl ?_
      refine V.getR (pc := 51) dX0_tells_51 fX0_9_0 rfl hAk.o hAk.f0 ?_
      refine V.iconst (v := 0) (pc := 54) dX0_tells_54 (by decide) ?_
      refine V.lald' (k := 0) (pc := 55) dX0_tells_55 hAk.t0 rfl (by decide) (by decide) ?_
      rw [e0]
      refine V.l2i (pc := 56) dX0_tells_56 ?_
      rw [l2i_I]
      exact V.iret (pc := 57) dX0_tells_57 rfl kz
theorem x_tells {g : gG} {d : Nat} {T : mT} {n : Nat} {I : mI} {J : mJ} {F : mF} {k a cc s lc b dd h : Nat} {y : Hd} {f st : Nat → Nat} {cl : List ClA} (x z : Int32) (hAk : AkS T F k) (hLw : LaS T F a cc s lc (cl.length + 1)) (hN : HN T F b) (hW : HdX I J b y) (hY : HdOK y) (hdj : (cc ≠ k ∧ b ≠ k ∧ b + 1 ≠ k ∧ b ≠ k + 1) ∧ s ≠ k ∧ a ≠ k) (hx : x = nI h) (hz : z = nI dd) (hd : dd ≤ 1000000) (hh : h < 6) (hl : lc ≤ 400) (h50 : lcX f lc ≤ 50) (hc : ∀ i, i < lc → I cc i = nI (f i) ∧ f i < 1048576) (hC : ClsX cl f st s lc I) : Ct g mX0_tells (d + 4) [.ref k, .ref a, .int x, .ref b, .int z] 0 0 T n I J F (fun r' T' n' I' J' F' => r' = some (.int (iI ((lawSem cl (envN h y dd)).getD (-2000000000)))) ∧ T' = T ∧ n' = n ∧ F' = up2 F k 4 (some b) ∧ (∀ c, c ≠ k → I' c = I c) ∧ ∀ c, c ≠ k + 1 → J' c = J c) := by
  refine Ct.ofV (k := 1) (by decide) (Nat.le_of_ble_eq_true rfl) ?_
  show V g mX0_tells (d + 4) _ 0 0 0 [some (.ref k), some (.ref a), some (.int x), some (.ref b), some (.int z), none] [] T n I J F
  subst hx hz
  have hTa := hLw.o
  have h12 := hC.1
  refine V.aload_n (pc := 0) dX0_tells_0 rfl ?_
  refine V.ifnull (pc := 1) dX0_tells_1 ?_
  refine V.aload_n (pc := 4) dX0_tells_4 rfl ?_
  refine V.ifnonnull 11 (pc := 5) dX0_tells_5 (by decide) ?_
  refine V.aload_n (pc := 11) dX0_tells_11 rfl ?_
  refine V.iload_n (pc := 12) dX0_tells_12 rfl ?_
  refine V.putI (pc := 13) dX0_tells_13 fX0_23_0 (fun r h => by cases h; exact Or.inl rfl) rfl hAk.o ?_
  refine V.aload_n (pc := 16) dX0_tells_16 rfl ?_
  refine V.aload_n (pc := 17) dX0_tells_17 rfl ?_
  refine V.putR (b := (some _)) (pc := 18) dX0_tells_18 fX0_26_0 (fun r h => by cases h; exact Or.inl rfl) rfl hAk.o ?_
  refine V.aload_n (pc := 21) dX0_tells_21 rfl ?_
  refine V.iload (pc := 22) dX0_tells_22 rfl ?_
  refine V.putI (pc := 24) dX0_tells_24 fX0_30_0 (fun r h => by cases h; exact Or.inl rfl) rfl hAk.o ?_
  have hAk2 : AkS T (up2 F k 4 (some b)) k := ⟨hAk.1, by rw [up2_ne (by omega)]; exact hAk.2.1, hAk.2.2⟩
  have hLw2 : LaS T (up2 F k 4 (some b)) a cc s lc (cl.length + 1) := ⟨hLw.1, ⟨by rw [up2_off hdj.2.2]; exact hLw.f0, hLw.t0⟩, by rw [up2_off hdj.2.2]; exact hLw.f1, hLw.t1⟩
  have hAE : AkE k cc b lc dd h y f T (up2 (up2 I k 3 (nI h)) k 5 (nI dd)) J (up2 F k 4 (some b)) := ⟨hdj.1, up2_same, ⟨hN.1, by rw [up2_off hdj.1.2.1]; exact hN.2.1, hN.2.2⟩, hW.congr2 (by rw [up2_off hdj.1.2.1, up2_off hdj.1.2.1]) (by rw [up2_off hdj.1.2.2.1, up2_off hdj.1.2.2.1]) rfl, hY, up2_same, by rw [up2_ne (by omega), up2_same], hd, hh, hl, h50, fun i hi => by rw [up2_off hdj.1.1, up2_off hdj.1.1]; exact hc i hi⟩
  have hC2 : ClsX cl f st s lc (up2 (up2 I k 3 (nI h)) k 5 (nI dd)) := ⟨hC.1, fun i hi => by rw [up2_off hdj.2.1, up2_off hdj.2.1]; exact hC.2.1 i hi, hC.2.2⟩
  refine V.aload_n (pc := 27) dX0_tells_27 rfl ?_
  refine V.pV (as := []) (pc := 28) dX0_tells_28 lX0_34 bX2_clauses nX2_clauses (ci := 2) rfl eX2_clauses (by assumption) (x_lclauses (d := d + 3) hLw2 (by omega)) (by omega) rfl (Nat.le_of_ble_eq_true rfl) ?_
  rw [show nI (cl.length + 1 - 1) = nI cl.length from rfl]
  refine V.iconst (v := 1) (pc := 31) dX0_tells_31 (by decide) ?_
  refine V.isub (pc := 32) dX0_tells_32 ?_
  rw [show nI cl.length - 1 = iI ((cl.length : Int) - 1) from by rw [← iI_nat, show (1 : Int32) = iI 1 from rfl, iI_sub]]
  refine V.is (pc := 33) dX0_tells_33 (by decide) (st1_5 rfl) ?_
  refine l_tells hAk2 hLw2 hAE hdj.2.1 hC2 (fun I2 J2 hf => ?_) cl.length _ _ (Nat.le_refl _) ⟨fun _ _ => rfl, fun _ _ _ => rfl, fun _ _ => rfl⟩ (by rw [List.take_length])
  exact ⟨rfl, rfl, rfl, rfl, fun c hc => by rw [hf.1 c hc, up2_off hc, up2_off hc], fun c hc => hf.2.2 c hc⟩
