-- bounds of the reference's reading; what of it lies in memory
def emc : Pl → Nat
  | [] => 0
  | q :: P => emc P + (if q.1 = 28 ∨ q.1 = 29 then 0 else 1)
def Inv (i : Nat) (C : Cd) (P : Pl) : Prop := C.1 + emc P ≤ i ∧ P.length ≤ i ∧ (∀ q ∈ P, q.1 < 32 ∧ q.2 ≤ 400 ∧ ((q.1 = 28 ∨ q.1 = 29) → q.2 < C.1)) ∧ ∀ k, k < C.1 → (C.2 k).1 < 32 ∧ (C.2 k).2 ≤ 10000
theorem Inv.mono {i j : Nat} {C : Cd} {P : Pl} (h : Inv i C P) (hij : i ≤ j) : Inv j C P := ⟨Nat.le_trans h.1 hij, Nat.le_trans h.2.1 hij, h.2.2⟩
theorem Inv.em {i : Nat} {C : Cd} {P : Pl} {v : Nat × Nat} (h : Inv i C P) (h1 : v.1 < 32) (h2 : v.2 ≤ 10000) : Inv (i + 1) (emC C v) P := by
  obtain ⟨a, b, c, e⟩ := h
  refine ⟨by show C.1 + 1 + emc P ≤ i + 1; omega, by omega, fun q hq => ⟨(c q hq).1, (c q hq).2.1, fun z => by have := (c q hq).2.2 z; show q.2 < C.1 + 1; omega⟩, fun k hk => ?_⟩
  show (upC C.2 C.1 v k).1 < 32 ∧ (upC C.2 C.1 v k).2 ≤ 10000
  unfold upC
  have hk2 : k < C.1 + 1 := hk
  by_cases z : k = C.1
  · rw [if_pos z]; exact ⟨h1, h2⟩
  · rw [if_neg z]; exact e k (by omega)
theorem Inv.push {i op : Nat} {C : Cd} {P : Pl} (h : Inv i C P) (h1 : op < 32) (h2 : op ≠ 28 ∧ op ≠ 29) : Inv (i + 1) C ((op, 0) :: P) := by
  obtain ⟨a, b, c, e⟩ := h
  refine ⟨by rw [emc]; split <;> omega, by rw [List.length_cons]; omega, fun q hq => ?_, e⟩
  rcases List.mem_cons.mp hq with rfl | hq
  · exact ⟨h1, Nat.zero_le _, fun z => by have z2 : op = 28 ∨ op = 29 := z; omega⟩
  · exact c q hq
theorem Inv.andor {i op : Nat} {C : Cd} {P : Pl} (h : Inv i C P) (h1 : op = 28 ∨ op = 29) (hi : i ≤ 400) : Inv (i + 1) (emC C (op, 0)) ((op, C.1) :: P) := by
  have h2 := h.em (v := (op, 0)) (by show op < 32; omega) (Nat.zero_le _)
  obtain ⟨a, b, c, e⟩ := h2
  refine ⟨by rw [emc, if_pos h1]; exact a, by rw [List.length_cons]; have := h.2.1; omega, fun q hq => ?_, e⟩
  rcases List.mem_cons.mp hq with rfl | hq
  · exact ⟨by show op < 32; omega, by show C.1 ≤ 400; have := h.1; omega, fun _ => Nat.lt_succ_self _⟩
  · exact c q hq
theorem Inv.tail {i : Nat} {C : Cd} {P : Pl} (h : Inv i C P) : Inv i C P.tail := by
  cases P with
  | nil => exact h
  | cons q P =>
    obtain ⟨a, b, c, e⟩ := h
    rw [List.length_cons] at b
    rw [emc] at a
    exact ⟨by show C.1 + emc P ≤ i; omega, by show P.length ≤ i; omega, fun z hz => c z (List.mem_cons_of_mem _ hz), e⟩
theorem Inv.pop {i : Nat} {C : Cd} {P : Pl} {q : Nat × Nat} (h : Inv i C (q :: P)) (hi : i ≤ 400) : Inv i (if q.1 = 28 ∨ q.1 = 29 then aimC C q.2 else emC C (q.1, 0)) P := by
  obtain ⟨a, b, c, e⟩ := h
  rw [List.length_cons] at b
  rw [emc] at a
  by_cases z : q.1 = 28 ∨ q.1 = 29
  · rw [if_pos z] at a ⊢
    refine ⟨by show C.1 + emc P ≤ i; omega, by omega, fun y hy => c y (List.mem_cons_of_mem _ hy), fun k hk => ?_⟩
    show (upC C.2 q.2 _ k).1 < 32 ∧ (upC C.2 q.2 _ k).2 ≤ 10000
    unfold upC
    have hq := (c q List.mem_cons_self).2.2 z
    by_cases y : k = q.2
    · rw [if_pos y]; exact ⟨(e q.2 hq).1, by show C.1 ≤ 10000; omega⟩
    · rw [if_neg y]; exact e k hk
  · rw [if_neg z] at a ⊢
    refine ⟨by show C.1 + 1 + emc P ≤ i; omega, by omega, fun y hy => ⟨(c y (List.mem_cons_of_mem _ hy)).1, (c y (List.mem_cons_of_mem _ hy)).2.1, fun w => by have := (c y (List.mem_cons_of_mem _ hy)).2.2 w; show y.2 < C.1 + 1; omega⟩, fun k hk => ?_⟩
    show (upC C.2 C.1 (q.1, 0) k).1 < 32 ∧ (upC C.2 C.1 (q.1, 0) k).2 ≤ 10000
    unfold upC
    have hk2 : k < C.1 + 1 := hk
    by_cases y : k = C.1
    · rw [if_pos y]; exact ⟨(c q List.mem_cons_self).1, Nat.zero_le _⟩
    · rw [if_neg y]; exact e k (by omega)
theorem stl_c2 {L : Nat} {q : Nat × Nat} {P : Pl} {C : Cd} : stl L (q :: P) C = if L ≤ bnd q.1 then stl L P (if q.1 = 28 ∨ q.1 = 29 then aimC C q.2 else emC C (q.1, 0)) else (q :: P, C) := by
  rw [stl_c]
  split
  · split <;> rfl
  · rfl
theorem Inv.stl0 {i L : Nat} (hi : i ≤ 400) : ∀ (P : Pl) (C : Cd), Inv i C P → Inv i (stl L P C).2 (stl L P C).1
  | [], C, h => h
  | q :: P, C, h => by
    rw [stl_c2]
    by_cases z : L ≤ bnd q.1
    · rw [if_pos z]; exact Inv.stl0 hi P _ (h.pop hi)
    · rw [if_neg z]; exact h
theorem Inv.sd {i L : Nat} {P : Pl} {C : Cd} (h : Inv i C P) (hi : i ≤ 400) : Inv i (stl L P C).2 (stl L P C).1 := Inv.stl0 hi P C h
theorem bnd_30 {op : Nat} (h : 30 ≤ op) : bnd op = 0 := if_pos h
theorem inr_stl {L : Nat} (hL : 1 ≤ L) : ∀ (P : Pl) (C : Cd), inr (stl L P C).1 = inr P
  | [], C => rfl
  | q :: P, C => by
    rw [stl_c2]
    by_cases z : L ≤ bnd q.1
    · rw [if_pos z, inr_stl hL P, inr, if_neg]
      intro y
      rw [bnd_30 y] at z
      omega
    · rw [if_neg z]
def RdOK (E : Nat) (r : RS) : Prop := r_i r ≤ E ∧ Inv (r_i r) (r_C r) (r_P r) ∧ r_v r ≤ 50 ∧ r_o r ≤ 8
theorem RdOK.bad {E : Nat} {r : RS} (h : RdOK E r) : RdOK E (badR r) := h
section STOK
variable {kd : Nat → Int} {nm : Nat → Nat} {E : Nat} {r : RS}
theorem fOpen_ok {op : Nat} (hE : EndT kd E) (h : RdOK E r) (hk : kd (r_i r) ≠ -1) (ho : op = 30 ∨ op = 31) : RdOK E (fOpen kd op r) := by
  unfold fOpen
  obtain ⟨a, b, c, e⟩ := h
  split
  · exact ⟨nxt hE a hk, b.push (by omega) (by omega), c, by show r_o r + 1 ≤ 8; omega⟩
  · exact ⟨a, b, c, e⟩
theorem fPart_ok (hE : EndT kd E) (hk5 : ∀ i, kd i ≤ 305) (h : RdOK E r) : RdOK E (fPart kd nm r).2 := by
  unfold fPart
  have h5 := hk5 (r_i r)
  by_cases z : kd (r_i r) = 91
  · rw [if_pos z]; exact fOpen_ok hE h (by rw [z]; decide) (Or.inr rfl)
  · rw [if_neg z]
    split
    · rename_i w
      obtain ⟨a, b, c, e⟩ := h
      exact ⟨nxt hE a (by omega), b.em (by show (kd (r_i r) - 300).toNat < 32; omega) w.1.2, by show r_v r + 1 ≤ 50; omega, e⟩
    · exact h
theorem fPlain_ok (hE : EndT kd E) (hk5 : ∀ i, kd i ≤ 305) (h : RdOK E r) : RdOK E (fPlain kd nm r).2 := by
  unfold fPlain
  by_cases z : kd (r_i r) = 261
  · rw [if_pos z]
    obtain ⟨a, b, c, e⟩ := h
    exact ⟨nxt hE a (by rw [z]; decide), b.push (by decide) (by decide), c, e⟩
  · rw [if_neg z]
    by_cases y : kd (r_i r) = 40
    · rw [if_pos y]; exact fOpen_ok hE h (by rw [y]; decide) (Or.inl rfl)
    · rw [if_neg y]; exact fPart_ok hE hk5 h
theorem aop_bd {k : Int} (h : aop k ≠ 0) : 19 ≤ aop k ∧ aop k ≤ 23 ∧ k ≠ -1 := by
  by_cases z : addOp k = 0
  · have e : aop k = mulOp k := by unfold aop; rw [if_neg (by simp [z])]
    rw [e] at h
    obtain ⟨-, b, c, d⟩ := aop_mul h
    omega
  · obtain ⟨a, b, c, d⟩ := aop_add z
    omega
theorem fSum_ok {test : Bool} (hE : EndT kd E) (h : RdOK E r) : RdOK E (fSum kd test r).2 := by
  unfold fSum
  obtain ⟨a, b, c, e⟩ := h
  have h4 : r_i r ≤ 400 := Nat.le_trans a hE.1
  split
  · rename_i w
    obtain ⟨w1, w2, w3⟩ := aop_bd w
    exact ⟨nxt hE a w3, Inv.push (op := aop (kd (r_i r))) (b.sd h4) (by omega) (by omega), c, e⟩
  · split
    · split
      · rename_i w
        exact ⟨nxt hE a (by rw [w]; decide), ((b.sd h4).tail).mono (Nat.le_succ _), c, by show r_o r - 1 ≤ 8; omega⟩
      · exact ⟨a, b, c, e⟩
    · split
      · exact ⟨a, b, c, e⟩
      · split
        · exact ⟨a, b, c, e⟩
        · split
          · rename_i w
            obtain ⟨w1, w2, w3⟩ := cmpOp_bd w
            exact ⟨nxt hE a w3, Inv.push (op := cmpOp (kd (r_i r))) (b.sd h4) (by omega) (by omega), c, e⟩
          · exact ⟨a, b, c, e⟩
theorem fTest_ok (hE : EndT kd E) (h : RdOK E r) : RdOK E (fTest kd r).2 := by
  unfold fTest
  obtain ⟨a, b, c, e⟩ := h
  have h4 : r_i r ≤ 400 := Nat.le_trans a hE.1
  split
  · rename_i w
    exact ⟨nxt hE a (by rw [w]; decide), (b.sd h4).andor (Or.inl rfl) h4, c, e⟩
  · split
    · rename_i w
      exact ⟨nxt hE a (by rw [w]; decide), (b.sd h4).andor (Or.inr rfl) h4, c, e⟩
    · split
      · exact ⟨a, b, c, e⟩
      · split
        · rename_i w
          exact ⟨nxt hE a (by rw [w]; decide), ((b.sd h4).tail).mono (Nat.le_succ _), c, by show r_o r - 1 ≤ 8; omega⟩
        · exact ⟨a, b, c, e⟩
theorem stA_ok {test : Bool} {t : Nat} (hE : EndT kd E) (hk5 : ∀ i, kd i ≤ 305) (h : RdOK E r) : RdOK E (stA kd nm test t r).2 := by
  unfold stA
  split
  · exact fPlain_ok hE hk5 h
  · split
    · exact fPart_ok hE hk5 h
    · split
      · exact fSum_ok hE h
      · exact fTest_ok hE h
end STOK
def PlM (I : mI) (m : Nat) : Pl → Prop
  | [] => True
  | q :: P => (I (m + 9) P.length = nI q.1 ∧ I (m + 10) P.length = nI q.2) ∧ PlM I m P
def CdM (I : mI) (m : Nat) (C : Cd) : Prop := I m 17 = nI C.1 ∧ ∀ k, k < C.1 → I (m + 7) k = nI (C.2 k).1 ∧ I (m + 8) k = nI (C.2 k).2
def RdM (tt : Nat → Nat) (N : Nat) (r : RS) (I : mI) (J : mJ) (m : Nat) : Prop := TkM tt N (r_i r) I J m ∧ I m 14 = (if r_b r = true then 1 else 0) ∧ I m 13 = iI (if r_b r = true then (frT tt N (r_i r) : Int) else -1) ∧ CdM I m (r_C r) ∧ I m 20 = nI (r_v r) ∧ I m 23 = nI (r_P r).length ∧ PlM I m (r_P r) ∧ I m 24 = nI (r_o r)
/-- what reading leaves as it was -/
def PrF (m : Nat) (I : mI) (J : mJ) (I' : mI) (J' : mJ) : Prop := (∀ b, b ≠ m → b < m + 7 ∨ m + 10 < b → I' b = I b) ∧ (∀ k, k < 9 ∨ k = 12 ∨ k = 15 ∨ k = 16 ∨ k = 18 ∨ k = 19 ∨ k = 21 ∨ k = 22 ∨ 24 < k → I' m k = I m k) ∧ (∀ b, b ≠ m → J' b = J b) ∧ (∀ k, k ≠ 12 → J' m k = J m k)
section RDM
variable {tt : Nat → Nat} {N m : Nat} {r : RS} {I I' I'' : mI} {J J' J'' : mJ}
theorem PrF.rf : PrF m I J I J := ⟨fun _ _ _ => rfl, fun _ _ => rfl, fun _ _ => rfl, fun _ _ => rfl⟩
theorem PrF.tr (h : PrF m I J I' J') (h2 : PrF m I' J' I'' J'') : PrF m I J I'' J'' := ⟨fun b a c => (h2.1 b a c).trans (h.1 b a c), fun k a => (h2.2.1 k a).trans (h.2.1 k a), fun b a => (h2.2.2.1 b a).trans (h.2.2.1 b a), fun k a => (h2.2.2.2 k a).trans (h.2.2.2 k a)⟩
theorem NxF.pr (h : NxF m I J I' J') : PrF m I J I' J' := ⟨fun b a _ => h.1 b a, fun k a => h.2.1 k (by omega) (by omega) (by omega), h.2.2.1, h.2.2.2⟩
theorem PrF.up {a k : Nat} {v : Int32} (h : PrF m I J I' J') (hk : (a = m ∧ (k = 9 ∨ k = 10 ∨ k = 11 ∨ k = 13 ∨ k = 14 ∨ k = 17 ∨ k = 20 ∨ k = 23 ∨ k = 24)) ∨ (m + 7 ≤ a ∧ a ≤ m + 10)) : PrF m I J (up2 I' a k v) J' := ⟨fun b h1 h2 => by rw [up2_off (by omega)]; exact h.1 b h1 h2, fun j hj => by rw [up2_ne (by omega)]; exact h.2.1 j hj, h.2.2.1, h.2.2.2⟩
theorem PrF.tp (h : PrF m I J I' J') (hT : TpM tt N I m) : TpM tt N I' m := ⟨hT.1, hT.2.1, by rw [h.2.1 8 (by omega)]; exact hT.2.2.1, fun i hi => by rw [h.1 _ (by omega) (by omega)]; exact hT.2.2.2 i hi⟩
theorem PlM.congr : ∀ (P : Pl), PlM I m P → (∀ k, k < P.length → I' (m + 9) k = I (m + 9) k ∧ I' (m + 10) k = I (m + 10) k) → PlM I' m P
  | [], _, _ => trivial
  | q :: P, h, e => by
    obtain ⟨h1, h2⟩ := h
    have e0 := e P.length (by rw [List.length_cons]; omega)
    exact ⟨⟨e0.1.trans h1.1, e0.2.trans h1.2⟩, PlM.congr P h2 (fun k hk => e k (by rw [List.length_cons]; omega))⟩
theorem PlM.get : ∀ (P : Pl) (k : Nat), PlM I m P → k < P.length → ∃ A q B, P = A ++ q :: B ∧ B.length = k ∧ I (m + 9) k = nI q.1 ∧ I (m + 10) k = nI q.2
  | [], k, _, h => by cases h
  | q :: P, k, h, hk => by
    obtain ⟨h1, h2⟩ := h
    by_cases z : k = P.length
    · subst z; exact ⟨[], q, P, rfl, rfl, h1.1, h1.2⟩
    · obtain ⟨A, y, B, e1, e2, e3, e4⟩ := PlM.get P k h2 (by rw [List.length_cons] at hk; omega)
      exact ⟨q :: A, y, B, by rw [e1]; rfl, e2, e3, e4⟩
theorem RdM.nx (h : RdM tt N r I J m) (hb : r_b r = false) (f : NxF m I J I' J') (k : TkM tt N (r_i r + 1) I' J' m) : RdM tt N (r_i r + 1, r_b r, r_C r, r_v r, r_P r, r_o r) I' J' m := by
  obtain ⟨h1, h2, h3, ⟨h4, h5⟩, h6, h7, h8, h9⟩ := h
  have e : ∀ j, j ≠ 9 → j ≠ 10 → j ≠ 11 → I' m j = I m j := f.2.1
  refine ⟨k, by rw [e 14 (by decide) (by decide) (by decide)]; exact h2, ?_, ⟨by rw [e 17 (by decide) (by decide) (by decide)]; exact h4, fun j hj => by rw [f.1 _ (by omega), f.1 _ (by omega)]; exact h5 j hj⟩, by rw [e 20 (by decide) (by decide) (by decide)]; exact h6, by rw [e 23 (by decide) (by decide) (by decide)]; exact h7, PlM.congr _ h8 (fun j _ => ⟨by rw [f.1 _ (by omega)], by rw [f.1 _ (by omega)]⟩), by rw [e 24 (by decide) (by decide) (by decide)]; exact h9⟩
  rw [e 13 (by decide) (by decide) (by decide), h3, hb]
  rfl
theorem RdM.bad (h : RdM tt N r I J m) : RdM tt N (badR r) (up2 (up2 I m 14 1) m 13 (nI (frT tt N (r_i r)))) J m := by
  obtain ⟨⟨h0, h1, h2, h3⟩, h4, h5, ⟨h6, h7⟩, h8, h9, h10, h11⟩ := h
  refine ⟨⟨?_, ?_, ?_, h3⟩, ?_, ?_, ⟨?_, fun k hk => ?_⟩, ?_, ?_, PlM.congr _ h10 (fun k _ => ⟨by rw [up2_off (by omega), up2_off (by omega)], by rw [up2_off (by omega), up2_off (by omega)]⟩), ?_⟩
  · rw [up2_ne (by omega), up2_ne (by omega)]; exact h0
  · rw [up2_ne (by omega), up2_ne (by omega)]; exact h1
  · rw [up2_ne (by omega), up2_ne (by omega)]; exact h2
  · rw [up2_ne (by omega), up2_same]; rfl
  · rw [up2_same, ← iI_nat]; rfl
  · rw [up2_ne (by omega), up2_ne (by omega)]; exact h6
  · rw [up2_off (by omega), up2_off (by omega), up2_off (by omega), up2_off (by omega)]; exact h7 k hk
  · rw [up2_ne (by omega), up2_ne (by omega)]; exact h8
  · rw [up2_ne (by omega), up2_ne (by omega)]; exact h9
  · rw [up2_ne (by omega), up2_ne (by omega)]; exact h11
theorem RdM.em {op ar : Nat} (h : RdM tt N r I J m) : RdM tt N (r_i r, r_b r, emC (r_C r) (op, ar), r_v r, r_P r, r_o r) (up2 (up2 (up2 I (m + 7) (r_C r).1 (nI op)) (m + 8) (r_C r).1 (nI ar)) m 17 (nI ((r_C r).1 + 1))) J m := by
  obtain ⟨⟨h0, h1, h2, h3⟩, h4, h5, ⟨h6, h7⟩, h8, h9, h10, h11⟩ := h
  refine ⟨⟨?_, ?_, ?_, h3⟩, ?_, ?_, ⟨?_, fun k hk => ?_⟩, ?_, ?_, PlM.congr _ h10 (fun k _ => ⟨by rw [up2_off (by omega), up2_off (by omega), up2_off (by omega)], by rw [up2_off (by omega), up2_off (by omega), up2_off (by omega)]⟩), ?_⟩
  · rw [up2_ne (by omega), up2_ne (by omega), up2_ne (by omega)]; exact h0
  · rw [up2_ne (by omega), up2_ne (by omega), up2_ne (by omega)]; exact h1
  · rw [up2_ne (by omega), up2_ne (by omega), up2_ne (by omega)]; exact h2
  · rw [up2_ne (by omega), up2_ne (by omega), up2_ne (by omega)]; exact h4
  · rw [up2_ne (by omega), up2_ne (by omega), up2_ne (by omega)]; exact h5
  · rw [up2_same]; rfl
  · show _ = nI (upC (r_C r).2 (r_C r).1 (op, ar) k).1 ∧ _ = nI (upC (r_C r).2 (r_C r).1 (op, ar) k).2
    unfold upC
    have hk2 : k < (r_C r).1 + 1 := hk
    by_cases z : k = (r_C r).1
    · rw [if_pos z, z, up2_off (by omega), up2_off (by omega), up2_same, up2_off (by omega), up2_same]; exact ⟨rfl, rfl⟩
    · rw [if_neg z, up2_off (by omega), up2_off (by omega), up2_ne (by omega), up2_off (by omega), up2_ne (by omega), up2_off (by omega)]; exact h7 k (by omega)
  · rw [up2_ne (by omega), up2_ne (by omega), up2_ne (by omega)]; exact h8
  · rw [up2_ne (by omega), up2_ne (by omega), up2_ne (by omega)]; exact h9
  · rw [up2_ne (by omega), up2_ne (by omega), up2_ne (by omega)]; exact h11
theorem RdM.pu {op ar : Nat} (h : RdM tt N r I J m) : RdM tt N (r_i r, r_b r, r_C r, r_v r, (op, ar) :: r_P r, r_o r) (up2 (up2 (up2 I (m + 9) (r_P r).length (nI op)) (m + 10) (r_P r).length (nI ar)) m 23 (nI ((r_P r).length + 1))) J m := by
  obtain ⟨⟨h0, h1, h2, h3⟩, h4, h5, ⟨h6, h7⟩, h8, h9, h10, h11⟩ := h
  refine ⟨⟨?_, ?_, ?_, h3⟩, ?_, ?_, ⟨?_, fun k hk => ?_⟩, ?_, ?_, ⟨⟨?_, ?_⟩, PlM.congr _ h10 (fun k hk => ⟨?_, ?_⟩)⟩, ?_⟩
  · rw [up2_ne (by omega), up2_ne (by omega), up2_ne (by omega)]; exact h0
  · rw [up2_ne (by omega), up2_ne (by omega), up2_ne (by omega)]; exact h1
  · rw [up2_ne (by omega), up2_ne (by omega), up2_ne (by omega)]; exact h2
  · rw [up2_ne (by omega), up2_ne (by omega), up2_ne (by omega)]; exact h4
  · rw [up2_ne (by omega), up2_ne (by omega), up2_ne (by omega)]; exact h5
  · rw [up2_ne (by omega), up2_ne (by omega), up2_ne (by omega)]; exact h6
  · rw [up2_off (by omega), up2_off (by omega), up2_off (by omega), up2_off (by omega), up2_off (by omega), up2_off (by omega)]; exact h7 k hk
  · rw [up2_ne (by omega), up2_ne (by omega), up2_ne (by omega)]; exact h8
  · rw [up2_same]; rfl
  · rw [up2_off (by omega), up2_off (by omega), up2_same]
  · rw [up2_off (by omega), up2_same]
  · rw [up2_off (by omega), up2_off (by omega), up2_ne (by omega)]
  · rw [up2_off (by omega), up2_ne (by omega), up2_off (by omega)]
  · rw [up2_ne (by omega), up2_ne (by omega), up2_ne (by omega)]; exact h11
/-- a change of the pile's height, of the open brackets, of the leaves alone -/
theorem RdM.set {P : Pl} {v o : Nat} (h : RdM tt N r I J m) (hI : ∀ b, b ≠ m → I' b = I b) (hm : ∀ k, k ≠ 20 → k ≠ 23 → k ≠ 24 → I' m k = I m k) (h20 : I' m 20 = nI v) (h23 : I' m 23 = nI P.length) (h24 : I' m 24 = nI o) (hP : PlM I m P) : RdM tt N (r_i r, r_b r, r_C r, v, P, o) I' J m := by
  obtain ⟨⟨h0, h1, h2, h3⟩, h4, h5, ⟨h6, h7⟩, h8, h9, h10, h11⟩ := h
  exact ⟨⟨by rw [hm _ (by decide) (by decide) (by decide)]; exact h0, by rw [hm _ (by decide) (by decide) (by decide)]; exact h1, by rw [hm _ (by decide) (by decide) (by decide)]; exact h2, h3⟩, by rw [hm _ (by decide) (by decide) (by decide)]; exact h4, by rw [hm _ (by decide) (by decide) (by decide)]; exact h5, ⟨by rw [hm _ (by decide) (by decide) (by decide)]; exact h6, fun k hk => by rw [hI _ (by omega), hI _ (by omega)]; exact h7 k hk⟩, h20, h23, PlM.congr _ hP (fun k _ => ⟨by rw [hI _ (by omega)], by rw [hI _ (by omega)]⟩), h24⟩
/-- a step of settle: an aim -/
theorem RdM.aim {q : Nat × Nat} {P : Pl} (h : RdM tt N r I J m) (hr : r_P r = q :: P) (hq : q.2 < (r_C r).1) : RdM tt N (r_i r, r_b r, aimC (r_C r) q.2, r_v r, P, r_o r) (up2 (up2 I m 23 (nI P.length)) (m + 8) q.2 (nI (r_C r).1)) J m := by
  obtain ⟨⟨h0, h1, h2, h3⟩, h4, h5, ⟨h6, h7⟩, h8, h9, h10, h11⟩ := h
  rw [hr] at h10
  refine ⟨⟨?_, ?_, ?_, h3⟩, ?_, ?_, ⟨?_, fun k hk => ?_⟩, ?_, ?_, PlM.congr _ h10.2 (fun k _ => ⟨?_, ?_⟩), ?_⟩
  · rw [up2_ne (by omega), up2_ne (by omega)]; exact h0
  · rw [up2_ne (by omega), up2_ne (by omega)]; exact h1
  · rw [up2_ne (by omega), up2_ne (by omega)]; exact h2
  · rw [up2_ne (by omega), up2_ne (by omega)]; exact h4
  · rw [up2_ne (by omega), up2_ne (by omega)]; exact h5
  · rw [up2_ne (by omega), up2_ne (by omega)]; exact h6
  · show _ = nI (upC (r_C r).2 q.2 _ k).1 ∧ _ = nI (upC (r_C r).2 q.2 _ k).2
    unfold upC
    by_cases z : k = q.2
    · rw [if_pos z, z, up2_off (by omega), up2_off (by omega), up2_same]; exact ⟨(h7 _ hq).1, rfl⟩
    · rw [if_neg z, up2_off (by omega), up2_off (by omega), up2_ne (by omega), up2_off (by omega)]; exact h7 k hk
  · rw [up2_ne (by omega), up2_ne (by omega)]; exact h8
  · rw [up2_ne (by omega), up2_same]
  · rw [up2_off (by omega), up2_off (by omega)]
  · rw [up2_off (by omega), up2_off (by omega)]
  · rw [up2_ne (by omega), up2_ne (by omega)]; exact h11
end RDM
theorem wcd_bd : ∀ l : List Nat, (∀ x ∈ l, x ≤ 255) → wcd l + 8 ≤ 8 * 32 ^ l.length
  | [], _ => by decide
  | x :: l, h => by
    have h1 := wcd_bd l (fun z hz => h z (List.mem_cons_of_mem _ hz))
    have h2 := h x List.mem_cons_self
    rw [wcd, List.length_cons, Nat.pow_succ]
    omega
theorem wrtT_bd {t : Nat → Nat} {n i : Nat} (ht : ∀ i, t i ≤ 255) : -1 ≤ wrtT t n i ∧ wrtT t n i ≤ 2 ^ 53 := by
  unfold wrtT
  split
  · omega
  · split
    · split
      · rename_i h1 h2 h3
        have h4 := wcd_bd (wlr t (frT t n i) (posT t n (i + 1) - frT t n i)) (fun x hx => by obtain ⟨j, -, e⟩ := wlr_mem _ hx; have := ht (frT t n i + j); omega)
        rw [wlr_len] at h4
        have h5 : 32 ^ (posT t n (i + 1) - frT t n i) ≤ 32 ^ 10 := Nat.pow_le_pow_right (by decide) h3
        omega
      · omega
    · split
      · have := dvR_le (t := t) (f := frT t n i) ht (posT t n (i + 1) - frT t n i)
        omega
      · have := ht (frT t n i)
        omega
