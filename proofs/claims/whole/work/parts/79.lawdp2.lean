section GOT
variable {kd : Nat → Int} {nm : Nat → Nat}
theorem RealRT.ext {C D : Cd} {a : Nat} {v : TV} (h : RealRT (cI C.2) a C.1 v) (e : Ext C D) : RealRT (cI D.2) a C.1 v := RealR.ext h e
/-- the reading of a test, from a state with pile P, comes behind it with some pending steps on the pile; or is bad where the descent is -/
def TstC (kd : Nat → Int) (nm : Nat → Nat) (E k L : Nat) (stop : Int → Prop) (pl : Nat → Nat → PT) : Prop := ∀ (i lv : Nat) (C : Cd) (P : Pl) (o : Nat), i ≤ E → o + k = 8 → topB P < L → inr P ≠ 31 →
  (∀ j q v, pl i lv = (j, q, some v) → ∃ (C1 C' : Cd) (X : Pl), i < j ∧ j ≤ E ∧ Go kd nm true (0, (i, false, C, lv, P, o)) (2, (j, false, C1, q, X ++ P, o)) ∧ (∀ z ∈ X, z.1 < 30) ∧ stl L (X ++ P) C1 = (P, C') ∧ Ext C C' ∧ RealRT (cI C'.2) C.1 C'.1 v ∧ stop (kd j)) ∧
  (∀ j q, pl i lv = (j, q, none) → ∃ (t : Nat) (C' : Cd) (q' : Nat) (P' : Pl) (o' : Nat), i ≤ j ∧ j ≤ E ∧ Go kd nm true (0, (i, false, C, lv, P, o)) (t, (j, true, C', q', P', o')))
/-- a comparison, from a place that is neither 'not' nor a round bracket -/
theorem TstC.comp {E k : Nat} {sm : Nat → Nat → PS} (hE : EndT kd E) (hsm : SumC kd nm E k 5 (fun x => (True ∧ mulOp x = 0) ∧ addOp x = 0) sm) (i lv : Nat) (C : Cd) (P : Pl) (o : Nat) (hi : i ≤ E) (ho : o + k = 8) (hP : topB P < 4) (hin : inr P ≠ 31) (h1 : kd i ≠ 261) (h2 : kd i ≠ 40) :
  (∀ j q v, dComp kd sm i lv = (j, q, some v) → ∃ (C1 C' : Cd) (X : Pl), i < j ∧ j ≤ E ∧ Go kd nm true (0, (i, false, C, lv, P, o)) (2, (j, false, C1, q, X ++ P, o)) ∧ (∀ z ∈ X, z.1 < 30) ∧ stl 4 (X ++ P) C1 = (P, C') ∧ Ext C C' ∧ RealRT (cI C'.2) C.1 C'.1 v) ∧
  (∀ j q, dComp kd sm i lv = (j, q, none) → ∃ (t : Nat) (C' : Cd) (q' : Nat) (P' : Pl) (o' : Nat), i ≤ j ∧ j ≤ E ∧ Go kd nm true (0, (i, false, C, lv, P, o)) (t, (j, true, C', q', P', o'))) := by
  obtain ⟨hy, hn⟩ := hsm true 0 i lv C P o (Or.inr ⟨rfl, h1, h2⟩) hi ho (by omega)
  have hcp : cpd P = false := by
    cases P with
    | nil => rfl
    | cons z P =>
      rw [cpd]
      have hz : bnd z.1 < 4 := hP
      by_cases a : 19 ≤ z.1 ∧ z.1 ≤ 23
      · exfalso
        unfold bnd at hz
        rw [if_neg (by omega), if_neg (by omega), if_neg (by omega), if_neg (by omega), if_neg (by omega)] at hz
        split at hz <;> omega
      · rw [if_neg a]
        refine decide_eq_false (fun b => ?_)
        rw [bnd_cmp b] at hz
        omega
  unfold dComp
  cases hp : sm i lv with
  | mk j0 r0 =>
    obtain ⟨q0, w0⟩ := r0
    cases w0 with
    | none =>
      refine ⟨fun j q v' e => (by cases e), fun j q e => ?_⟩
      cases e
      exact hn j0 q0 hp
    | some w =>
      obtain ⟨C2, C', X2, g1, g2, g3, g4, g5, g6, g7, ⟨-, g8⟩, g9⟩ := hy j0 q0 w hp
      have hinr : inr (X2 ++ P) = inr P := inr_app (fun z hz => by have := g4 z hz; omega)
      have hst : stA kd nm true 3 (j0, false, C2, q0, X2 ++ P, o) = (1, if cmpOp (kd j0) ≠ 0 then (j0 + 1, false, C', q0, (cmpOp (kd j0), 0) :: P, o) else (j0, true, C2, q0, X2 ++ P, o)) := by
        rw [stA, if_neg (by decide), if_neg (by decide), if_pos rfl, fSum]
        simp only [r_i, r_P, r_C, r_v, r_o]
        rw [if_neg (by rw [aop_no g9 g8]; decide), hinr, if_neg hin, if_neg (by simp), cpd_app g4, if_neg (by rw [hcp]; decide), g5]
        rfl
      by_cases hc : cmpOp (kd j0) = 0
      · rw [if_neg (fun z => z hc)] at hst
        refine ⟨fun j q v' e => ?_, fun j q e => ?_⟩
        · simp only [] at e
          rw [if_pos hc] at e
          cases e
        · simp only [] at e
          rw [if_pos hc] at e
          cases e
          exact ⟨1, C2, q0, _, _, by omega, g2, g3.tr (Go.st rfl (by decide) (by rw [hst]; exact Go.rf))⟩
      · rw [if_pos hc] at hst
        obtain ⟨b1, b2, b3⟩ := cmpOp_bd hc
        have hj1 := nxt hE g2 b3
        obtain ⟨hy2, hn2⟩ := hsm true 1 (j0 + 1) q0 C' ((cmpOp (kd j0), 0) :: P) o (Or.inl rfl) hj1 ho (by show bnd (cmpOp (kd j0)) < 5; rw [bnd_cmp ⟨b1, b2⟩]; decide)
        have hgo := g3.tr (Go.st rfl (by decide) (by rw [hst]; exact Go.rf))
        cases hp2 : sm (j0 + 1) q0 with
        | mk j1 r1 =>
          obtain ⟨q1, w1⟩ := r1
          cases w1 with
          | none =>
            refine ⟨fun j q v' e => ?_, fun j q e => ?_⟩
            · simp only [] at e
              rw [if_neg hc, hp2] at e
              cases e
            · simp only [] at e
              rw [if_neg hc, hp2] at e
              cases e
              obtain ⟨t, C4, q', P', o', k1, k2, k3⟩ := hn2 j1 q1 hp2
              exact ⟨t, C4, q', P', o', by omega, k2, hgo.tr k3⟩
          | some w1 =>
            obtain ⟨C3, C4, X3, k1, k2, k3, k4, k5, k6, k7, ⟨-, k8⟩, k9⟩ := hy2 j1 q1 w1 hp2
            have hinr2 : inr (X3 ++ (cmpOp (kd j0), 0) :: P) = inr P := by
              rw [inr_app (fun z hz => by have := k4 z hz; omega), inr, if_neg (by show ¬ 30 ≤ cmpOp (kd j0); omega)]
            have hcp2 : cpd (X3 ++ (cmpOp (kd j0), 0) :: P) = true := by
              rw [cpd_app k4]
              show (if 19 ≤ cmpOp (kd j0) ∧ cmpOp (kd j0) ≤ 23 then cpd P else decide (24 ≤ cmpOp (kd j0) ∧ cmpOp (kd j0) ≤ 26)) = true
              rw [if_neg (by omega)]
              exact decide_eq_true ⟨b1, b2⟩
            have hst2 : stA kd nm true 3 (j1, false, C3, q1, X3 ++ (cmpOp (kd j0), 0) :: P, o) = (2, (j1, false, C3, q1, X3 ++ (cmpOp (kd j0), 0) :: P, o)) := by
              rw [stA, if_neg (by decide), if_neg (by decide), if_pos rfl, fSum]
              simp only [r_i, r_P, r_C, r_v, r_o]
              rw [if_neg (by rw [aop_no k9 k8]; decide), hinr2, if_neg hin, if_neg (by simp), if_pos hcp2]
            refine ⟨fun j q v' e => ?_, fun j q e => ?_⟩
            · simp only [] at e
              rw [if_neg hc, hp2] at e
              cases e
              refine ⟨C3, emC C4 (cmpOp (kd j0), 0), X3 ++ [(cmpOp (kd j0), 0)], by omega, k2, ?_, ?_, ?_, (g6.tr k6).tr Ext.em, ?_⟩
              · rw [List.append_assoc, List.singleton_append]
                exact (hgo.tr k3).tr (Go.st rfl (by decide) (by rw [hst2]; exact Go.rf))
              · intro z hz
                rcases List.mem_append.mp hz with hz | hz
                · have := k4 z hz; omega
                · rw [List.mem_singleton.mp hz]; show cmpOp (kd j0) < 30; omega
              · rw [List.append_assoc, List.singleton_append, stl_via (show 4 ≤ 5 by decide) k5, stl, if_pos (by show 4 ≤ bnd (cmpOp (kd j0)); rw [bnd_cmp ⟨b1, b2⟩]; decide), if_neg (by show ¬ (cmpOp (kd j0) = 28 ∨ cmpOp (kd j0) = 29); omega)]
                exact stl_stop hP
              · exact R_cmp (z0 := 0) ((g7.ext k6).ext (C := (C'.1, C4.2)) (D := (C'.1, (emC C4 (cmpOp (kd j0), 0)).2)) ⟨Nat.le_refl _, fun z hz => Ext.em.2 z (Nat.lt_of_lt_of_le hz k6.1)⟩) (k7.ext Ext.em) g6.1 k6.1 ⟨b1, b2⟩ (cI_eq emC_at)
            · simp only [] at e
              rw [if_neg hc, hp2] at e
              cases e
theorem nots_go {E : Nat} (hE : EndT kd E) : ∀ (f i lv : Nat) (C : Cd) (P : Pl) (o : Nat), i ≤ E → E ≤ i + f → (dNots kd f i).2 ≤ E ∧ i ≤ (dNots kd f i).2 ∧ kd (dNots kd f i).2 ≠ 261 ∧ Go kd nm true (0, (i, false, C, lv, P, o)) (0, ((dNots kd f i).2, false, C, lv, List.replicate (dNots kd f i).1 (27, 0) ++ P, o)) := by
  intro f
  induction f with
  | zero =>
    intro i lv C P o h1 h2
    obtain rfl : i = E := by omega
    refine ⟨Nat.le_refl _, Nat.le_refl _, ?_, Go.rf⟩
    show kd i ≠ 261
    rw [hE.2.1]; decide
  | succ f ih =>
    intro i lv C P o h1 h2
    rw [dNots]
    by_cases h : kd i = 261
    · rw [if_pos h]
      have hi1 := nxt hE h1 (by rw [h]; decide)
      obtain ⟨g1, g2, g3, g4⟩ := ih (i + 1) lv C ((27, 0) :: P) o hi1 (by omega)
      refine ⟨g1, by show i ≤ (dNots kd f (i + 1)).2; omega, g3, Go.st rfl (by decide) ?_⟩
      have hst : stA kd nm true 0 (i, false, C, lv, P, o) = (0, (i + 1, false, C, lv, (27, 0) :: P, o)) := by
        rw [stA, if_pos rfl, fPlain, if_pos h]
      rw [hst]
      have e : List.replicate ((dNots kd f (i + 1)).1 + 1) ((27, 0) : Nat × Nat) ++ P = List.replicate (dNots kd f (i + 1)).1 (27, 0) ++ (27, 0) :: P := by
        rw [List.replicate_succ', List.append_assoc]; rfl
      show Go kd nm true _ (0, ((dNots kd f (i + 1)).2, false, C, lv, List.replicate ((dNots kd f (i + 1)).1 + 1) (27, 0) ++ P, o))
      rw [e]
      exact g4
    · rw [if_neg h]
      exact ⟨h1, Nat.le_refl _, h, Go.rf⟩
def emN : Nat → Cd → Cd
  | 0, C => C
  | n + 1, C => emN n (emC C (27, 0))
theorem stl_nots {P : Pl} (hP : topB P < 3) : ∀ (n : Nat) (C : Cd), stl 3 (List.replicate n (27, 0) ++ P) C = (P, emN n C)
  | 0, C => stl_stop hP
  | n + 1, C => by
    rw [List.replicate_succ, List.cons_append, stl, if_pos (by decide), if_neg (by decide)]
    exact stl_nots hP n _
theorem tvNot_not (t : TV) : tvNot (tvNot t) = t := by
  funext e
  unfold tvNot
  cases t e with
  | none => rfl
  | some b => cases b <;> rfl
theorem notN_s (n : Nat) (t : TV) : notN n (tvNot t) = notN (n + 1) t := by
  unfold notN
  by_cases h : n % 2 = 1
  · rw [if_pos h, if_neg (by omega), tvNot_not]
  · rw [if_neg h, if_pos (by omega)]
theorem emN_tells {a : Nat} : ∀ (n : Nat) (C : Cd) (t : TV), a ≤ C.1 → RealRT (cI C.2) a C.1 t → Ext C (emN n C) ∧ RealRT (cI (emN n C).2) a (emN n C).1 (notN n t)
  | 0, C, t, _, h => ⟨Ext.rf, h⟩
  | n + 1, C, t, ha, h => by
    obtain ⟨h1, h2⟩ := emN_tells n (emC C (27, 0)) (tvNot t) (by show a ≤ C.1 + 1; omega) (R_not (z0 := 0) (h.ext Ext.em) ha (cI_eq emC_at))
    rw [notN_s] at h2
    exact ⟨Ext.em.tr h1, h2⟩
theorem topB_nots {P : Pl} {n : Nat} (hP : topB P < 3) : topB (List.replicate n (27, 0) ++ P) < 4 := by
  cases n with
  | zero => show topB P < 4; omega
  | succ n => show bnd 27 < 4; decide
theorem inr_nots {P : Pl} {n : Nat} : inr (List.replicate n (27, 0) ++ P) = inr P := inr_app (fun z hz => by rw [(List.mem_replicate.mp hz).2]; decide)
theorem TstC.plain {E k : Nat} {sm : Nat → Nat → PS} {ts : Nat → Nat → PT} (hE : EndT kd E) (hsm : SumC kd nm E k 5 (fun x => (True ∧ mulOp x = 0) ∧ addOp x = 0) sm) (hts : k = 0 ∨ TstC kd nm E (k - 1) 1 (fun x => (True ∧ x ≠ 260) ∧ x ≠ 259) ts) : TstC kd nm E k 3 (fun _ => True) (dPlain kd sm ts k) := by
  intro i lv C P o hi ho hP hin
  obtain ⟨n1, n2, n3, n4⟩ := nots_go (nm := nm) hE 400 i lv C P o hi (by have := hE.1; omega)
  unfold dPlain
  generalize (dNots kd 400 i).2 = j0 at n1 n2 n3 n4 ⊢
  generalize (dNots kd 400 i).1 = N at n4 ⊢
  by_cases hb : kd j0 = 40
  · rw [if_pos hb]
    have hj1 := nxt hE n1 (by rw [hb]; decide)
    have hst : stA kd nm true 0 (j0, false, C, lv, List.replicate N (27, 0) ++ P, o) = (0, fOpen kd 30 (j0, false, C, lv, List.replicate N (27, 0) ++ P, o)) := by
      rw [stA, if_pos rfl, fPlain]
      simp only [r_i]
      rw [if_neg n3, if_pos hb]
    by_cases hk : k = 0
    · rw [if_pos hk]
      refine ⟨fun j q v' e => (by cases e), fun j q e => ?_⟩
      cases e
      rw [fOpen, if_neg (by simp only [r_o]; omega)] at hst
      exact ⟨0, C, lv, _, o, n2, n1, n4.tr (Go.st rfl (by decide) (by rw [hst]; exact Go.rf))⟩
    · rw [if_neg hk]
      rw [fOpen, if_pos (by simp only [r_o]; omega)] at hst
      have hts2 := hts.resolve_left hk
      obtain ⟨hy, hn⟩ := hts2 (j0 + 1) lv C ((30, 0) :: (List.replicate N (27, 0) ++ P)) (o + 1) hj1 (by omega) (by show bnd 30 < 1; decide) (by show (if 30 ≤ 30 then 30 else _) ≠ 31; rw [if_pos (by decide)]; decide)
      have hgo := n4.tr (Go.st rfl (by decide) (by rw [hst]; exact Go.rf))
      cases hp : ts (j0 + 1) lv with
      | mk j1 r1 =>
        obtain ⟨q1, w1⟩ := r1
        cases w1 with
        | none =>
          refine ⟨fun j q v' e => (by cases e), fun j q e => ?_⟩
          cases e
          obtain ⟨t, C', q', P', o', g1, g2, g3⟩ := hn j1 q1 hp
          exact ⟨t, C', q', P', o', by omega, g2, hgo.tr g3⟩
        | some w =>
          obtain ⟨C2, C', X2, g1, g2, g3, g4, g5, g6, g7, ⟨-, g8⟩, g9⟩ := hy j1 q1 w hp
          have hinr : inr (X2 ++ (30, 0) :: (List.replicate N (27, 0) ++ P)) = 30 := by rw [inr_app g4, inr, if_pos (by decide)]
          have hst2 : stA kd nm true 2 (j1, false, C2, q1, X2 ++ (30, 0) :: (List.replicate N (27, 0) ++ P), o + 1) = (2, if kd j1 = 41 then (j1 + 1, false, C', q1, List.replicate N (27, 0) ++ P, o) else (j1, true, C2, q1, X2 ++ (30, 0) :: (List.replicate N (27, 0) ++ P), o + 1)) := by
            rw [stA, if_neg (by decide), if_neg (by decide), if_neg (by decide), fTest]
            simp only [r_i, r_P, r_C, r_v, r_o]
            rw [if_neg g8, if_neg g9, hinr, if_neg (by decide), g5]
            rfl
          by_cases hj : kd j1 = 41
          · rw [if_pos hj] at hst2
            refine ⟨fun j q v' e => ?_, fun j q e => ?_⟩
            · simp only [] at e
              rw [if_pos hj] at e
              cases e
              obtain ⟨e1, e2⟩ := emN_tells N C' w g6.1 g7
              refine ⟨C', emN N C', List.replicate N (27, 0), by omega, nxt hE g2 (by rw [hj]; decide), (hgo.tr g3).tr (Go.st rfl (by decide) (by rw [hst2]; exact Go.rf)), fun z hz => (by rw [(List.mem_replicate.mp hz).2]; decide), stl_nots hP N C', g6.tr e1, e2, trivial⟩
            · simp only [] at e
              rw [if_pos hj] at e
              cases e
          · rw [if_neg hj] at hst2
            refine ⟨fun j q v' e => ?_, fun j q e => ?_⟩
            · simp only [] at e
              rw [if_neg hj] at e
              cases e
            · simp only [] at e
              rw [if_neg hj] at e
              cases e
              exact ⟨2, C2, q1, _, _, by omega, g2, (hgo.tr g3).tr (Go.st rfl (by decide) (by rw [hst2]; exact Go.rf))⟩
  · rw [if_neg hb]
    obtain ⟨hy, hn⟩ := TstC.comp hE hsm j0 lv C (List.replicate N (27, 0) ++ P) o n1 ho (topB_nots hP) (by rw [inr_nots]; exact hin) n3 hb
    cases hp : dComp kd sm j0 lv with
    | mk j1 r1 =>
      obtain ⟨q1, w1⟩ := r1
      cases w1 with
      | none =>
        refine ⟨fun j q v' e => (by cases e), fun j q e => ?_⟩
        cases e
        obtain ⟨t, C', q', P', o', g1, g2, g3⟩ := hn j1 q1 hp
        exact ⟨t, C', q', P', o', by omega, g2, n4.tr g3⟩
      | some w =>
        refine ⟨fun j q v' e => ?_, fun j q e => by cases e⟩
        cases e
        obtain ⟨C2, C', X2, g1, g2, g3, g4, g5, g6, g7⟩ := hy j1 q1 w hp
        obtain ⟨e1, e2⟩ := emN_tells N C' w g6.1 g7
        refine ⟨C2, emN N C', X2 ++ List.replicate N (27, 0), by omega, g2, ?_, ?_, ?_, g6.tr e1, e2, trivial⟩
        · rw [List.append_assoc]
          exact n4.tr g3
        · intro z hz
          rcases List.mem_append.mp hz with hz | hz
          · exact g4 z hz
          · rw [(List.mem_replicate.mp hz).2]; decide
        · rw [List.append_assoc, stl_via (show 3 ≤ 4 by decide) g5]
          exact stl_nots hP N C'
theorem aimC_ext {C D : Cd} {k : Nat} (h : Ext C D) (hk : C.1 ≤ k) : Ext C (aimC D k) := ⟨h.1, fun j hj => by
  show upC D.2 k _ j = _
  rw [upC, if_neg (by omega)]
  exact h.2 j hj⟩
/-- a chain of 'and', of 'or' -/
theorem TstC.loop {E k L op : Nat} {w : Int} {cb : TV → TV → TV} {stop : Int → Prop} {pl : Nat → Nat → PT} (hE : EndT kd E) (hop : (L = 2 ∧ op = 28 ∧ w = 260 ∧ cb = tvAnd) ∨ (L = 1 ∧ op = 29 ∧ w = 259 ∧ cb = tvOr)) (h : TstC kd nm E k (L + 1) stop pl) : ∀ (f i lv : Nat) (v : TV) (C0 C1 C : Cd) (X P : Pl) (o : Nat), i ≤ E → 400 < i + f → o + k = 8 → topB P < L → inr P ≠ 31 → (∀ z ∈ X, z.1 < 30) → stl L (X ++ P) C1 = (P, C) → Ext C0 C → RealRT (cI C.2) C0.1 C.1 v → stop (kd i) →
  (∀ j q v', dTLoop kd w cb pl f i lv v = (j, q, some v') → ∃ (C2 C' : Cd) (X' : Pl), i ≤ j ∧ j ≤ E ∧ Go kd nm true (2, (i, false, C1, lv, X ++ P, o)) (2, (j, false, C2, q, X' ++ P, o)) ∧ (∀ z ∈ X', z.1 < 30) ∧ stl L (X' ++ P) C2 = (P, C') ∧ Ext C0 C' ∧ RealRT (cI C'.2) C0.1 C'.1 v' ∧ stop (kd j) ∧ kd j ≠ w) ∧
  (∀ j q, dTLoop kd w cb pl f i lv v = (j, q, none) → ∃ (t : Nat) (C' : Cd) (q' : Nat) (P' : Pl) (o' : Nat), i ≤ j ∧ j ≤ E ∧ Go kd nm true (2, (i, false, C1, lv, X ++ P, o)) (t, (j, true, C', q', P', o'))) := by
  intro f
  induction f with
  | zero =>
    intro i lv v C0 C1 C X P o hi hf
    have := hE.1
    omega
  | succ f ih =>
    intro i lv v C0 C1 C X P o hi hf ho hP hin hX hs he hv hst
    rw [dTLoop]
    by_cases h0 : kd i = w
    · rw [if_pos h0]
      have hi1 := nxt hE hi (by rw [h0]; rcases hop with ⟨-, -, e, -⟩ | ⟨-, -, e, -⟩ <;> (rw [e]; decide))
      have hstep : stA kd nm true 2 (i, false, C1, lv, X ++ P, o) = (0, (i + 1, false, emC C (op, 0), lv, (op, C.1) :: P, o)) := by
        rw [stA, if_neg (by decide), if_neg (by decide), if_neg (by decide), fTest]
        simp only [r_i, r_P, r_C, r_v, r_o]
        rcases hop with ⟨rfl, rfl, rfl, -⟩ | ⟨rfl, rfl, rfl, -⟩
        · rw [if_pos h0, hs]
        · rw [if_neg (by rw [h0]; decide), if_pos h0, hs]
      have hob : bnd op = L := by rcases hop with ⟨rfl, rfl, -, -⟩ | ⟨rfl, rfl, -, -⟩ <;> rfl
      have ho30 : op < 30 := by rcases hop with ⟨-, rfl, -, -⟩ | ⟨-, rfl, -, -⟩ <;> decide
      have ho28 : op = 28 ∨ op = 29 := by rcases hop with ⟨-, rfl, -, -⟩ | ⟨-, rfl, -, -⟩ <;> decide
      obtain ⟨hy, hn⟩ := h (i + 1) lv (emC C (op, 0)) ((op, C.1) :: P) o hi1 ho (by show bnd op < L + 1; omega) (by rw [inr, if_neg (by show ¬ 30 ≤ op; omega)]; exact hin)
      cases hp : pl (i + 1) lv with
      | mk j0 r0 =>
        obtain ⟨q0, w0⟩ := r0
        cases w0 with
        | none =>
          refine ⟨fun j q v' e => (by cases e), fun j q e => ?_⟩
          cases e
          obtain ⟨t, C', q', P', o', g1, g2, g3⟩ := hn j0 q0 hp
          exact ⟨t, C', q', P', o', by omega, g2, Go.st rfl (by decide) (by rw [hstep]; exact g3)⟩
        | some u =>
          obtain ⟨C2, C', X2, g1, g2, g3, g4, g5, g6, g7, g8⟩ := hy j0 q0 u hp
          have hlt : C.1 < C'.1 := g6.1
          have hX2 : ∀ z ∈ X2 ++ [(op, C.1)], z.1 < 30 := by
            intro z hz
            rcases List.mem_append.mp hz with hz | hz
            · exact g4 z hz
            · rw [List.mem_singleton.mp hz]; exact ho30
          have hs2 : stl L ((X2 ++ [(op, C.1)]) ++ P) C2 = (P, aimC C' C.1) := by
            rw [List.append_assoc, List.singleton_append, stl_via (Nat.le_succ L) g5, stl, if_pos (by show L ≤ bnd op; omega), if_pos ho28]
            exact stl_stop hP
          have hat : C'.2 C.1 = (op, 0) := by rw [g6.2 C.1 (Nat.lt_succ_self _)]; exact emC_at
          have hat2 : cI (aimC C' C.1).2 C.1 = ((op : Int), ((C'.1 : Nat) : Int)) := cI_eq (by show upC C'.2 C.1 _ C.1 = _; rw [upC, if_pos rfl, hat])
          have hC : Ext C (aimC C' C.1) := aimC_ext (Ext.em.tr g6) (Nat.le_refl _)
          have hu : RealRT (cI (aimC C' C.1).2) (C.1 + 1) C'.1 u := RealR.congr g7 (fun z z1 z2 => by
            have z3 : C.1 + 1 ≤ z := z1
            unfold cI; show (((upC C'.2 C.1 _ z).1 : Int), ((upC C'.2 C.1 _ z).2 : Int)) = _; rw [upC, if_neg (by omega)])
          have hv2 : RealRT (cI (aimC C' C.1).2) C0.1 (aimC C' C.1).1 (cb v u) := by
            rcases hop with ⟨-, rfl, -, rfl⟩ | ⟨-, rfl, -, rfl⟩
            · exact R_and (hv.ext hC) hu he.1 hlt hat2
            · exact R_or (hv.ext hC) hu he.1 hlt hat2
          obtain ⟨iy, inn⟩ := ih j0 q0 (cb v u) C0 C2 (aimC C' C.1) (X2 ++ [(op, C.1)]) P o g2 (by omega) ho hP hin hX2 hs2 (he.tr hC) hv2 g8
          have hgo : Go kd nm true (2, (i, false, C1, lv, X ++ P, o)) (2, (j0, false, C2, q0, (X2 ++ [(op, C.1)]) ++ P, o)) := Go.st rfl (by decide) (by rw [hstep, List.append_assoc, List.singleton_append]; exact g3)
          refine ⟨fun j q v' e => ?_, fun j q e => ?_⟩
          · obtain ⟨C3, C4, X3, k1, k2, k3, k4, k5, k6, k7, k8, k9⟩ := iy j q v' e
            exact ⟨C3, C4, X3, by omega, k2, hgo.tr k3, k4, k5, k6, k7, k8, k9⟩
          · obtain ⟨t, C4, q', P', o', k1, k2, k3⟩ := inn j q e
            exact ⟨t, C4, q', P', o', by omega, k2, hgo.tr k3⟩
    · rw [if_neg h0]
      refine ⟨fun j q v' e => ?_, fun j q e => by cases e⟩
      cases e
      exact ⟨C1, C, X, Nat.le_refl _, hi, Go.rf, hX, hs, he, hv, hst, h0⟩
theorem TstC.chain {E k L op : Nat} {w : Int} {cb : TV → TV → TV} {stop : Int → Prop} {pl : Nat → Nat → PT} (hE : EndT kd E) (hop : (L = 2 ∧ op = 28 ∧ w = 260 ∧ cb = tvAnd) ∨ (L = 1 ∧ op = 29 ∧ w = 259 ∧ cb = tvOr)) (h : TstC kd nm E k (L + 1) stop pl) : TstC kd nm E k L (fun x => stop x ∧ x ≠ w) (dTChain kd w cb pl) := by
  intro i lv C P o hi ho hP hin
  obtain ⟨hy, hn⟩ := h i lv C P o hi ho (by omega) hin
  unfold dTChain
  cases hp : pl i lv with
  | mk j0 r0 =>
    obtain ⟨q0, w0⟩ := r0
    cases w0 with
    | none =>
      refine ⟨fun j q v' e => (by cases e), fun j q e => ?_⟩
      cases e
      exact hn j0 q0 hp
    | some u =>
      obtain ⟨C2, C', X2, g1, g2, g3, g4, g5, g6, g7, g8⟩ := hy j0 q0 u hp
      have g5' : stl L (X2 ++ P) C2 = (P, C') := by rw [stl_via (Nat.le_succ L) g5]; exact stl_stop hP
      obtain ⟨iy, inn⟩ := TstC.loop hE hop h 400 j0 q0 u C C2 C' X2 P o g2 (by omega) ho hP hin g4 g5' g6 g7 g8
      refine ⟨fun j q v' e => ?_, fun j q e => ?_⟩
      · obtain ⟨C3, C4, X3, k1, k2, k3, k4, k5, k6, k7, k8, k9⟩ := iy j q v' e
        exact ⟨C3, C4, X3, by omega, k2, g3.tr k3, k4, k5, k6, k7, k8, k9⟩
      · obtain ⟨t, C4, q', P', o', k1, k2, k3⟩ := inn j q e
        exact ⟨t, C4, q', P', o', by omega, k2, g3.tr k3⟩
theorem TstC.all {E : Nat} (hE : EndT kd E) (hk5 : ∀ i, kd i ≤ 305) : ∀ k, TstC kd nm E k 1 (fun x => (True ∧ x ≠ 260) ∧ x ≠ 259) (testAt kd nm k)
  | 0 => TstC.chain (op := 29) hE (Or.inr ⟨rfl, rfl, rfl, rfl⟩) (TstC.chain (op := 28) hE (Or.inl ⟨rfl, rfl, rfl, rfl⟩) (TstC.plain hE (SumC.all hE hk5 0) (Or.inl rfl)))
  | k + 1 => TstC.chain (op := 29) hE (Or.inr ⟨rfl, rfl, rfl, rfl⟩) (TstC.chain (op := 28) hE (Or.inl ⟨rfl, rfl, rfl, rfl⟩) (TstC.plain hE (SumC.all hE hk5 (k + 1)) (Or.inr (TstC.all hE hk5 k))))
/-- a whole sum of a clause -/
theorem exprS {E : Nat} (hE : EndT kd E) (hk5 : ∀ i, kd i ≤ 305) {i lv : Nat} {C : Cd} (hi : i ≤ E) :
  (∀ j q v, sumAt kd nm 8 i lv = (j, q, some v) → ∃ (C1 C' : Cd) (X : Pl), i < j ∧ j ≤ E ∧ Go kd nm false (1, (i, false, C, lv, [], 0)) (4, (j, false, C1, q, X, 0)) ∧ stl 1 X C1 = ([], C') ∧ Ext C C' ∧ RealR (cI C'.2) C.1 C'.1 v) ∧
  (∀ j q, sumAt kd nm 8 i lv = (j, q, none) → ∃ (t : Nat) (C' : Cd) (q' : Nat) (P' : Pl) (o' : Nat), i ≤ j ∧ j ≤ E ∧ Go kd nm false (1, (i, false, C, lv, [], 0)) (t, (j, true, C', q', P', o'))) := by
  obtain ⟨hy, hn⟩ := SumC.all (nm := nm) hE hk5 8 false 1 i lv C [] 0 (Or.inl rfl) hi rfl (by show 0 < 5; decide)
  refine ⟨fun j q v e => ?_, hn⟩
  obtain ⟨C1, C', X, g1, g2, g3, g4, g5, g6, g7, ⟨-, g8⟩, g9⟩ := hy j q v e
  rw [List.append_nil] at g3 g5
  refine ⟨C1, C', X, g1, g2, g3.tr (Go.st rfl (by decide) ?_), ?_, g6, g7⟩
  · have hst : stA kd nm false 3 (j, false, C1, q, X, 0) = (4, (j, false, C1, q, X, 0)) := by
      rw [stA, if_neg (by decide), if_neg (by decide), if_pos rfl, fSum]
      simp only [r_i, r_P, r_C, r_v, r_o]
      have hinr : inr X = 0 := by
        have := inr_app (X := X) (P := []) (fun z hz => by have := g4 z hz; omega)
        rw [List.append_nil] at this
        exact this
      rw [if_neg (by rw [aop_no g9 g8]; decide), hinr, if_neg (by decide), if_pos (by simp)]
    rw [hst]
    exact Go.rf
  · rw [stl_via (show 1 ≤ 5 by decide) g5]; rfl
theorem exprT {E : Nat} (hE : EndT kd E) (hk5 : ∀ i, kd i ≤ 305) {i lv : Nat} {C : Cd} (hi : i ≤ E) :
  (∀ j q v, testAt kd nm 8 i lv = (j, q, some v) → ∃ (C1 C' : Cd) (X : Pl), i < j ∧ j ≤ E ∧ Go kd nm true (0, (i, false, C, lv, [], 0)) (4, (j, false, C1, q, X, 0)) ∧ stl 1 X C1 = ([], C') ∧ Ext C C' ∧ RealRT (cI C'.2) C.1 C'.1 v) ∧
  (∀ j q, testAt kd nm 8 i lv = (j, q, none) → ∃ (t : Nat) (C' : Cd) (q' : Nat) (P' : Pl) (o' : Nat), i ≤ j ∧ j ≤ E ∧ Go kd nm true (0, (i, false, C, lv, [], 0)) (t, (j, true, C', q', P', o'))) := by
  obtain ⟨hy, hn⟩ := TstC.all (nm := nm) hE hk5 8 i lv C [] 0 hi rfl (by show 0 < 1; decide) (by show 0 ≠ 31; decide)
  refine ⟨fun j q v e => ?_, hn⟩
  obtain ⟨C1, C', X, g1, g2, g3, g4, g5, g6, g7, ⟨-, g8⟩, g9⟩ := hy j q v e
  rw [List.append_nil] at g3 g5
  refine ⟨C1, C', X, g1, g2, g3.tr (Go.st rfl (by decide) ?_), g5, g6, g7⟩
  have hst : stA kd nm true 2 (j, false, C1, q, X, 0) = (4, (j, false, C1, q, X, 0)) := by
    rw [stA, if_neg (by decide), if_neg (by decide), if_neg (by decide), fTest]
    simp only [r_i, r_P, r_C, r_v, r_o]
    have hinr : inr X = 0 := by
      have := inr_app (X := X) (P := []) g4
      rw [List.append_nil] at this
      exact this
    rw [if_neg g8, if_neg g9, if_pos hinr]
  rw [hst]
  exact Go.rf
end GOT
