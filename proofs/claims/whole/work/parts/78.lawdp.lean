/-! THE LANGUAGE OF LAWS: what a row of tokens is (kd: the kind of each, as the class numbers them, nm: its number), read by descent; and the reference's pile, tied to it. -/
abbrev PS : Type := Nat × Nat × Option SV
abbrev PT : Type := Nat × Nat × Option TV
def mulOp (k : Int) : Nat := if k = 42 then 21 else if k = 47 then 23 else if k = 37 then 22 else 0
def addOp (k : Int) : Nat := if k = 43 then 19 else if k = 45 then 20 else 0
def cmpOp (k : Int) : Nat := if k = 60 then 24 else if k = 62 then 25 else if k = 61 then 26 else 0
def dPart (kd : Nat → Int) (nm : Nat → Nat) (sq : Nat → Nat → PS) (k i p : Nat) : PS :=
  if kd i = 91 then (if k = 0 then (i, p, none) else match sq (i + 1) p with
    | (j, q, some v) => if kd j = 93 then (j + 1, q, some v) else (j, q, none)
    | (j, q, none) => (j, q, none))
  else if 300 ≤ kd i ∧ p < 50 ∧ nm i ≤ 10000 then (i + 1, p + 1, some (svLeaf (kd i - 300).toNat (nm i))) else (i, p, none)
def dLoop (kd : Nat → Int) (op : Int → Nat) (pt : Nat → Nat → PS) : Nat → Nat → Nat → SV → PS
  | 0, i, p, v => (i, p, some v)
  | f + 1, i, p, v => if op (kd i) = 0 then (i, p, some v) else match pt (i + 1) p with
    | (j, q, some w) => dLoop kd op pt f j q (sv2 (op (kd i)) v w)
    | (j, q, none) => (j, q, none)
def dChain (kd : Nat → Int) (op : Int → Nat) (pt : Nat → Nat → PS) (i p : Nat) : PS := match pt i p with
  | (j, q, some v) => dLoop kd op pt 400 j q v
  | (j, q, none) => (j, q, none)
def sumAt (kd : Nat → Int) (nm : Nat → Nat) : Nat → Nat → Nat → PS
  | 0 => dChain kd addOp (dChain kd mulOp (dPart kd nm (fun i p => (i, p, none)) 0))
  | k + 1 => dChain kd addOp (dChain kd mulOp (dPart kd nm (sumAt kd nm k) (k + 1)))
def dComp (kd : Nat → Int) (sm : Nat → Nat → PS) (i p : Nat) : PT := match sm i p with
  | (j, q, none) => (j, q, none)
  | (j, q, some v) => if cmpOp (kd j) = 0 then (j, q, none) else match sm (j + 1) q with
    | (j2, q2, some w) => (j2, q2, some (tv2 (cmpOp (kd j)) v w))
    | (j2, q2, none) => (j2, q2, none)
def dNots (kd : Nat → Int) : Nat → Nat → Nat × Nat
  | 0, i => (0, i)
  | f + 1, i => if kd i = 261 then ((dNots kd f (i + 1)).1 + 1, (dNots kd f (i + 1)).2) else (0, i)
def notN (n : Nat) (t : TV) : TV := if n % 2 = 1 then tvNot t else t
def dPlain (kd : Nat → Int) (sm : Nat → Nat → PS) (ts : Nat → Nat → PT) (k i p : Nat) : PT :=
  if kd (dNots kd 400 i).2 = 40 then (if k = 0 then ((dNots kd 400 i).2, p, none) else match ts ((dNots kd 400 i).2 + 1) p with
    | (j, q, some t) => if kd j = 41 then (j + 1, q, some (notN (dNots kd 400 i).1 t)) else (j, q, none)
    | (j, q, none) => (j, q, none))
  else match dComp kd sm (dNots kd 400 i).2 p with
    | (j, q, some t) => (j, q, some (notN (dNots kd 400 i).1 t))
    | (j, q, none) => (j, q, none)
def dTLoop (kd : Nat → Int) (w : Int) (cb : TV → TV → TV) (pl : Nat → Nat → PT) : Nat → Nat → Nat → TV → PT
  | 0, i, p, t => (i, p, some t)
  | f + 1, i, p, t => if kd i = w then (match pl (i + 1) p with
    | (j, q, some u) => dTLoop kd w cb pl f j q (cb t u)
    | (j, q, none) => (j, q, none)) else (i, p, some t)
def dTChain (kd : Nat → Int) (w : Int) (cb : TV → TV → TV) (pl : Nat → Nat → PT) (i p : Nat) : PT := match pl i p with
  | (j, q, some t) => dTLoop kd w cb pl 400 j q t
  | (j, q, none) => (j, q, none)
def testAt (kd : Nat → Int) (nm : Nat → Nat) : Nat → Nat → Nat → PT
  | 0 => dTChain kd 259 tvOr (dTChain kd 260 tvAnd (dPlain kd (sumAt kd nm 0) (fun i p => (i, p, none)) 0))
  | k + 1 => dTChain kd 259 tvOr (dTChain kd 260 tvAnd (dPlain kd (sumAt kd nm (k + 1)) (testAt kd nm k) (k + 1)))
def dClause (kd : Nat → Int) (nm : Nat → Nat) (i p : Nat) : Nat × Nat × Option ClA :=
  if kd i = 257 then (match sumAt kd nm 8 (i + 1) p with
    | (j, q, none) => (j, q, none)
    | (j, q, some v) => if kd j = 258 then (match testAt kd nm 8 (j + 1) q with
      | (j2, q2, some t) => (j2, q2, some (v, some t))
      | (j2, q2, none) => (j2, q2, none)) else (j, q, some (v, none)))
  else (i, p, none)
def dClauses (kd : Nat → Int) (nm : Nat → Nat) : Nat → Nat → Nat → List ClA → Nat × Option (List ClA)
  | 0, i, _, _ => (i, none)
  | f + 1, i, p, l => match dClause kd nm i p with
    | (j, _, none) => (j, none)
    | (j, q, some c) => if kd j = -1 then (j, some (l ++ [c])) else if kd j = 59 then dClauses kd nm f (j + 1) q (l ++ [c]) else (j, none)
-- the reference's pile
abbrev Cd : Type := Nat × (Nat → Nat × Nat)
abbrev Pl : Type := List (Nat × Nat)
def upC (c : Nat → Nat × Nat) (k : Nat) (v : Nat × Nat) : Nat → Nat × Nat := fun j => if j = k then v else c j
def emC (C : Cd) (v : Nat × Nat) : Cd := (C.1 + 1, upC C.2 C.1 v)
def aimC (C : Cd) (k : Nat) : Cd := (C.1, upC C.2 k ((C.2 k).1, C.1))
def bnd (op : Nat) : Nat := if 30 ≤ op then 0 else if op = 29 then 1 else if op = 28 then 2 else if op = 27 then 3 else if 24 ≤ op then 4 else if 21 ≤ op then 6 else 5
def stl (L : Nat) : Pl → Cd → Pl × Cd
  | [], C => ([], C)
  | q :: P, C => if L ≤ bnd q.1 then (if q.1 = 28 ∨ q.1 = 29 then stl L P (aimC C q.2) else stl L P (emC C (q.1, 0))) else (q :: P, C)
def inr : Pl → Nat
  | [] => 0
  | q :: P => if 30 ≤ q.1 then q.1 else inr P
def cpd : Pl → Bool
  | [] => false
  | q :: P => if 19 ≤ q.1 ∧ q.1 ≤ 23 then cpd P else decide (24 ≤ q.1 ∧ q.1 ≤ 26)
def aop (k : Int) : Nat := if addOp k ≠ 0 then addOp k else mulOp k
/-- a state of the reading: token, bad, code, leaves, pile, open brackets -/
abbrev RS : Type := Nat × Bool × Cd × Nat × Pl × Nat
abbrev r_i (r : RS) : Nat := r.1
abbrev r_b (r : RS) : Bool := r.2.1
abbrev r_C (r : RS) : Cd := r.2.2.1
abbrev r_v (r : RS) : Nat := r.2.2.2.1
abbrev r_P (r : RS) : Pl := r.2.2.2.2.1
abbrev r_o (r : RS) : Nat := r.2.2.2.2.2
def badR (r : RS) : RS := (r_i r, true, r_C r, r_v r, r_P r, r_o r)
def fOpen (kd : Nat → Int) (op : Nat) (r : RS) : RS := if r_o r < 8 then (r_i r + 1, false, r_C r, r_v r, (op, 0) :: r_P r, r_o r + 1) else badR r
def fPart (kd : Nat → Int) (nm : Nat → Nat) (r : RS) : Nat × RS :=
  if kd (r_i r) = 91 then (1, fOpen kd 31 r)
  else if (300 ≤ kd (r_i r) ∧ nm (r_i r) ≤ 10000) ∧ r_v r < 50 then (3, (r_i r + 1, false, emC (r_C r) ((kd (r_i r) - 300).toNat, nm (r_i r)), r_v r + 1, r_P r, r_o r))
  else (3, badR r)
def fPlain (kd : Nat → Int) (nm : Nat → Nat) (r : RS) : Nat × RS :=
  if kd (r_i r) = 261 then (0, (r_i r + 1, false, r_C r, r_v r, (27, 0) :: r_P r, r_o r))
  else if kd (r_i r) = 40 then (0, fOpen kd 30 r) else fPart kd nm r
def fSum (kd : Nat → Int) (test : Bool) (r : RS) : Nat × RS :=
  if aop (kd (r_i r)) ≠ 0 then (1, (r_i r + 1, false, (stl (bnd (aop (kd (r_i r)))) (r_P r) (r_C r)).2, r_v r, (aop (kd (r_i r)), 0) :: (stl (bnd (aop (kd (r_i r)))) (r_P r) (r_C r)).1, r_o r))
  else if inr (r_P r) = 31 then (3, if kd (r_i r) = 93 then (r_i r + 1, false, (stl 5 (r_P r) (r_C r)).2, r_v r, (stl 5 (r_P r) (r_C r)).1.tail, r_o r - 1) else badR r)
  else if inr (r_P r) = 0 ∧ test = false then (4, r)
  else if cpd (r_P r) = true then (2, r)
  else (1, if cmpOp (kd (r_i r)) ≠ 0 then (r_i r + 1, false, (stl 5 (r_P r) (r_C r)).2, r_v r, (cmpOp (kd (r_i r)), 0) :: (stl 5 (r_P r) (r_C r)).1, r_o r) else badR r)
def fTest (kd : Nat → Int) (r : RS) : Nat × RS :=
  if kd (r_i r) = 260 then (0, (r_i r + 1, false, emC (stl 2 (r_P r) (r_C r)).2 (28, 0), r_v r, (28, (stl 2 (r_P r) (r_C r)).2.1) :: (stl 2 (r_P r) (r_C r)).1, r_o r))
  else if kd (r_i r) = 259 then (0, (r_i r + 1, false, emC (stl 1 (r_P r) (r_C r)).2 (29, 0), r_v r, (29, (stl 1 (r_P r) (r_C r)).2.1) :: (stl 1 (r_P r) (r_C r)).1, r_o r))
  else if inr (r_P r) = 0 then (4, r)
  else (2, if kd (r_i r) = 41 then (r_i r + 1, false, (stl 1 (r_P r) (r_C r)).2, r_v r, (stl 1 (r_P r) (r_C r)).1.tail, r_o r - 1) else badR r)
def stA (kd : Nat → Int) (nm : Nat → Nat) (test : Bool) (t : Nat) (r : RS) : Nat × RS :=
  if t = 0 then fPlain kd nm r else if t = 1 then fPart kd nm r else if t = 3 then fSum kd test r else fTest kd r
/-- the reading comes from c to c' -/
def Go (kd : Nat → Int) (nm : Nat → Nat) (test : Bool) (c c' : Nat × RS) : Prop := ∀ K : Nat × RS → Prop, (∀ t r, r_b r = false → t ≠ 4 → K (stA kd nm test t r) → K (t, r)) → K c' → K c
section GO
variable {kd : Nat → Int} {nm : Nat → Nat} {test : Bool}
theorem Go.rf {c : Nat × RS} : Go kd nm test c c := fun _ _ h => h
theorem Go.tr {a b c : Nat × RS} (h1 : Go kd nm test a b) (h2 : Go kd nm test b c) : Go kd nm test a c := fun K hK h => h1 K hK (h2 K hK h)
theorem Go.st {t : Nat} {r : RS} {c : Nat × RS} (hb : r_b r = false) (ht : t ≠ 4) (h : Go kd nm test (stA kd nm test t r) c) : Go kd nm test (t, r) c := fun K hK hc => hK t r hb ht (h K hK hc)
def topB : Pl → Nat
  | [] => 0
  | q :: _ => bnd q.1
theorem stl_stop {L : Nat} {P : Pl} {C : Cd} (h : topB P < L) : stl L P C = (P, C) := by
  cases P with
  | nil => rfl
  | cons q P => rw [stl, if_neg (by have h2 : bnd q.1 < L := h; omega)]
theorem stl_c {L : Nat} {q : Nat × Nat} {P : Pl} {C : Cd} : stl L (q :: P) C = if L ≤ bnd q.1 then (if q.1 = 28 ∨ q.1 = 29 then stl L P (aimC C q.2) else stl L P (emC C (q.1, 0))) else (q :: P, C) := rfl
theorem stl_stl {L L' : Nat} (h : L ≤ L') : ∀ (P : Pl) (C : Cd), stl L (stl L' P C).1 (stl L' P C).2 = stl L P C
  | [], C => rfl
  | q :: P, C => by
    rw [stl_c (L := L')]
    by_cases q1 : L' ≤ bnd q.1
    · have q3 : L ≤ bnd q.1 := by omega
      rw [if_pos q1, stl_c (L := L) (q := q)]
      by_cases q2 : q.1 = 28 ∨ q.1 = 29
      · rw [if_pos q2, if_pos q3, if_pos q2]; exact stl_stl h P _
      · rw [if_neg q2, if_pos q3, if_neg q2]; exact stl_stl h P _
    · rw [if_neg q1]
theorem stl_via {L L' : Nat} (h : L ≤ L') {P Q : Pl} {C D : Cd} (e : stl L' P C = (Q, D)) : stl L P C = stl L Q D := by
  rw [← stl_stl h P C, e]
theorem inr_app {X P : Pl} (h : ∀ q ∈ X, q.1 < 30) : inr (X ++ P) = inr P := by
  induction X with
  | nil => rfl
  | cons q X ih =>
    have h1 := h q List.mem_cons_self
    rw [List.cons_append, inr, if_neg (by omega)]
    exact ih (fun z hz => h z (List.mem_cons_of_mem _ hz))
theorem cpd_app {X P : Pl} (h : ∀ q ∈ X, 19 ≤ q.1 ∧ q.1 ≤ 23) : cpd (X ++ P) = cpd P := by
  induction X with
  | nil => rfl
  | cons q X ih =>
    rw [List.cons_append, cpd, if_pos (h q List.mem_cons_self)]
    exact ih (fun z hz => h z (List.mem_cons_of_mem _ hz))
def cI (c : Nat → Nat × Nat) : Nat → Int × Int := fun k => (((c k).1 : Int), ((c k).2 : Int))
/-- code that was there stays, what is new tells v -/
def Ext (C C' : Cd) : Prop := C.1 ≤ C'.1 ∧ ∀ j, j < C.1 → C'.2 j = C.2 j
theorem Ext.rf {C : Cd} : Ext C C := ⟨Nat.le_refl _, fun _ _ => rfl⟩
theorem Ext.tr {C D E : Cd} (h : Ext C D) (h2 : Ext D E) : Ext C E := ⟨Nat.le_trans h.1 h2.1, fun j hj => (h2.2 j (Nat.lt_of_lt_of_le hj h.1)).trans (h.2 j hj)⟩
theorem Ext.em {C : Cd} {v : Nat × Nat} : Ext C (emC C v) := ⟨Nat.le_succ _, fun j hj => if_neg (by omega)⟩
theorem emC_at {C : Cd} {v : Nat × Nat} : (emC C v).2 C.1 = v := if_pos rfl
theorem cI_eq {c : Nat → Nat × Nat} {k a b : Nat} (h : c k = (a, b)) : cI c k = ((a : Int), (b : Int)) := by unfold cI; rw [h]
theorem RealR.ext {C D : Cd} {a : Nat} {v : SV} (h : RealR (cI C.2) a C.1 v) (e : Ext C D) : RealR (cI D.2) a C.1 v := h.congr (fun j _ hj => by unfold cI; rw [e.2 j hj])
/-- the reading of a sum, from a state with pile P, comes behind it with some pending steps on the pile; or is bad where the descent is -/
def SumC (kd : Nat → Int) (nm : Nat → Nat) (E k L : Nat) (stop : Int → Prop) (pt : Nat → Nat → PS) : Prop := ∀ (test : Bool) (t0 i lv : Nat) (C : Cd) (P : Pl) (o : Nat), (t0 = 1 ∨ (t0 = 0 ∧ kd i ≠ 261 ∧ kd i ≠ 40)) → i ≤ E → o + k = 8 → topB P < L →
  (∀ j q v, pt i lv = (j, q, some v) → ∃ (C1 C' : Cd) (X : Pl), i < j ∧ j ≤ E ∧ Go kd nm test (t0, (i, false, C, lv, P, o)) (3, (j, false, C1, q, X ++ P, o)) ∧ (∀ z ∈ X, 19 ≤ z.1 ∧ z.1 ≤ 23) ∧ stl L (X ++ P) C1 = (P, C') ∧ Ext C C' ∧ RealR (cI C'.2) C.1 C'.1 v ∧ stop (kd j)) ∧
  (∀ j q, pt i lv = (j, q, none) → ∃ (t : Nat) (C' : Cd) (q' : Nat) (P' : Pl) (o' : Nat), i ≤ j ∧ j ≤ E ∧ Go kd nm test (t0, (i, false, C, lv, P, o)) (t, (j, true, C', q', P', o')))
def EndT (kd : Nat → Int) (E : Nat) : Prop := E ≤ 400 ∧ kd E = -1 ∧ ∀ i, i < E → kd i ≠ -1
theorem nxt {E i : Nat} (hE : EndT kd E) (hi : i ≤ E) (h : kd i ≠ -1) : i + 1 ≤ E := by
  rcases Nat.lt_or_ge i E with q | q
  · omega
  · obtain rfl : i = E := by omega
    exact absurd hE.2.1 h
theorem aop_mul {k : Int} (h : mulOp k ≠ 0) : aop k = mulOp k ∧ 21 ≤ mulOp k ∧ mulOp k ≤ 23 ∧ k ≠ -1 := by
  unfold aop addOp
  unfold mulOp at h ⊢
  by_cases h1 : k = 42
  · subst h1; decide
  · by_cases h2 : k = 47
    · subst h2; decide
    · by_cases h3 : k = 37
      · subst h3; decide
      · rw [if_neg h1, if_neg h2, if_neg h3] at h; exact absurd rfl h
theorem aop_add {k : Int} (h : addOp k ≠ 0) : aop k = addOp k ∧ 19 ≤ addOp k ∧ addOp k ≤ 20 ∧ k ≠ -1 := by
  unfold aop
  rw [if_pos h]
  unfold addOp at h ⊢
  by_cases h1 : k = 43
  · subst h1; decide
  · by_cases h2 : k = 45
    · subst h2; decide
    · rw [if_neg h1, if_neg h2] at h; exact absurd rfl h
theorem aop_no {k : Int} (h1 : addOp k = 0) (h2 : mulOp k = 0) : aop k = 0 := by
  unfold aop
  rw [if_neg (by simp [h1]), h2]
theorem cmpOp_bd {k : Int} (h : cmpOp k ≠ 0) : 24 ≤ cmpOp k ∧ cmpOp k ≤ 26 ∧ k ≠ -1 := by
  unfold cmpOp at h ⊢
  by_cases h1 : k = 60
  · subst h1; decide
  · by_cases h2 : k = 62
    · subst h2; decide
    · by_cases h3 : k = 61
      · subst h3; decide
      · rw [if_neg h1, if_neg h2, if_neg h3] at h; exact absurd rfl h
theorem bnd_mul {op : Nat} (h : 21 ≤ op ∧ op ≤ 23) : bnd op = 6 := by
  unfold bnd
  rw [if_neg (by omega), if_neg (by omega), if_neg (by omega), if_neg (by omega), if_neg (by omega), if_pos (by omega)]
theorem bnd_add {op : Nat} (h : 19 ≤ op ∧ op ≤ 20) : bnd op = 5 := by
  unfold bnd
  rw [if_neg (by omega), if_neg (by omega), if_neg (by omega), if_neg (by omega), if_neg (by omega), if_neg (by omega)]
theorem bnd_cmp {op : Nat} (h : 24 ≤ op ∧ op ≤ 26) : bnd op = 4 := by
  unfold bnd
  rw [if_neg (by omega), if_neg (by omega), if_neg (by omega), if_neg (by omega), if_pos (by omega)]
/-- a chain of operators of one rank -/
theorem SumC.loop {E k L : Nat} {op : Int → Nat} {stop : Int → Prop} {pt : Nat → Nat → PS} (hE : EndT kd E) (hop : ∀ x, op x ≠ 0 → aop x = op x ∧ bnd (op x) = L ∧ (19 ≤ op x ∧ op x ≤ 23) ∧ x ≠ -1) (h : SumC kd nm E k (L + 1) stop pt) (test : Bool) : ∀ (f i lv : Nat) (v : SV) (C0 C1 C : Cd) (X P : Pl) (o : Nat), i ≤ E → 400 < i + f → o + k = 8 → topB P < L → (∀ z ∈ X, 19 ≤ z.1 ∧ z.1 ≤ 23) → stl L (X ++ P) C1 = (P, C) → Ext C0 C → RealR (cI C.2) C0.1 C.1 v → stop (kd i) →
  (∀ j q v', dLoop kd op pt f i lv v = (j, q, some v') → ∃ (C2 C' : Cd) (X' : Pl), i ≤ j ∧ j ≤ E ∧ Go kd nm test (3, (i, false, C1, lv, X ++ P, o)) (3, (j, false, C2, q, X' ++ P, o)) ∧ (∀ z ∈ X', 19 ≤ z.1 ∧ z.1 ≤ 23) ∧ stl L (X' ++ P) C2 = (P, C') ∧ Ext C0 C' ∧ RealR (cI C'.2) C0.1 C'.1 v' ∧ stop (kd j) ∧ op (kd j) = 0) ∧
  (∀ j q, dLoop kd op pt f i lv v = (j, q, none) → ∃ (t : Nat) (C' : Cd) (q' : Nat) (P' : Pl) (o' : Nat), i ≤ j ∧ j ≤ E ∧ Go kd nm test (3, (i, false, C1, lv, X ++ P, o)) (t, (j, true, C', q', P', o'))) := by
  intro f
  induction f with
  | zero =>
    intro i lv v C0 C1 C X P o hi hf
    have := hE.1
    omega
  | succ f ih =>
    intro i lv v C0 C1 C X P o hi hf ho hP hX hs he hv hst
    rw [dLoop]
    by_cases h0 : op (kd i) = 0
    · rw [if_pos h0]
      refine ⟨fun j q v' e => ?_, fun j q e => by cases e⟩
      cases e
      exact ⟨C1, C, X, Nat.le_refl _, hi, Go.rf, hX, hs, he, hv, hst, h0⟩
    · rw [if_neg h0]
      obtain ⟨o1, o2, o3, o4⟩ := hop _ h0
      have hi1 := nxt hE hi o4
      have hstep : stA kd nm test 3 (i, false, C1, lv, X ++ P, o) = (1, (i + 1, false, C, lv, (op (kd i), 0) :: P, o)) := by
        rw [stA, if_neg (by decide), if_neg (by decide), if_pos rfl, fSum]
        simp only [r_i, r_P, r_C, r_v, r_o]
        rw [o1, if_pos h0, o2, hs]
      have hsub := h test 1 (i + 1) lv C ((op (kd i), 0) :: P) o (Or.inl rfl) hi1 ho (by show bnd (op (kd i)) < L + 1; omega)
      obtain ⟨hy, hn⟩ := hsub
      cases hp : pt (i + 1) lv with
      | mk j0 r0 =>
        obtain ⟨q0, w0⟩ := r0
        cases w0 with
        | none =>
          refine ⟨fun j q v' e => (by cases e), fun j q e => ?_⟩
          cases e
          obtain ⟨t, C', q', P', o', g1, g2, g3⟩ := hn j0 q0 hp
          exact ⟨t, C', q', P', o', by omega, g2, Go.st rfl (by decide) (by rw [hstep]; exact g3)⟩
        | some w =>
          obtain ⟨C2, C', X2, g1, g2, g3, g4, g5, g6, g7, g8⟩ := hy j0 q0 w hp
          have hX2 : ∀ z ∈ X2 ++ [(op (kd i), 0)], 19 ≤ z.1 ∧ z.1 ≤ 23 := by
            intro z hz
            rcases List.mem_append.mp hz with hz | hz
            · exact g4 z hz
            · rw [List.mem_singleton.mp hz]; exact o3
          have hs2 : stl L ((X2 ++ [(op (kd i), 0)]) ++ P) C2 = (P, emC C' (op (kd i), 0)) := by
            rw [List.append_assoc, List.singleton_append, stl_via (Nat.le_succ L) g5, stl, if_pos (by show L ≤ bnd (op (kd i)); omega), if_neg (by show ¬ (op (kd i) = 28 ∨ op (kd i) = 29); omega)]
            exact stl_stop hP
          have hv2 : RealR (cI (emC C' (op (kd i), 0)).2) C0.1 (emC C' (op (kd i), 0)).1 (sv2 (op (kd i)) v w) :=
            R_ar (z0 := 0) ((hv.ext g6).ext (C := (C.1, C'.2)) (D := (C.1, (emC C' (op (kd i), 0)).2)) ⟨Nat.le_refl _, fun z hz => Ext.em.2 z (Nat.lt_of_lt_of_le hz g6.1)⟩) (g7.ext Ext.em) he.1 g6.1 o3 (cI_eq emC_at)
          obtain ⟨iy, inn⟩ := ih j0 q0 (sv2 (op (kd i)) v w) C0 C2 (emC C' (op (kd i), 0)) (X2 ++ [(op (kd i), 0)]) P o g2 (by omega) ho hP hX2 hs2 ((he.tr g6).tr Ext.em) hv2 g8
          have hgo : Go kd nm test (3, (i, false, C1, lv, X ++ P, o)) (3, (j0, false, C2, q0, (X2 ++ [(op (kd i), 0)]) ++ P, o)) := Go.st rfl (by decide) (by rw [hstep, List.append_assoc, List.singleton_append]; exact g3)
          refine ⟨fun j q v' e => ?_, fun j q e => ?_⟩
          · obtain ⟨C3, C4, X3, k1, k2, k3, k4, k5, k6, k7, k8, k9⟩ := iy j q v' e
            exact ⟨C3, C4, X3, by omega, k2, hgo.tr k3, k4, k5, k6, k7, k8, k9⟩
          · obtain ⟨t, C4, q', P', o', k1, k2, k3⟩ := inn j q e
            exact ⟨t, C4, q', P', o', by omega, k2, hgo.tr k3⟩
theorem SumC.chain {E k L : Nat} {op : Int → Nat} {stop : Int → Prop} {pt : Nat → Nat → PS} (hE : EndT kd E) (hop : ∀ x, op x ≠ 0 → aop x = op x ∧ bnd (op x) = L ∧ (19 ≤ op x ∧ op x ≤ 23) ∧ x ≠ -1) (h : SumC kd nm E k (L + 1) stop pt) : SumC kd nm E k L (fun x => stop x ∧ op x = 0) (dChain kd op pt) := by
  intro test t0 i lv C P o ht hi ho hP
  obtain ⟨hy, hn⟩ := h test t0 i lv C P o ht hi ho (by omega)
  unfold dChain
  cases hp : pt i lv with
  | mk j0 r0 =>
    obtain ⟨q0, w0⟩ := r0
    cases w0 with
    | none =>
      refine ⟨fun j q v' e => (by cases e), fun j q e => ?_⟩
      cases e
      exact hn j0 q0 hp
    | some w =>
      obtain ⟨C2, C', X2, g1, g2, g3, g4, g5, g6, g7, g8⟩ := hy j0 q0 w hp
      have g5' : stl L (X2 ++ P) C2 = (P, C') := by rw [stl_via (Nat.le_succ L) g5]; exact stl_stop hP
      obtain ⟨iy, inn⟩ := SumC.loop hE hop h test 400 j0 q0 w C C2 C' X2 P o g2 (by omega) ho hP g4 g5' g6 g7 g8
      refine ⟨fun j q v' e => ?_, fun j q e => ?_⟩
      · obtain ⟨C3, C4, X3, k1, k2, k3, k4, k5, k6, k7, k8, k9⟩ := iy j q v' e
        exact ⟨C3, C4, X3, by omega, k2, g3.tr k3, k4, k5, k6, k7, k8, k9⟩
      · obtain ⟨t, C4, q', P', o', k1, k2, k3⟩ := inn j q e
        exact ⟨t, C4, q', P', o', by omega, k2, g3.tr k3⟩
theorem hop_mul : ∀ x : Int, mulOp x ≠ 0 → aop x = mulOp x ∧ bnd (mulOp x) = 6 ∧ (19 ≤ mulOp x ∧ mulOp x ≤ 23) ∧ x ≠ -1 := by
  intro x h
  obtain ⟨a, b, c, d⟩ := aop_mul h
  exact ⟨a, bnd_mul ⟨b, c⟩, by omega, d⟩
theorem hop_add : ∀ x : Int, addOp x ≠ 0 → aop x = addOp x ∧ bnd (addOp x) = 5 ∧ (19 ≤ addOp x ∧ addOp x ≤ 23) ∧ x ≠ -1 := by
  intro x h
  obtain ⟨a, b, c, d⟩ := aop_add h
  exact ⟨a, bnd_add ⟨b, c⟩, by omega, d⟩
theorem stA_part {t0 : Nat} {r : RS} (h : t0 = 1 ∨ (t0 = 0 ∧ kd (r_i r) ≠ 261 ∧ kd (r_i r) ≠ 40)) : stA kd nm test t0 r = fPart kd nm r := by
  rcases h with rfl | ⟨rfl, h1, h2⟩
  · rw [stA, if_neg (by decide), if_pos rfl]
  · rw [stA, if_pos rfl, fPlain, if_neg h1, if_neg h2]
theorem ne4 {t0 : Nat} {p : Prop} (h : t0 = 1 ∨ (t0 = 0 ∧ p)) : t0 ≠ 4 := by
  rcases h with rfl | ⟨rfl, -⟩ <;> decide
/-- a part: a number, a word, or a sum in square brackets -/
theorem SumC.part {E k : Nat} {sq : Nat → Nat → PS} (hE : EndT kd E) (hsq : k = 0 ∨ SumC kd nm E (k - 1) 5 (fun x => (True ∧ mulOp x = 0) ∧ addOp x = 0) sq) (hk5 : ∀ i, kd i ≤ 305) : SumC kd nm E k 7 (fun _ => True) (dPart kd nm sq k) := by
  intro test t0 i lv C P o ht hi ho hP
  unfold dPart
  by_cases hb : kd i = 91
  · rw [if_pos hb]
    have hi1 := nxt hE hi (by rw [hb]; decide)
    by_cases hk : k = 0
    · rw [if_pos hk]
      refine ⟨fun j q v' e => (by cases e), fun j q e => ?_⟩
      cases e
      refine ⟨1, C, lv, P, o, Nat.le_refl _, hi, Go.st rfl (ne4 ht) ?_⟩
      rw [stA_part ht, fPart]
      simp only [r_i]
      rw [if_pos hb, fOpen, if_neg (by simp only [r_o]; omega)]
      exact Go.rf
    · rw [if_neg hk]
      have hsq2 := hsq.resolve_left hk
      have hgo1 : stA kd nm test t0 (i, false, C, lv, P, o) = (1, (i + 1, false, C, lv, (31, 0) :: P, o + 1)) := by
        rw [stA_part ht, fPart]
        simp only [r_i]
        rw [if_pos hb, fOpen, if_pos (by simp only [r_o]; omega)]
      obtain ⟨hy, hn⟩ := hsq2 test 1 (i + 1) lv C ((31, 0) :: P) (o + 1) (Or.inl rfl) hi1 (by omega) (by show bnd 31 < 5; decide)
      cases hp : sq (i + 1) lv with
      | mk j0 r0 =>
        obtain ⟨q0, w0⟩ := r0
        cases w0 with
        | none =>
          refine ⟨fun j q v' e => (by cases e), fun j q e => ?_⟩
          cases e
          obtain ⟨t, C', q', P', o', g1, g2, g3⟩ := hn j0 q0 hp
          exact ⟨t, C', q', P', o', by omega, g2, Go.st rfl (ne4 ht) (by rw [hgo1]; exact g3)⟩
        | some w =>
          obtain ⟨C2, C', X2, g1, g2, g3, g4, g5, g6, g7, ⟨-, g8⟩, g9⟩ := hy j0 q0 w hp
          have hgo2 : Go kd nm test (t0, (i, false, C, lv, P, o)) (3, (j0, false, C2, q0, X2 ++ (31, 0) :: P, o + 1)) := Go.st rfl (ne4 ht) (by rw [hgo1]; exact g3)
          have hinr : inr (X2 ++ (31, 0) :: P) = 31 := by rw [inr_app (fun z hz => by have := g4 z hz; omega)]; rfl
          have hgo3 : stA kd nm test 3 (j0, false, C2, q0, X2 ++ (31, 0) :: P, o + 1) = (3, if kd j0 = 93 then (j0 + 1, false, C', q0, P, o) else (j0, true, C2, q0, X2 ++ (31, 0) :: P, o + 1)) := by
            rw [stA, if_neg (by decide), if_neg (by decide), if_pos rfl, fSum]
            simp only [r_i, r_P, r_C, r_v, r_o]
            rw [if_neg (by rw [aop_no g9 g8]; decide), if_pos hinr, g5]
            rfl
          by_cases hj : kd j0 = 93
          · refine ⟨fun j q v' e => ?_, fun j q e => ?_⟩
            · simp only [] at e
              rw [if_pos hj] at e
              cases e
              rw [if_pos hj] at hgo3
              exact ⟨C', C', [], by omega, nxt hE g2 (by rw [hj]; decide), hgo2.tr (Go.st rfl (by decide) (by rw [hgo3]; exact Go.rf)), fun z hz => (by cases hz), stl_stop hP, g6, g7, trivial⟩
            · simp only [] at e
              rw [if_pos hj] at e
              cases e
          · refine ⟨fun j q v' e => ?_, fun j q e => ?_⟩
            · simp only [] at e
              rw [if_neg hj] at e
              cases e
            · simp only [] at e
              rw [if_neg hj] at e
              cases e
              rw [if_neg hj] at hgo3
              exact ⟨3, C2, q0, _, _, by omega, g2, hgo2.tr (Go.st rfl (by decide) (by rw [hgo3]; exact Go.rf))⟩
  · rw [if_neg hb]
    by_cases hl : 300 ≤ kd i ∧ lv < 50 ∧ nm i ≤ 10000
    · rw [if_pos hl]
      refine ⟨fun j q v' e => ?_, fun j q e => by cases e⟩
      cases e
      have h5 := hk5 i
      refine ⟨emC C ((kd i - 300).toNat, nm i), emC C ((kd i - 300).toNat, nm i), [], by omega, nxt hE hi (by omega), Go.st rfl (ne4 ht) ?_, fun z hz => (by cases hz), stl_stop hP, Ext.em, R_leaf (by omega) (cI_eq emC_at), trivial⟩
      rw [stA_part ht, fPart]
      simp only [r_i, r_v]
      rw [if_neg hb, if_pos ⟨⟨hl.1, hl.2.2⟩, hl.2.1⟩]
      exact Go.rf
    · rw [if_neg hl]
      refine ⟨fun j q v' e => (by cases e), fun j q e => ?_⟩
      cases e
      refine ⟨3, C, lv, P, o, Nat.le_refl _, hi, Go.st rfl (ne4 ht) ?_⟩
      rw [stA_part ht, fPart]
      simp only [r_i, r_v]
      rw [if_neg hb, if_neg (fun z => hl ⟨z.1.1, z.2, z.1.2⟩)]
      exact Go.rf
theorem SumC.all {E : Nat} (hE : EndT kd E) (hk5 : ∀ i, kd i ≤ 305) : ∀ k, SumC kd nm E k 5 (fun x => (True ∧ mulOp x = 0) ∧ addOp x = 0) (sumAt kd nm k)
  | 0 => SumC.chain hE hop_add (SumC.chain hE hop_mul (SumC.part hE (Or.inl rfl) hk5))
  | k + 1 => SumC.chain hE hop_add (SumC.chain hE hop_mul (SumC.part hE (Or.inr (SumC.all hE hk5 k)) hk5))
end GO
