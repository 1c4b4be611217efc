-- sums, and inside
def sm (f : Nat → Nat) : Nat → Nat
  | 0 => 0
  | n + 1 => sm f n + f n
theorem sm_congr {f g : Nat → Nat} : ∀ n, (∀ i, i < n → f i = g i) → sm f n = sm g n
  | 0, _ => rfl
  | n + 1, h => by rw [sm, sm, sm_congr n (fun i hi => h i (by omega)), h n (by omega)]
theorem sm_add {f g : Nat → Nat} : ∀ n, sm (fun i => f i + g i) n = sm f n + sm g n
  | 0 => rfl
  | n + 1 => by rw [sm, sm, sm, sm_add n]; omega
theorem sm_zero : ∀ n, sm (fun _ => 0) n = 0
  | 0 => rfl
  | n + 1 => by rw [sm, sm_zero n]
theorem sm_mul {f : Nat → Nat} {k : Nat} : ∀ n, sm (fun i => k * f i) n = k * sm f n
  | 0 => rfl
  | n + 1 => by rw [sm, sm, sm_mul n, Nat.mul_add]
theorem sm_app {f : Nat → Nat} {a : Nat} : ∀ b, sm f (a + b) = sm f a + sm (fun j => f (a + j)) b
  | 0 => rfl
  | b + 1 => by rw [← Nat.add_assoc, sm, sm, sm_app b, Nat.add_assoc]
theorem sm_prod {f : Nat → Nat} {k : Nat} : ∀ m, sm f (k * m) = sm (fun i => sm (fun j => f (k * i + j)) k) m
  | 0 => rfl
  | m + 1 => by rw [Nat.mul_succ, sm_app, sm_prod m, sm]
theorem sm_swap {g : Nat → Nat → Nat} {m : Nat} : ∀ n, sm (fun i => sm (fun j => g i j) m) n = sm (fun j => sm (fun i => g i j) n) m
  | 0 => by
    show 0 = sm (fun _ => 0) m
    rw [sm_zero]
  | n + 1 => by
    rw [sm, sm_swap n]
    show _ = sm (fun j => sm (fun i => g i j) n + g n j) m
    rw [sm_add]
theorem sm_tri {g : Nat → Nat → Nat} : ∀ n, (∀ i j, i < n → j < n → g i j = g j i) → (∀ i, i < n → g i i = 0) → sm (fun i => sm (fun j => g i j) n) n = 2 * sm (fun i => sm (fun j => if i < j then g i j else 0) n) n
  | 0, _, _ => rfl
  | n + 1, h1, h2 => by
    have ih := sm_tri n (fun i j hi hj => h1 i j (by omega) (by omega)) (fun i hi => h2 i (by omega))
    have e1 : sm (fun i => sm (fun j => g i j) (n + 1)) (n + 1) = sm (fun i => sm (fun j => g i j) n) n + sm (fun i => g i n) n + (sm (fun j => g n j) n + g n n) := by
      rw [sm]
      show sm (fun i => sm (fun j => g i j) n + g i n) n + _ = _
      rw [sm_add]; rfl
    have e2 : sm (fun i => sm (fun j => if i < j then g i j else 0) (n + 1)) (n + 1) = sm (fun i => sm (fun j => if i < j then g i j else 0) n) n + sm (fun i => g i n) n + 0 := by
      rw [sm]
      show sm (fun i => sm (fun j => if i < j then g i j else 0) n + (if i < n then g i n else 0)) n + _ = _
      rw [sm_add, sm_congr (f := fun i => if i < n then g i n else 0) (g := fun i => g i n) n (fun i hi => if_pos hi), sm_congr (f := fun j => if n < j then g n j else 0) (g := fun _ => 0) (n + 1) (fun j hj => if_neg (by omega)), sm_zero]
    rw [e1, e2, ih, h2 n (by omega), sm_congr (f := fun j => g n j) (g := fun i => g i n) n (fun j hj => h1 n j (by omega) (by omega))]
    omega
def cod4 (a b x y : Nat) : Nat := 4096 * a + 256 * b + 16 * x + y
theorem sm_4 {f : Nat → Nat} : sm f 65536 = sm (fun a => sm (fun b => sm (fun x => sm (fun y => f (cod4 a b x y)) 16) 16) 16) 16 := by
  rw [show (65536 : Nat) = 4096 * 16 from rfl, sm_prod]
  refine sm_congr 16 (fun a _ => ?_)
  show sm (fun j => f (4096 * a + j)) 4096 = _
  rw [show (4096 : Nat) = 256 * 16 from rfl, sm_prod]
  refine sm_congr 16 (fun b _ => ?_)
  show sm (fun j => f (256 * 16 * a + (256 * b + j))) 256 = _
  rw [show sm (fun j => f (256 * 16 * a + (256 * b + j))) 256 = sm (fun j => f (256 * 16 * a + (256 * b + j))) (16 * 16) from rfl, sm_prod]
  refine sm_congr 16 (fun x _ => ?_)
  refine sm_congr 16 (fun y _ => ?_)
  show f _ = f _
  congr 1
  unfold cod4
  omega
theorem sm_sym {f : Nat → Nat} (h1 : ∀ a b x y, a < 16 → b < 16 → x < 16 → y < 16 → f (cod4 x b a y) = f (cod4 a b x y)) (h2 : ∀ a b x y, a < 16 → b < 16 → x < 16 → y < 16 → f (cod4 a y x b) = f (cod4 a b x y)) (h3 : ∀ a b y, a < 16 → b < 16 → y < 16 → f (cod4 a b a y) = 0) (h4 : ∀ a b x, a < 16 → b < 16 → x < 16 → f (cod4 a b x b) = 0) :
    sm f 65536 = 4 * sm (fun c => if dg 4 c 0 < dg 4 c 2 ∧ dg 4 c 1 < dg 4 c 3 then f c else 0) 65536 := by
  have hA : ∀ (g : Nat → Nat → Nat → Nat → Nat), sm (fun a => sm (fun b => sm (fun x => sm (fun y => g a b x y) 16) 16) 16) 16 = sm (fun a => sm (fun x => sm (fun b => sm (fun y => g a b x y) 16) 16) 16) 16 := fun g => sm_congr 16 (fun a _ => sm_swap (g := fun b x => sm (fun y => g a b x y) 16) 16)
  rw [sm_4, sm_4, hA (fun a b x y => f (cod4 a b x y)), hA (fun a b x y => if dg 4 (cod4 a b x y) 0 < dg 4 (cod4 a b x y) 2 ∧ dg 4 (cod4 a b x y) 1 < dg 4 (cod4 a b x y) 3 then f (cod4 a b x y) else 0)]
  have e1 : ∀ a x, a < 16 → x < 16 → sm (fun b => sm (fun y => f (cod4 a b x y)) 16) 16 = 2 * sm (fun b => sm (fun y => if b < y then f (cod4 a b x y) else 0) 16) 16 := fun a x ha hx => sm_tri 16 (fun b y hb hy => (h2 a b x y ha hb hx hy).symm) (fun b hb => h4 a b x ha hb hx)
  have e2 : ∀ a x, a < 16 → x < 16 → sm (fun b => sm (fun y => f (cod4 x b a y)) 16) 16 = sm (fun b => sm (fun y => f (cod4 a b x y)) 16) 16 := fun a x ha hx => sm_congr 16 (fun b hb => sm_congr 16 (fun y hy => h1 a b x y ha hb hx hy))
  have e3 : ∀ a, a < 16 → sm (fun b => sm (fun y => f (cod4 a b a y)) 16) 16 = 0 := fun a ha => by
    rw [sm_congr (g := fun _ => 0) 16 (fun b hb => by rw [sm_congr (g := fun _ => 0) 16 (fun y hy => h3 a b y ha hb hy), sm_zero]), sm_zero]
  rw [sm_tri (g := fun a x => sm (fun b => sm (fun y => f (cod4 a b x y)) 16) 16) 16 (fun a x ha hx => (e2 a x ha hx).symm) e3]
  rw [show (4 : Nat) = 2 * 2 from rfl, Nat.mul_assoc]
  congr 1
  rw [← sm_mul]
  refine sm_congr 16 (fun a ha => ?_)
  rw [← sm_mul]
  refine sm_congr 16 (fun x hx => ?_)
  show (if a < x then sm (fun b => sm (fun y => f (cod4 a b x y)) 16) 16 else 0) = 2 * sm (fun b => sm (fun y => if dg 4 (cod4 a b x y) 0 < dg 4 (cod4 a b x y) 2 ∧ dg 4 (cod4 a b x y) 1 < dg 4 (cod4 a b x y) 3 then f (cod4 a b x y) else 0) 16) 16
  have e4 : sm (fun b => sm (fun y => if dg 4 (cod4 a b x y) 0 < dg 4 (cod4 a b x y) 2 ∧ dg 4 (cod4 a b x y) 1 < dg 4 (cod4 a b x y) 3 then f (cod4 a b x y) else 0) 16) 16 = sm (fun b => sm (fun y => if a < x ∧ b < y then f (cod4 a b x y) else 0) 16) 16 := sm_congr 16 (fun b hb => sm_congr 16 (fun y hy => by
    obtain ⟨-, d0, d1, d2, d3⟩ := dig4d ha hb hx hy
    unfold cod4
    rw [d0, d1, d2, d3]))
  rw [e4]
  by_cases q : a < x
  · rw [if_pos q, e1 a x ha hx]
    congr 1
    exact sm_congr 16 (fun b hb => sm_congr 16 (fun y hy => by simp [q]))
  · rw [if_neg q, sm_congr (g := fun _ => 0) 16 (fun b hb => by rw [sm_congr (g := fun _ => 0) 16 (fun y hy => if_neg (fun z => q z.1)), sm_zero]), sm_zero]
def kap (ss : List Sg) (h mk : Nat) (s : List Nat) (N c : Nat) : Nat := if insO ss h mk s N c = -1 then 0 else if insO ss h mk s N c = (mk : Int) then mk else 1
def istp2 (ss : List Sg) (h mk : Nat) (s : List Nat) (N c : Nat) (b : Nat × Nat × Nat) : Nat × Nat × Nat := if insO ss h mk s N c = -1 then b else if b.1 = 0 ∨ (b.1 = N / 2 ∧ insK mk (insO ss h mk s N c) < b.2.1) then (N / 2, insK mk (insO ss h mk s N c), c) else b
/-- the class's step: w rows at once -/
def istepW (w : Nat) (ss : List Sg) (h mk : Nat) (s : List Nat) (N c : Nat) (b : ISt) : ISt := (b.1 + w * kap ss h mk s N c, istp2 ss h mk s N c b.2)
theorem istep_W {ss : List Sg} {h mk N c : Nat} {s : List Nat} {b : ISt} : istep ss h mk s N c b = istepW 1 ss h mk s N c b := by
  unfold istep istepW istp2 kap
  by_cases e : insO ss h mk s N c = -1
  · rw [if_pos e, if_pos e, if_pos e]; simp
  · rw [if_neg e, if_neg e, if_neg e, Nat.one_mul]
theorem fold_1 {w : Nat} {pr : Nat → Bool} {ss : List Sg} {h mk N : Nat} {s : List Nat} {b0 : ISt} : ∀ c, (foldP pr (istepW w ss h mk s N) c b0).1 = b0.1 + w * sm (fun i => if pr i then kap ss h mk s N i else 0) c
  | 0 => rfl
  | c + 1 => by
    rw [foldP, sm]
    by_cases e : pr c = true
    · rw [if_pos e, if_pos e, Nat.mul_add, ← Nat.add_assoc, ← fold_1 c]; rfl
    · rw [if_neg e, if_neg e, Nat.add_zero]; exact fold_1 c
theorem fold_2 {w : Nat} {pr : Nat → Bool} {ss : List Sg} {h mk N : Nat} {s : List Nat} {b0 : ISt} : ∀ c, (foldP pr (istepW w ss h mk s N) c b0).2 = foldP pr (istp2 ss h mk s N) c b0.2
  | 0 => rfl
  | c + 1 => by
    rw [foldP, foldP, ← fold_2 c]
    by_cases e : pr c = true
    · rw [if_pos e, if_pos e]; rfl
    · rw [if_neg e, if_neg e]
def IBest (ss : List Sg) (h mk : Nat) (s : List Nat) (N cur : Nat) (b : Nat × Nat × Nat) : Prop := ∀ c, c < cur → vld s.length N c = true → insO ss h mk s N c ≠ -1 → b.1 ≠ 0 ∧ (b.1 = N / 2 → b.2.1 ≤ insK mk (insO ss h mk s N c))
theorem IBest.step {ss : List Sg} {h mk N cur : Nat} {s : List Nat} {b : Nat × Nat × Nat} (hN : N = 2 ∨ N = 4) (hb : IBest ss h mk s N cur b) : IBest ss h mk s N (cur + 1) (istp2 ss h mk s N cur b) := by
  intro c hc hv ho
  unfold istp2
  split
  · rename_i z
    by_cases e : c = cur
    · subst e; exact absurd z ho
    · exact hb c (by omega) hv ho
  · split
    · rename_i z1 z2
      refine ⟨by show N / 2 ≠ 0; omega, fun _ => ?_⟩
      show insK mk (insO ss h mk s N cur) ≤ _
      by_cases e : c = cur
      · subst e; exact Nat.le_refl _
      · obtain ⟨h1, h2⟩ := hb c (by omega) hv ho
        rcases z2 with z | z
        · exact absurd z h1
        · exact Nat.le_trans (Nat.le_of_lt z.2) (h2 z.1)
    · rename_i z1 z2
      by_cases e : c = cur
      · subst e
        exact ⟨fun y => z2 (Or.inl y), fun y => Nat.le_of_not_lt (fun y2 => z2 (Or.inr ⟨y, y2⟩))⟩
      · exact hb c (by omega) hv ho
theorem ins_eq2 {ss : List Sg} {h mk : Nat} {s : List Nat} {b0 : Nat × Nat × Nat} : ∀ c, foldP (v4 s.length) (istp2 ss h mk s 4) c b0 = foldP (vld s.length 4) (istp2 ss h mk s 4) c b0 ∧ IBest ss h mk s 4 c (foldP (vld s.length 4) (istp2 ss h mk s 4) c b0)
  | 0 => ⟨rfl, fun c h => absurd h (by omega)⟩
  | c + 1 => by
    obtain ⟨h1, h2⟩ := ins_eq2 (ss := ss) (h := h) (mk := mk) (s := s) (b0 := b0) c
    have h3 := h2.step (Or.inr rfl)
    rw [foldP, foldP, h1]
    generalize foldP (vld s.length 4) (istp2 ss h mk s 4) c b0 = B at *
    by_cases hv : vld s.length 4 c = true
    · rw [if_pos hv]
      refine ⟨?_, h3⟩
      by_cases hd : dg 4 c 0 < dg 4 c 2 ∧ dg 4 c 1 < dg 4 c 3
      · rw [if_pos (by rw [v4, hv]; exact decide_eq_true hd)]
      · rw [if_neg (by rw [v4, hv, decide_eq_false hd]; decide)]
        obtain ⟨c', e1, e2, e3⟩ := swp hv hd
        obtain ⟨r1, r2⟩ := swp_r (s := s) e3
        have ho : insO ss h mk s 4 c' = insO ss h mk s 4 c := by unfold insO; rw [r1, r2]
        have b1 := h2 c' e1 e2
        rw [ho] at b1
        unfold istp2
        split
        · rfl
        · rename_i z
          obtain ⟨b2, b3⟩ := b1 z
          rw [if_neg]
          intro y
          rcases y with y | y
          · exact b2 y
          · exact absurd (b3 y.1) (Nat.not_le_of_lt y.2)
    · rw [if_neg hv, if_neg (by rw [v4]; simp [hv])]
      refine ⟨rfl, fun x hx hxv => ?_⟩
      by_cases e : x = c
      · subst e; exact absurd hxv hv
      · exact h2 x (by omega) hxv
theorem kap_r {ss : List Sg} {h mk : Nat} {s : List Nat} {c c' : Nat} (e : (dg 4 c' 0 = dg 4 c 2 ∧ dg 4 c' 1 = dg 4 c 1 ∧ dg 4 c' 2 = dg 4 c 0 ∧ dg 4 c' 3 = dg 4 c 3) ∨ (dg 4 c' 0 = dg 4 c 0 ∧ dg 4 c' 1 = dg 4 c 3 ∧ dg 4 c' 2 = dg 4 c 2 ∧ dg 4 c' 3 = dg 4 c 1)) : kap ss h mk s 4 c' = kap ss h mk s 4 c := by
  obtain ⟨r1, r2⟩ := swp_r (s := s) e
  unfold kap insO
  rw [r1, r2]
theorem vld_r {S a b x y : Nat} (ha : a < 16) (hb : b < 16) (hx : x < 16) (hy : y < 16) : vld S 4 (cod4 a b x y) = true ↔ (a < S ∧ b < S ∧ x < S ∧ y < S) ∧ (a ≠ b ∧ a ≠ x ∧ a ≠ y) ∧ (b ≠ x ∧ b ≠ y) ∧ x ≠ y := by
  obtain ⟨d, d0, d1, d2, d3⟩ := dig4d ha hb hx hy
  rw [vld4_iff]
  unfold cod4
  rw [d0, d1, d2, d3]
  exact ⟨fun z => z.2, fun z => ⟨d, z⟩⟩
theorem ite_iff {p q : Prop} [Decidable p] [Decidable q] {a b : Nat} (h : p ↔ q) (e : a = b) : (if p then a else 0) = if q then b else 0 := by
  subst e
  by_cases z : p
  · rw [if_pos z, if_pos (h.mp z)]
  · rw [if_neg z, if_neg (fun y => z (h.mpr y))]
theorem kap_sum {ss : List Sg} {h mk : Nat} {s : List Nat} : sm (fun i => if vld s.length 4 i then kap ss h mk s 4 i else 0) 65536 = 4 * sm (fun i => if v4 s.length i then kap ss h mk s 4 i else 0) 65536 := by
  rw [sm_sym (f := fun i => if vld s.length 4 i then kap ss h mk s 4 i else 0)]
  · refine congrArg (fun z => 4 * z) (sm_congr 65536 (fun c _ => ?_))
    show (if _ then (if _ then _ else 0) else 0) = _
    unfold v4
    by_cases q1 : dg 4 c 0 < dg 4 c 2 ∧ dg 4 c 1 < dg 4 c 3
    · rw [if_pos q1, decide_eq_true q1, Bool.and_true]
    · rw [if_neg q1, decide_eq_false q1, Bool.and_false]; rfl
  · intro a b x y ha hb hx hy
    obtain ⟨-, d0, d1, d2, d3⟩ := dig4d ha hb hx hy
    obtain ⟨-, f0, f1, f2, f3⟩ := dig4d hx hb ha hy
    refine ite_iff ?_ (kap_r (Or.inl ⟨f0.trans d2.symm, f1.trans d1.symm, f2.trans d0.symm, f3.trans d3.symm⟩))
    rw [vld_r ha hb hx hy, vld_r hx hb ha hy]
    constructor <;> (rintro ⟨⟨s0, s1, s2, s3⟩, ⟨n1, n2, n3⟩, ⟨n4, n5⟩, n6⟩; exact ⟨⟨s2, s1, s0, s3⟩, ⟨n4.symm, n2.symm, n6⟩, ⟨n1.symm, n5⟩, n3⟩)
  · intro a b x y ha hb hx hy
    obtain ⟨-, d0, d1, d2, d3⟩ := dig4d ha hb hx hy
    obtain ⟨-, f0, f1, f2, f3⟩ := dig4d ha hy hx hb
    refine ite_iff ?_ (kap_r (Or.inr ⟨f0.trans d0.symm, f1.trans d3.symm, f2.trans d2.symm, f3.trans d1.symm⟩))
    rw [vld_r ha hb hx hy, vld_r ha hy hx hb]
    constructor <;> (rintro ⟨⟨s0, s1, s2, s3⟩, ⟨n1, n2, n3⟩, ⟨n4, n5⟩, n6⟩; exact ⟨⟨s0, s3, s2, s1⟩, ⟨n3, n2, n1⟩, ⟨n6.symm, n5.symm⟩, n4.symm⟩)
  · intro a b y ha hb hy
    exact if_neg (fun z => ((vld_r ha hb ha hy).mp z).2.1.2.1 rfl)
  · intro a b x ha hb hx
    exact if_neg (fun z => ((vld_r ha hb hx hb).mp z).2.2.1.2 rfl)
def insG (ss : List Sg) (h mk : Nat) (s : List Nat) : ISt := foldP (v4 s.length) (istepW 4 ss h mk s 4) 65536 (foldP (vld s.length 2) (istepW 1 ss h mk s 2) 256 (0, 0, 0, 0))
theorem insG_eq {ss : List Sg} {h mk : Nat} {s : List Nat} : insG ss h mk s = insF ss h mk s := by
  have e : ∀ N, istep ss h mk s N = istepW 1 ss h mk s N := fun N => funext fun c => funext fun b => istep_W
  rw [insG, insF, e, e]
  generalize foldP (vld s.length 2) (istepW 1 ss h mk s 2) 256 (0, 0, 0, 0) = B
  refine Prod.ext ?_ ?_
  · rw [fold_1, fold_1, kap_sum, Nat.one_mul]
  · rw [fold_2, fold_2]; exact (ins_eq2 65536).1
