-- stretches of code and what they tell: the reference
theorem CloR.sub {c : Nat → Int × Int} {e : Nat → Int} {a b a' b' : Nat} {K : Nat → List Int → Prop} {B : Prop} (h : CloR c e a b K B) (h1 : a ≤ a') (h2 : b' ≤ b) : CloR c e a' b' K B :=
  ⟨fun k S k' S' q1 q2 => h.1 k S k' S' (by omega) (by omega), fun k S q1 q2 => h.2 k S (by omega) (by omega)⟩
theorem stpR_congr {c c' : Nat → Int × Int} {e : Nat → Int} {k : Nat} {S : List Int} (h : c' k = c k) : stpR c' e k S = stpR c e k S := by
  unfold stpR
  rw [h]
theorem RealR.congr {c c' : Nat → Int × Int} {a b : Nat} {v : SV} (h : RealR c a b v) (hc : ∀ j, a ≤ j → j < b → c' j = c j) : RealR c' a b v := by
  intro e K B hK
  refine h e K B ⟨fun k S k' S' q1 q2 q3 => ?_, fun k S q1 q2 q3 => ?_⟩
  · exact hK.1 k S k' S' q1 q2 (by rw [stpR_congr (hc k q1 q2)]; exact q3)
  · exact hK.2 k S q1 q2 (by rw [stpR_congr (hc k q1 q2)]; exact q3)
theorem R_leaf {c : Nat → Int × Int} {a k v : Nat} (hk : k ≤ 5) (hc : c a = ((k : Int), (v : Int))) : RealR c a (a + 1) (svLeaf k v) := by
  intro e K B hK S hz hn
  refine hK.1 a S (a + 1) ((if k = 0 then (v : Int) else e k) :: S) (Nat.le_refl _) (by omega) ?_ (hz _ rfl)
  unfold stpR
  rw [hc]
  simp only []
  rw [if_neg (by omega), if_pos (by omega)]
  by_cases h0 : k = 0
  · subst h0; rfl
  · rw [if_neg h0, if_neg (by omega)]; rfl
theorem R_ar {c : Nat → Int × Int} {a b d op : Nat} {v w : SV} {z0 : Int} (h1 : RealR c a b v) (h2 : RealR c b d w) (hab : a ≤ b) (hbd : b ≤ d) (ho : 19 ≤ op ∧ op ≤ 23) (hc : c d = ((op : Int), z0)) : RealR c a (d + 1) (sv2 op v w) := by
  intro e K B hK S hz hn
  refine h1 e K B (hK.sub (Nat.le_refl _) (by omega)) S (fun x hx => ?_) (fun hx => hn (by unfold sv2; rw [hx]; rfl))
  refine h2 e K B (hK.sub hab (by omega)) (x :: S) (fun y hy => ?_) (fun hy => hn (by unfold sv2; rw [hx, hy]; rfl))
  have hs : stpR c e d (y :: x :: S) = (match arZ op x y with
      | some z => some (some (d + 1, z :: S))
      | none => some none) := by
    unfold stpR
    rw [hc]
    simp only []
    rw [if_neg (by omega), if_neg (by omega), if_neg (by omega), if_pos (by omega)]
    rfl
  cases hr : arZ op x y with
  | some z => exact hK.1 d _ (d + 1) (z :: S) (by omega) (by omega) (by rw [hs, hr]) (hz z (by unfold sv2; rw [hx, hy]; exact hr))
  | none => exact hK.2 d _ (by omega) (by omega) (by rw [hs, hr]) (hn (by unfold sv2; rw [hx, hy]; exact hr))
theorem RealRT.use {c : Nat → Int × Int} {a b : Nat} {t : TV} (h : RealRT c a b t) (e : Nat → Int) (K : Nat → List Int → Prop) (B : Prop) (hK : CloR c e a b K B) (S : List Int) (hz : ∀ z, t e = some z → K b (b2i z :: S)) (hn : t e = none → B) : K a S := by
  refine h e K B hK S (fun z hz2 => ?_) (fun hz2 => ?_)
  · have hz3 : (t e).map b2i = some z := hz2
    cases ht : t e with
    | none => rw [ht] at hz3; cases hz3
    | some q => rw [ht] at hz3; cases hz3; exact hz q ht
  · have hz3 : (t e).map b2i = none := hz2
    cases ht : t e with
    | none => exact hn ht
    | some q => rw [ht] at hz3; cases hz3
theorem RealRT.mk {c : Nat → Int × Int} {a b : Nat} {t : TV} (h : ∀ (e : Nat → Int) (K : Nat → List Int → Prop) (B : Prop), CloR c e a b K B → ∀ S, (∀ z, t e = some z → K b (b2i z :: S)) → (t e = none → B) → K a S) : RealRT c a b t := by
  intro e K B hK S hz hn
  refine h e K B hK S (fun z hz2 => hz _ ?_) (fun hz2 => hn ?_)
  · show (t e).map b2i = _
    rw [hz2]; rfl
  · show (t e).map b2i = _
    rw [hz2]; rfl
theorem R_cmp {c : Nat → Int × Int} {a b d op : Nat} {v w : SV} {z0 : Int} (h1 : RealR c a b v) (h2 : RealR c b d w) (hab : a ≤ b) (hbd : b ≤ d) (ho : 24 ≤ op ∧ op ≤ 26) (hc : c d = ((op : Int), z0)) : RealRT c a (d + 1) (tv2 op v w) := by
  refine RealRT.mk fun e K B hK S hz hn => ?_
  refine h1 e K B (hK.sub (Nat.le_refl _) (by omega)) S (fun x hx => ?_) (fun hx => hn (by unfold tv2; rw [hx]; rfl))
  refine h2 e K B (hK.sub hab (by omega)) (x :: S) (fun y hy => ?_) (fun hy => hn (by unfold tv2; rw [hx, hy]; rfl))
  refine hK.1 d _ (d + 1) (b2i (cmpZ op x y) :: S) (by omega) (by omega) ?_ (hz _ (by unfold tv2; rw [hx, hy]; rfl))
  unfold stpR
  rw [hc]
  simp only []
  rw [if_neg (by omega), if_neg (by omega), if_neg (by omega), if_neg (by omega), if_pos (by omega)]
  rfl
theorem R_not {c : Nat → Int × Int} {a b : Nat} {t : TV} {z0 : Int} (h1 : RealRT c a b t) (hab : a ≤ b) (hc : c b = (27, z0)) : RealRT c a (b + 1) (tvNot t) := by
  refine RealRT.mk fun e K B hK S hz hn => ?_
  refine h1.use e K B (hK.sub (Nat.le_refl _) (by omega)) S (fun x hx => ?_) (fun hx => hn (by unfold tvNot; rw [hx]; rfl))
  refine hK.1 b _ (b + 1) (b2i (!x) :: S) (by omega) (by omega) ?_ (hz _ (by unfold tvNot; rw [hx]; rfl))
  unfold stpR
  rw [hc]
  cases x <;> rfl
theorem R_and {c : Nat → Int × Int} {a b d : Nat} {t u : TV} (h1 : RealRT c a b t) (h2 : RealRT c (b + 1) d u) (hab : a ≤ b) (hbd : b < d) (hc : c b = (28, (d : Int))) : RealRT c a d (tvAnd t u) := by
  refine RealRT.mk fun e K B hK S hz hn => ?_
  refine h1.use e K B (hK.sub (Nat.le_refl _) (by omega)) S (fun x hx => ?_) (fun hx => hn (by unfold tvAnd; rw [hx]; rfl))
  cases x with
  | false =>
    refine hK.1 b _ d (0 :: S) (by omega) (by omega) ?_ (hz false (by unfold tvAnd; rw [hx]; rfl))
    unfold stpR
    rw [hc]
    simp only [b2i]
    rw [if_neg (by decide), if_neg (by decide), if_neg (by decide), if_neg (by decide), if_neg (by decide), if_neg (by decide), if_pos (by decide)]
    simp only [Bool.false_eq_true, if_false, if_true, Int.toNat_natCast]
    rw [if_pos (by omega)]
  | true =>
    have hs : stpR c e b (b2i true :: S) = some (some (b + 1, S)) := by
      unfold stpR
      rw [hc]
      rfl
    refine hK.1 b _ (b + 1) S (by omega) (by omega) hs ?_
    refine h2.use e K B (hK.sub (by omega) (Nat.le_refl _)) S (fun y hy => hz y (by unfold tvAnd; rw [hx]; exact hy)) (fun hy => hn (by unfold tvAnd; rw [hx]; exact hy))
theorem R_or {c : Nat → Int × Int} {a b d : Nat} {t u : TV} (h1 : RealRT c a b t) (h2 : RealRT c (b + 1) d u) (hab : a ≤ b) (hbd : b < d) (hc : c b = (29, (d : Int))) : RealRT c a d (tvOr t u) := by
  refine RealRT.mk fun e K B hK S hz hn => ?_
  refine h1.use e K B (hK.sub (Nat.le_refl _) (by omega)) S (fun x hx => ?_) (fun hx => hn (by unfold tvOr; rw [hx]; rfl))
  cases x with
  | true =>
    refine hK.1 b _ d (1 :: S) (by omega) (by omega) ?_ (hz true (by unfold tvOr; rw [hx]; rfl))
    unfold stpR
    rw [hc]
    simp only [b2i]
    rw [if_neg (by decide), if_neg (by decide), if_neg (by decide), if_neg (by decide), if_neg (by decide), if_neg (by decide), if_pos (by decide)]
    simp only [if_true, Int.toNat_natCast]
    rw [if_pos (by simp), if_pos (by omega)]
  | false =>
    have hs : stpR c e b (b2i false :: S) = some (some (b + 1, S)) := by
      unfold stpR
      rw [hc]
      rfl
    refine hK.1 b _ (b + 1) S (by omega) (by omega) hs ?_
    refine h2.use e K B (hK.sub (by omega) (Nat.le_refl _)) S (fun y hy => hz y (by unfold tvOr; rw [hx]; exact hy)) (fun hy => hn (by unfold tvOr; rw [hx]; exact hy))
-- the class
theorem CloX.sub {c : Nat → Nat} {e : Nat → Int} {a b a' b' : Nat} {K : Nat → List Int → Bool → Prop} {B : Prop} (h : CloX c e a b K B) (h1 : a ≤ a') (h2 : b' ≤ b) : CloX c e a' b' K B :=
  ⟨fun k S so k' S' so' q1 q2 => h.1 k S so k' S' so' (by omega) (by omega), fun k S so q1 q2 => h.2 k S so (by omega) (by omega)⟩
theorem stpX_congr {c c' : Nat → Nat} {e : Nat → Int} {k : Nat} {S : List Int} {so : Bool} (h : c' k = c k) : stpX c' e k S so = stpX c e k S so := by
  unfold stpX
  rw [h]
theorem CloX.congr {c c' : Nat → Nat} {e : Nat → Int} {a b : Nat} {K : Nat → List Int → Bool → Prop} {B : Prop} (hK : CloX c' e a b K B) (hc : ∀ j, a ≤ j → j < b → c' j = c j) : CloX c e a b K B :=
  ⟨fun k S so k' S' so' q1 q2 q3 => hK.1 k S so k' S' so' q1 q2 (by rw [stpX_congr (hc k q1 q2)]; exact q3), fun k S so q1 q2 q3 => hK.2 k S so q1 q2 (by rw [stpX_congr (hc k q1 q2)]; exact q3)⟩
theorem RealX.congr {c c' : Nat → Nat} {a b : Nat} {v : SV} (h : RealX c a b v) (hc : ∀ j, a ≤ j → j < b → c' j = c j) : RealX c' a b v := fun e K B hK => h e K B (hK.congr hc)
theorem RealXT.congr {c c' : Nat → Nat} {a b : Nat} {v : TV} (h : RealXT c a b v) (hc : ∀ j, a ≤ j → j < b → c' j = c j) : RealXT c' a b v := fun e K B hK => h e K B (hK.congr hc)
theorem kd32 {k v x : Nat} (hk : k < 32) (hx : x = 32 * v + k) : x % 32 = k ∧ x / 32 = v := by omega
theorem X_leaf {c : Nat → Nat} {a k v : Nat} (hk : k ≤ 5) (hc : c a = 32 * v + k) : RealX c a (a + 1) (svLeaf k v) := by
  intro e K B hK S so hz hn
  obtain ⟨e1, e2⟩ := kd32 (by omega) hc
  refine hK.1 a S so (a + 1) ((if k = 0 then (v : Int) else e k) :: S) so (Nat.le_refl _) (by omega) ?_ (hz _ rfl)
  unfold stpX
  rw [e1, e2]
  by_cases h0 : k = 0
  · rw [if_pos h0, if_pos h0]
  · rw [if_neg h0, if_neg h0, if_pos hk]
theorem X_ar {c : Nat → Nat} {a b d kd : Nat} {v w : SV} (h1 : RealX c a b v) (h2 : RealX c b d w) (hab : a ≤ b) (hbd : b ≤ d) (ho : 6 ≤ kd ∧ kd ≤ 10) (hc : c d = kd) : RealX c a (d + 1) (sv2 (arX kd) v w) := by
  intro e K B hK S so hz hn
  refine h1 e K B (hK.sub (Nat.le_refl _) (by omega)) S so (fun x hx => ?_) (fun hx => hn (by unfold sv2; rw [hx]; rfl))
  refine h2 e K B (hK.sub hab (by omega)) (x :: S) so (fun y hy => ?_) (fun hy => hn (by unfold sv2; rw [hx, hy]; rfl))
  have e1 : c d % 32 = kd := by omega
  have hs : stpX c e d (y :: x :: S) so = (match arZ (arX kd) x y with
      | some z => some (some (d + 1, z :: S, so))
      | none => some none) := by
    unfold stpX
    rw [e1]
    rw [if_neg (by omega), if_neg (by omega), if_pos (by omega)]
    rfl
  cases hr : arZ (arX kd) x y with
  | some z => exact hK.1 d _ so (d + 1) (z :: S) so (by omega) (by omega) (by rw [hs, hr]) (hz z (by unfold sv2; rw [hx, hy]; exact hr))
  | none => exact hK.2 d _ so (by omega) (by omega) (by rw [hs, hr]) (hn (by unfold sv2; rw [hx, hy]; exact hr))
theorem X_cmp {c : Nat → Nat} {a b d kd : Nat} {v w : SV} (h1 : RealX c a b v) (h2 : RealX c b d w) (hab : a ≤ b) (hbd : b ≤ d) (ho : 11 ≤ kd ∧ kd ≤ 13) (hc : c d = kd) : RealXT c a (d + 1) (tv2 (cmX kd) v w) := by
  intro e K B hK S so hz hn
  refine h1 e K B (hK.sub (Nat.le_refl _) (by omega)) S so (fun x hx => ?_) (fun hx => hn (by unfold tv2; rw [hx]; rfl))
  refine h2 e K B (hK.sub hab (by omega)) (x :: S) so (fun y hy => ?_) (fun hy => hn (by unfold tv2; rw [hx, hy]; rfl))
  have e1 : c d % 32 = kd := by omega
  refine hK.1 d _ so (d + 1) S (cmpZ (cmX kd) x y) (by omega) (by omega) ?_ (hz _ (by unfold tv2; rw [hx, hy]; rfl))
  unfold stpX
  rw [e1]
  rw [if_neg (by omega), if_neg (by omega), if_neg (by omega), if_pos (by omega)]
theorem X_not {c : Nat → Nat} {a b : Nat} {t : TV} (h1 : RealXT c a b t) (hab : a ≤ b) (hc : c b = 14) : RealXT c a (b + 1) (tvNot t) := by
  intro e K B hK S so hz hn
  refine h1 e K B (hK.sub (Nat.le_refl _) (by omega)) S so (fun x hx => ?_) (fun hx => hn (by unfold tvNot; rw [hx]; rfl))
  refine hK.1 b _ x (b + 1) S (!x) (by omega) (by omega) ?_ (hz _ (by unfold tvNot; rw [hx]; rfl))
  unfold stpX
  rw [hc]
  rfl
theorem X_and {c : Nat → Nat} {a b d : Nat} {t u : TV} (h1 : RealXT c a b t) (h2 : RealXT c (b + 1) d u) (hab : a ≤ b) (hbd : b < d) (hc : c b = 32 * d + 15) : RealXT c a d (tvAnd t u) := by
  intro e K B hK S so hz hn
  obtain ⟨e1, e2⟩ := kd32 (by omega) hc
  refine h1 e K B (hK.sub (Nat.le_refl _) (by omega)) S so (fun x hx => ?_) (fun hx => hn (by unfold tvAnd; rw [hx]; rfl))
  have hs : stpX c e b S x = (if x = false then some (some (d, S, x)) else some (some (b + 1, S, x))) := by
    unfold stpX
    rw [e1, e2]
    rw [if_neg (by decide), if_neg (by decide), if_neg (by decide), if_neg (by decide), if_neg (by decide), if_pos (by decide), if_pos hbd]
    rfl
  cases x with
  | false => exact hK.1 b _ _ d S false (by omega) (by omega) (by rw [hs]; rfl) (hz _ (by unfold tvAnd; rw [hx]; rfl))
  | true =>
    refine hK.1 b _ _ (b + 1) S true (by omega) (by omega) (by rw [hs]; rfl) ?_
    exact h2 e K B (hK.sub (by omega) (Nat.le_refl _)) S true (fun y hy => hz y (by unfold tvAnd; rw [hx]; exact hy)) (fun hy => hn (by unfold tvAnd; rw [hx]; exact hy))
theorem X_or {c : Nat → Nat} {a b d : Nat} {t u : TV} (h1 : RealXT c a b t) (h2 : RealXT c (b + 1) d u) (hab : a ≤ b) (hbd : b < d) (hc : c b = 32 * d + 16) : RealXT c a d (tvOr t u) := by
  intro e K B hK S so hz hn
  obtain ⟨e1, e2⟩ := kd32 (by omega) hc
  refine h1 e K B (hK.sub (Nat.le_refl _) (by omega)) S so (fun x hx => ?_) (fun hx => hn (by unfold tvOr; rw [hx]; rfl))
  have hs : stpX c e b S x = (if x = true then some (some (d, S, x)) else some (some (b + 1, S, x))) := by
    unfold stpX
    rw [e1, e2]
    rw [if_neg (by decide), if_neg (by decide), if_neg (by decide), if_neg (by decide), if_neg (by decide), if_pos (by decide), if_pos hbd]
    rfl
  cases x with
  | true => exact hK.1 b _ _ d S true (by omega) (by omega) (by rw [hs]; rfl) (hz _ (by unfold tvOr; rw [hx]; rfl))
  | false =>
    refine hK.1 b _ _ (b + 1) S false (by omega) (by omega) (by rw [hs]; rfl) ?_
    exact h2 e K B (hK.sub (by omega) (Nat.le_refl _)) S false (fun y hy => hz y (by unfold tvOr; rw [hx]; exact hy)) (fun hy => hn (by unfold tvOr; rw [hx]; exact hy))
theorem lcX_congr {c c' : Nat → Nat} : ∀ k, (∀ j, j < k → c' j % 32 = c j % 32) → lcX c' k = lcX c k
  | 0, _ => rfl
  | k + 1, h => by rw [lcX, lcX, lcX_congr k (fun j hj => h j (by omega)), h k (by omega)]
theorem lcX_mono {c : Nat → Nat} {k l : Nat} (h : k ≤ l) : lcX c k ≤ lcX c l := by
  obtain ⟨t, rfl⟩ := Nat.exists_eq_add_of_le h
  clear h
  induction t with
  | zero => exact Nat.le_refl _
  | succ t ih => rw [← Nat.add_assoc, lcX]; omega
-- the last clause that holds, from the last on
theorem lawSem_snoc (l : List ClA) (q : ClA) (e : Nat → Int) : lawSem (l ++ [q]) e = (clSem q e).or (lawSem l e) := by
  unfold lawSem
  rw [List.foldl_append]
  rfl
