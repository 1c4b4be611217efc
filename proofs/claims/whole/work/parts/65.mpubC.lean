/-- tooth number k of a train -/
def thN (tr : List (Nat × Nat)) (k : Nat) : Nat := if k % 2 = 0 then (tr.getD (k / 2) (0, 0)).1 else (tr.getD (k / 2) (0, 0)).2
def eqT (s t : List (Nat × Nat)) : Nat → Bool
  | 0 => true
  | j + 1 => eqT s t j && decide (thN s j = thN t j)
theorem eqT_iff {s t : List (Nat × Nat)} : ∀ j, eqT s t j = true ↔ ∀ i, i < j → thN s i = thN t i
  | 0 => ⟨fun _ i h => absurd h (by omega), fun _ => rfl⟩
  | j + 1 => by
    rw [eqT, Bool.and_eq_true, eqT_iff j, decide_eq_true_eq]
    constructor
    · rintro ⟨a, b⟩ i h
      by_cases e : i = j
      · subst e; exact b
      · exact a i (by omega)
    · intro a; exact ⟨fun i h => a i (by omega), a j (by omega)⟩
theorem th_row {r : Nat → Int32} {at_ k : Nat} {y : Hd} (hW : HdRow r at_ y) (hk : k < 2 * y.2.2.2.length) : r (at_ + 4 + k) = nI (thN y.2.2.2 k) := by
  have hp : k / 2 < y.2.2.2.length := by omega
  have hq := hW.2.2.2.2 _ _ (List.getElem?_eq_getElem hp)
  have hg : y.2.2.2.getD (k / 2) (0, 0) = y.2.2.2[k / 2] := by rw [List.getD_eq_getElem?_getD, List.getElem?_eq_getElem hp]; rfl
  unfold thN
  rw [hg]
  split
  · rw [← hq.1]; congr 1; omega
  · rw [← hq.2]; congr 1; omega
theorem th_bd {y : Hd} (hY : HdOK y) {k : Nat} (hk : k < 2 * y.2.2.2.length) : thN y.2.2.2 k ≤ 120 := by
  have hp : k / 2 < y.2.2.2.length := by omega
  have hg : y.2.2.2.getD (k / 2) (0, 0) = y.2.2.2[k / 2] := by rw [List.getD_eq_getElem?_getD, List.getElem?_eq_getElem hp]; rfl
  have := hY.2.2.2.2.2 _ (List.getElem_mem hp)
  unfold thN
  rw [hg]
  split <;> omega
theorem cpl_lt : ∀ (s t : List (Nat × Nat)) (p : Nat), p < cpl s t ↔ (p < s.length ∧ p < t.length ∧ ∀ i, i ≤ p → s.getD i (0, 0) = t.getD i (0, 0)) := by
  intro s
  induction s with
  | nil => intro t p; simp [cpl]
  | cons a s ih =>
    intro t p
    cases t with
    | nil => simp [cpl]
    | cons b t =>
      rw [cpl]
      by_cases e : a = b
      · subst e
        rw [if_pos rfl]
        cases p with
        | zero => simp
        | succ p =>
          have := ih t p
          constructor
          · intro h
            obtain ⟨h1, h2, h3⟩ := this.mp (by omega)
            refine ⟨by simp; omega, by simp; omega, fun i hi => ?_⟩
            cases i with
            | zero => rfl
            | succ i => exact h3 i (by omega)
          · rintro ⟨h1, h2, h3⟩
            have := this.mpr ⟨by simp at h1; omega, by simp at h2; omega, fun i hi => h3 (i + 1) (by omega)⟩
            omega
      · rw [if_neg e]
        constructor
        · intro h; omega
        · rintro ⟨-, -, h3⟩; exact absurd (h3 0 (by omega)) e
theorem alike_iff {s t : List (Nat × Nat)} {p : Nat} (hp : p < s.length) : (p < t.length ∧ eqT s t (2 * p + 2) = true) ↔ p < cpl s t := by
  rw [cpl_lt, eqT_iff]
  constructor
  · rintro ⟨h1, h2⟩
    refine ⟨hp, h1, fun i hi => ?_⟩
    have a := h2 (2 * i) (by omega)
    have b := h2 (2 * i + 1) (by omega)
    unfold thN at a b
    rw [if_pos (by omega), if_pos (by omega), show 2 * i / 2 = i by omega] at a
    rw [if_neg (by omega), if_neg (by omega), show (2 * i + 1) / 2 = i by omega] at b
    exact Prod.ext a b
  · rintro ⟨-, h1, h2⟩
    refine ⟨h1, fun i hi => ?_⟩
    unfold thN
    rw [h2 (i / 2) (by omega)]
theorem mxC_take {s : List (Nat × Nat)} {l : List Hd} {j : Nat} {y : Hd} (h : l[j]? = some y) : mxC s (l.take (j + 1)) = max (mxC s (l.take j)) (cpl s y.2.2.2) := by
  unfold mxC
  rw [List.take_add_one, h, Option.toList_some, List.foldl_append]
  rfl
theorem mxC_le {s : List (Nat × Nat)} : ∀ (l : List Hd), mxC s l ≤ s.length := by
  intro l
  have : ∀ (l : List Hd) (a : Nat), a ≤ s.length → l.foldl (fun a o => max a (cpl s o.2.2.2)) a ≤ s.length := by
    intro l
    induction l with
    | nil => intro a h; exact h
    | cons b t ih => intro a h; exact ih _ (by have := cpl_le s b.2.2.2; show max _ _ ≤ _; omega)
  exact this l 0 (Nat.zero_le _)
theorem shN_le {hs : List Hd} (h : ∀ x ∈ hs, HdOK x) : ∀ j, j ≤ hs.length → shN hs j ≤ 8 * j
  | 0, _ => Nat.le_refl 0
  | j + 1, hj => by
    rw [shN]
    have := shN_le h j (by omega)
    have hg : hs.getD j (0, 0, 0, []) = hs[j] := by rw [List.getD_eq_getElem?_getD, List.getElem?_eq_getElem (by omega)]; rfl
    have := (h _ (List.getElem_mem (show j < hs.length by omega))).2.2.2.2.1
    rw [hg]
    omega
theorem l_isAlike {g : gG} {d : Nat} {T : mT} {n : Nat} {I : mI} {J : mJ} {F : mF} {Q : mQ} {m h ho p : Nat} {y yo : Hd} {x z w : Int32} (hM : MS T F m) (hx : x = nI h) (hz : z = nI ho) (hw : w = nI p) (hH : HdM I m h y) (hO : HdM I m ho yo) (hp : p < y.2.2.2.length) (kk : V g mX12_isAlike (d + 1) Q 0 0 69 [some (.ref m), some (.int x), some (.int z), some (.int w), some (.int (bi (p < yo.2.2.2.length ∧ eqT y.2.2.2 yo.2.2.2 (2 * p + 2) = true))), some (.int (nI (2 * p + 2)))] [] T n I J F) : ∀ (t j : Nat) , j + t = 2 * p + 2 → (True) → V g mX12_isAlike (d + 1) Q 0 0 20 [some (.ref m), some (.int x), some (.int z), some (.int w), some (.int (bi (p < yo.2.2.2.length ∧ eqT y.2.2.2 yo.2.2.2 j = true))), some (.int (nI j))] [] T n I J F := by
  intro t
  induction t with
  | zero =>
    intro j  hj hi
    obtain rfl : j = 2 * p + 2 := by omega
    have h4 := hH.2.2.2.2.2.2.1
    refine V.iload (pc := 20) dX12_isAlike_20 rfl ?_
    refine V.iconst (v := 2) (pc := 22) dX12_isAlike_22 (by decide) ?_
    refine V.iload_n (pc := 23) dX12_isAlike_23 rfl ?_
    refine V.imul (pc := 24) dX12_isAlike_24 ?_
    refine V.iconst (v := 2) (pc := 25) dX12_isAlike_25 (by decide) ?_
    refine V.iadd (pc := 26) dX12_isAlike_26 ?_
    refine V.icmp_ge 69 (pc := 27) dX12_isAlike_27 (by decide) (fun h27 => ?_) (fun h27 => absurd (by rw [hw]; simp only [L2, pk_mul, nI_add]; exact nI_le (by omega) (by omega)) h27)
    exact kk
  | succ t ih =>
    intro j  hj hi
    have h4 := hH.2.2.2.2.2.2.1
    have h6 := hH.1
    have h6o := hO.1
    have h4o := hO.2.2.2.2.2.2.1
    refine V.iload (pc := 20) dX12_isAlike_20 rfl ?_
    refine V.iconst (v := 2) (pc := 22) dX12_isAlike_22 (by decide) ?_
    refine V.iload_n (pc := 23) dX12_isAlike_23 rfl ?_
    refine V.imul (pc := 24) dX12_isAlike_24 ?_
    refine V.iconst (v := 2) (pc := 25) dX12_isAlike_25 (by decide) ?_
    refine V.iadd (pc := 26) dX12_isAlike_26 ?_
    refine V.icmp_ge 69 (pc := 27) dX12_isAlike_27 (by decide) (fun h27 => absurd h27 (by rw [hw]; simp only [L2, pk_mul, nI_add]; exact nI_ge (by omega) (by omega))) (fun h27 => ?_)
    refine V.iload (pc := 30) dX12_isAlike_30 rfl ?_
    refine V.if_eq 60 (pc := 32) dX12_isAlike_32 (by decide) (fun h32 => ?_) (fun h32 => ?_)
    · refine V.iconst (v := 0) (pc := 60) dX12_isAlike_60 (by decide) ?_
      refine V.is (pc := 61) dX12_isAlike_61 (by decide) (st1_4 rfl) ?_
      refine V.iinc1 (pc := 63) dX12_isAlike_63 (by decide) rfl (st1_5 rfl) ?_
      refine V.goto 20 (pc := 66) dX12_isAlike_66 (by decide) ?_
      have z := ih (j + 1) (by omega) trivial
      rw [bi_f (fun e => bi_eq.mp h32 ⟨e.1, (Bool.and_eq_true _ _ ▸ e.2 : _ ∧ _).1⟩)] at z
      rw [nI_1]
      exact z
    · have hpo := (bi_ne.mp h32).1
      have e1 := th_row (k := j) hH.2.1 (by omega)
      have e2 := th_row (k := j) hO.2.1 (by omega)
      have b1 := th_bd (k := j) hH.2.2 (by omega)
      have b2 := th_bd (k := j) hO.2.2 (by omega)
      refine V.aload_n (pc := 35) dX12_isAlike_35 rfl ?_
      refine V.iload_n (pc := 36) dX12_isAlike_36 rfl ?_
      refine V.iconst (v := 4) (pc := 37) dX12_isAlike_37 (by decide) ?_
      refine V.iload (pc := 38) dX12_isAlike_38 rfl ?_
      refine V.iadd (pc := 40) dX12_isAlike_40 ?_
      refine V.pV (as := [_, _]) (pc := 41) dX12_isAlike_41 lX12_115 bX12_ofHand nX12_ofHand (ci := 11) rfl eX12_ofHand hM.o (c_ofHand (d := d + 0) (h := h) (w := 4 + j) _ _ hM hx (by simp only [L4, nI_add]) (by omega)) (by omega) rfl (Nat.le_of_ble_eq_true rfl) ?_
      rw [show 10 + 12 * h + (4 + j) = 10 + 12 * h + 4 + j by omega, e1]
      refine V.aload_n (pc := 44) dX12_isAlike_44 rfl ?_
      refine V.iload_n (pc := 45) dX12_isAlike_45 rfl ?_
      refine V.iconst (v := 4) (pc := 46) dX12_isAlike_46 (by decide) ?_
      refine V.iload (pc := 47) dX12_isAlike_47 rfl ?_
      refine V.iadd (pc := 49) dX12_isAlike_49 ?_
      refine V.pV (as := [_, _]) (pc := 50) dX12_isAlike_50 lX12_115 bX12_ofHand nX12_ofHand (ci := 11) rfl eX12_ofHand hM.o (c_ofHand (d := d + 0) (h := ho) (w := 4 + j) _ _ hM hz (by simp only [L4, nI_add]) (by omega)) (by omega) rfl (Nat.le_of_ble_eq_true rfl) ?_
      rw [show 10 + 12 * ho + (4 + j) = 10 + 12 * ho + 4 + j by omega, e2]
      refine V.icmp_ne 60 (pc := 53) dX12_isAlike_53 (by decide) (fun h53 => ?_) (fun h53 => ?_)
      · rw [nI_eq (by omega) (by omega)] at h53
        refine V.iconst (v := 0) (pc := 60) dX12_isAlike_60 (by decide) ?_
        refine V.is (pc := 61) dX12_isAlike_61 (by decide) (st1_4 rfl) ?_
        refine V.iinc1 (pc := 63) dX12_isAlike_63 (by decide) rfl (st1_5 rfl) ?_
        refine V.goto 20 (pc := 66) dX12_isAlike_66 (by decide) ?_
        have z := ih (j + 1) (by omega) trivial
        rw [bi_f (fun e => h53 (of_decide_eq_true (Bool.and_eq_true _ _ ▸ e.2 : _ ∧ _).2))] at z
        rw [nI_1]
        exact z
      · rw [nI_eq (by omega) (by omega)] at h53
        refine V.iconst (v := 1) (pc := 56) dX12_isAlike_56 (by decide) ?_
        refine V.goto 61 (pc := 57) dX12_isAlike_57 (by decide) ?_
        refine V.is (pc := 61) dX12_isAlike_61 (by decide) (st1_4 rfl) ?_
        refine V.iinc1 (pc := 63) dX12_isAlike_63 (by decide) rfl (st1_5 rfl) ?_
        refine V.goto 20 (pc := 66) dX12_isAlike_66 (by decide) ?_
        have z := ih (j + 1) (by omega) trivial
        rw [bi_t ⟨(bi_ne.mp h32).1, by rw [eqT, (bi_ne.mp h32).2, decide_eq_true h53]; rfl⟩] at z
        rw [nI_1]
        exact z
theorem c_isAlike {g : gG} {d : Nat} {T : mT} {n : Nat} {I : mI} {J : mJ} {F : mF} {m h ho p : Nat} {y yo : Hd} (x z w : Int32) (hM : MS T F m) (hx : x = nI h) (hz : z = nI ho) (hw : w = nI p) (hH : HdM I m h y) (hO : HdM I m ho yo) (hp : p < y.2.2.2.length) : Ct g mX12_isAlike (d + 1) [.ref m, .int x, .int z, .int w] 0 0 T n I J F (pureQ T n I J F (some (.int (bi (p < cpl y.2.2.2 yo.2.2.2))))) := by
  refine Ct.ofV (k := 2) (by decide) (Nat.le_of_ble_eq_true rfl) ?_
  show V g mX12_isAlike (d + 1) _ 0 0 0 [some (.ref m), some (.int x), some (.int z), some (.int w), none, none] [] T n I J F
  have h6 := hO.1
  have h4o := hO.2.2.2.2.2.2.1
  have h4 := hH.2.2.2.2.2.2.1
  refine V.aload_n (pc := 0) dX12_isAlike_0 rfl ?_
  refine V.iload_n (pc := 1) dX12_isAlike_1 rfl ?_
  refine V.iconst (v := 3) (pc := 2) dX12_isAlike_2 (by decide) ?_
  refine V.pV (as := [_, _]) (pc := 3) dX12_isAlike_3 lX12_115 bX12_ofHand nX12_ofHand (ci := 11) rfl eX12_ofHand hM.o (c_ofHand (d := d + 0) (h := ho) (w := 3) _ _ hM hz rfl (by omega)) (by omega) rfl (Nat.le_of_ble_eq_true rfl) ?_
  rw [hO.2.1.2.2.2.1]
  refine V.iload_n (pc := 6) dX12_isAlike_6 rfl ?_
  refine V.icmp_le 14 (pc := 7) dX12_isAlike_7 (by decide) (fun h7 => ?_) (fun h7 => ?_)
  · rw [hw, nI_leI (by omega) (by omega)] at h7
    refine V.iconst (v := 0) (pc := 14) dX12_isAlike_14 (by decide) ?_
    refine V.is (pc := 15) dX12_isAlike_15 (by decide) (st1_4 rfl) ?_
    refine V.iconst (v := 0) (pc := 17) dX12_isAlike_17 (by decide) ?_
    refine V.is (pc := 18) dX12_isAlike_18 (by decide) (st1_5 rfl) ?_
    refine Eq.mp (congrArg (fun v => V g mX12_isAlike (d + 1) _ 0 0 20 [some (.ref m), some (.int x), some (.int z), some (.int w), some (.int v), some (.int (nI 0))] [] T n I J F) (show bi (p < yo.2.2.2.length ∧ eqT y.2.2.2 yo.2.2.2 0 = true) = 0 from bi_f (fun e => absurd e.1 (by omega)))) (l_isAlike hM hx hz hw hH hO hp ?_ (2 * p + 2) 0 (by omega) trivial)
    rw [bi_c (alike_iff hp)]
    refine V.iload (pc := 69) dX12_isAlike_69 rfl ?_
    exact V.zret (pc := 71) dX12_isAlike_71 rfl (by first | exact Or.inl rfl | exact Or.inr rfl | exact bi_or | assumption) ⟨rfl, rfl, rfl, rfl, rfl, rfl⟩
  · rw [hw, nI_leI (by omega) (by omega)] at h7
    refine V.iconst (v := 1) (pc := 10) dX12_isAlike_10 (by decide) ?_
    refine V.goto 15 (pc := 11) dX12_isAlike_11 (by decide) ?_
    refine V.is (pc := 15) dX12_isAlike_15 (by decide) (st1_4 rfl) ?_
    refine V.iconst (v := 0) (pc := 17) dX12_isAlike_17 (by decide) ?_
    refine V.is (pc := 18) dX12_isAlike_18 (by decide) (st1_5 rfl) ?_
    refine Eq.mp (congrArg (fun v => V g mX12_isAlike (d + 1) _ 0 0 20 [some (.ref m), some (.int x), some (.int z), some (.int w), some (.int v), some (.int (nI 0))] [] T n I J F) (show bi (p < yo.2.2.2.length ∧ eqT y.2.2.2 yo.2.2.2 0 = true) = 1 from bi_t ⟨by omega, rfl⟩)) (l_isAlike hM hx hz hw hH hO hp ?_ (2 * p + 2) 0 (by omega) trivial)
    rw [bi_c (alike_iff hp)]
    refine V.iload (pc := 69) dX12_isAlike_69 rfl ?_
    exact V.zret (pc := 71) dX12_isAlike_71 rfl (by first | exact Or.inl rfl | exact Or.inr rfl | exact bi_or | assumption) ⟨rfl, rfl, rfl, rfl, rfl, rfl⟩
theorem l_shO {g : gG} {d : Nat} {T : mT} {n : Nat} {I : mI} {J : mJ} {F : mF} {Q : mQ} {m h k : Nat} {A : Ab} {v1 : Int32} {y : Hd} (hM : MS T F m) (hA : AbOK A) (hR : RepM I J m A) (hy : (hds (cor A))[h]? = some y) (hk : k < y.2.2.2.length) (kk : V g mX12_shared (d + 2) Q 0 0 72 [some (.ref m), some (.int v1), some (.int (nI h)), some (.int (nI k)), some (.int (bi (mxC y.2.2.2 ((hds (cor A)).take h) ≤ k))), some (.int (nI h))] [] T n I J F) : ∀ (t j : Nat) , j + t = h → (True) → V g mX12_shared (d + 2) Q 0 0 37 [some (.ref m), some (.int v1), some (.int (nI h)), some (.int (nI k)), some (.int (bi (mxC y.2.2.2 ((hds (cor A)).take j) ≤ k))), some (.int (nI j))] [] T n I J F := by
  intro t
  induction t with
  | zero =>
    intro j  hj hi
    obtain rfl : j = h := by omega
    have hl : j < (hds (cor A)).length := (List.getElem?_eq_some_iff.mp hy).1
    have h6 := hA.1.1
    refine V.iload (pc := 37) dX12_shared_37 rfl ?_
    refine V.iload_n (pc := 39) dX12_shared_39 rfl ?_
    refine V.icmp_ge 72 (pc := 40) dX12_shared_40 (by decide) (fun h40 => ?_) (fun h40 => absurd (nI_le (Nat.le_refl _) (by omega)) h40)
    exact kk
  | succ t ih =>
    intro j  hj hi
    have hl : h < (hds (cor A)).length := (List.getElem?_eq_some_iff.mp hy).1
    have h6 := hA.1.1
    obtain ⟨yo, hyo⟩ : ∃ yo, (hds (cor A))[j]? = some yo := ⟨_, List.getElem?_eq_getElem (by omega)⟩
    refine V.iload (pc := 37) dX12_shared_37 rfl ?_
    refine V.iload_n (pc := 39) dX12_shared_39 rfl ?_
    refine V.icmp_ge 72 (pc := 40) dX12_shared_40 (by decide) (fun h40 => absurd h40 (nI_ge (by omega) (by omega))) (fun h40 => ?_)
    refine V.iload (pc := 43) dX12_shared_43 rfl ?_
    refine V.if_eq 63 (pc := 45) dX12_shared_45 (by decide) (fun h45 => ?_) (fun h45 => ?_)
    · refine V.iconst (v := 0) (pc := 63) dX12_shared_63 (by decide) ?_
      refine V.is (pc := 64) dX12_shared_64 (by decide) (st1_4 rfl) ?_
      refine V.iinc1 (pc := 66) dX12_shared_66 (by decide) rfl (st1_5 rfl) ?_
      refine V.goto 37 (pc := 69) dX12_shared_69 (by decide) ?_
      have z := ih (j + 1) (by omega) trivial
      rw [mxC_take hyo, bi_f (fun e => bi_eq.mp h45 (by omega))] at z
      rw [nI_1]
      exact z
    · refine V.aload_n (pc := 48) dX12_shared_48 rfl ?_
      refine V.iload_n (pc := 49) dX12_shared_49 rfl ?_
      refine V.iload (pc := 50) dX12_shared_50 rfl ?_
      refine V.iload_n (pc := 52) dX12_shared_52 rfl ?_
      refine V.pV (as := [_, _, _]) (pc := 53) dX12_shared_53 lX12_439 bX12_isAlike nX12_isAlike (ci := 11) rfl eX12_isAlike hM.o (c_isAlike (d := d + 0) (h := h) (ho := j) (p := k) (y := y) (yo := yo) _ _ _ hM rfl rfl rfl (hR.hd hA hy) (hR.hd hA hyo) hk) (by omega) rfl (Nat.le_of_ble_eq_true rfl) ?_
      refine V.if_ne 63 (pc := 56) dX12_shared_56 (by decide) (fun h56 => ?_) (fun h56 => ?_)
      · refine V.iconst (v := 0) (pc := 63) dX12_shared_63 (by decide) ?_
        refine V.is (pc := 64) dX12_shared_64 (by decide) (st1_4 rfl) ?_
        refine V.iinc1 (pc := 66) dX12_shared_66 (by decide) rfl (st1_5 rfl) ?_
        refine V.goto 37 (pc := 69) dX12_shared_69 (by decide) ?_
        have z := ih (j + 1) (by omega) trivial
        rw [mxC_take hyo, bi_f (fun e => by have := bi_ne.mp h56; omega)] at z
        rw [nI_1]
        exact z
      · refine V.iconst (v := 1) (pc := 59) dX12_shared_59 (by decide) ?_
        refine V.goto 64 (pc := 60) dX12_shared_60 (by decide) ?_
        refine V.is (pc := 64) dX12_shared_64 (by decide) (st1_4 rfl) ?_
        refine V.iinc1 (pc := 66) dX12_shared_66 (by decide) rfl (st1_5 rfl) ?_
        refine V.goto 37 (pc := 69) dX12_shared_69 (by decide) ?_
        have z := ih (j + 1) (by omega) trivial
        rw [mxC_take hyo, bi_t (by have := bi_ne.mp h45; have := bi_eq.mp h56; omega)] at z
        rw [nI_1]
        exact z
theorem l_shK {g : gG} {d : Nat} {T : mT} {n : Nat} {I : mI} {J : mJ} {F : mF} {Q : mQ} {m h b0 : Nat} {A : Ab} {y : Hd} (hM : MS T F m) (hA : AbOK A) (hR : RepM I J m A) (hy : (hds (cor A))[h]? = some y) (hb : b0 ≤ 1000) (kk : V g mX12_shared (d + 2) Q 0 0 91 [some (.ref m), some (.int (nI (b0 + 2 * (y.2.2.2.length - mxC y.2.2.2 ((hds (cor A)).take h))))), some (.int (nI h)), some (.int (nI y.2.2.2.length)), none, none] [] T n I J F) : ∀ (t j : Nat) , j + t = y.2.2.2.length → (True) → V g mX12_shared (d + 2) Q 0 0 21 [some (.ref m), some (.int (nI (b0 + 2 * (j - mxC y.2.2.2 ((hds (cor A)).take h))))), some (.int (nI h)), some (.int (nI j)), none, none] [] T n I J F := by
  intro t
  induction t with
  | zero =>
    intro j  hj hi
    obtain rfl : j = y.2.2.2.length := by omega
    have hH := hR.hd hA hy
    have h6 := hH.1
    have h4 := hH.2.2.2.2.2.2.1
    refine V.iload_n (pc := 21) dX12_shared_21 rfl ?_
    refine V.aload_n (pc := 22) dX12_shared_22 rfl ?_
    refine V.iload_n (pc := 23) dX12_shared_23 rfl ?_
    refine V.iconst (v := 3) (pc := 24) dX12_shared_24 (by decide) ?_
    refine V.pV (as := [_, _]) (pc := 25) dX12_shared_25 lX12_115 bX12_ofHand nX12_ofHand (ci := 11) rfl eX12_ofHand hM.o (c_ofHand (d := d + 1) (h := h) (w := 3) _ _ hM rfl rfl (by omega)) (by omega) rfl (Nat.le_of_ble_eq_true rfl) ?_
    rw [hH.2.1.2.2.2.1]
    refine V.icmp_ge 91 (pc := 28) dX12_shared_28 (by decide) (fun h28 => ?_) (fun h28 => absurd (nI_le (Nat.le_refl _) (by omega)) h28)
    exact kk
  | succ t ih =>
    intro j  hj hi
    have hH := hR.hd hA hy
    have h6 := hH.1
    have h4 := hH.2.2.2.2.2.2.1
    refine V.iload_n (pc := 21) dX12_shared_21 rfl ?_
    refine V.aload_n (pc := 22) dX12_shared_22 rfl ?_
    refine V.iload_n (pc := 23) dX12_shared_23 rfl ?_
    refine V.iconst (v := 3) (pc := 24) dX12_shared_24 (by decide) ?_
    refine V.pV (as := [_, _]) (pc := 25) dX12_shared_25 lX12_115 bX12_ofHand nX12_ofHand (ci := 11) rfl eX12_ofHand hM.o (c_ofHand (d := d + 1) (h := h) (w := 3) _ _ hM rfl rfl (by omega)) (by omega) rfl (Nat.le_of_ble_eq_true rfl) ?_
    rw [hH.2.1.2.2.2.1]
    refine V.icmp_ge 91 (pc := 28) dX12_shared_28 (by decide) (fun h28 => absurd h28 (nI_ge (by omega) (by omega))) (fun h28 => ?_)
    refine V.iconst (v := 1) (pc := 31) dX12_shared_31 (by decide) ?_
    refine V.is (pc := 32) dX12_shared_32 (by decide) (st1_4 rfl) ?_
    refine V.iconst (v := 0) (pc := 34) dX12_shared_34 (by decide) ?_
    refine V.is (pc := 35) dX12_shared_35 (by decide) (st1_5 rfl) ?_
    conv => arg 8; rw [show (1 : Int32) = bi (mxC y.2.2.2 ((hds (cor A)).take 0) ≤ j) from (bi_t (Nat.zero_le _)).symm, L0]
    refine l_shO hM hA hR hy (by omega) ?_ h 0 (by omega) trivial
    refine V.iload_n (pc := 72) dX12_shared_72 rfl ?_
    refine V.iload (pc := 73) dX12_shared_73 rfl ?_
    refine V.if_eq 82 (pc := 75) dX12_shared_75 (by decide) (fun h75 => ?_) (fun h75 => ?_)
    · refine V.iconst (v := 0) (pc := 82) dX12_shared_82 (by decide) ?_
      refine V.iadd (pc := 83) dX12_shared_83 ?_
      refine V.isn (pc := 84) dX12_shared_84 (by decide) (st1_1 rfl) ?_
      refine V.iinc1 (pc := 85) dX12_shared_85 (by decide) rfl (st1_3 rfl) ?_
      refine V.goto 21 (pc := 88) dX12_shared_88 (by decide) ?_
      refine V.weak wk_4 ?_
      refine V.weak wk_5 ?_
      have z := ih (j + 1) (by omega) trivial
      have hq := bi_eq.mp h75
      rw [L0, nI_add, nI_1]
      rw [show b0 + 2 * (j + 1 - mxC y.2.2.2 ((hds (cor A)).take h)) = b0 + 2 * (j - mxC y.2.2.2 ((hds (cor A)).take h)) + 0 by omega] at z
      exact z
    · refine V.iconst (v := 2) (pc := 78) dX12_shared_78 (by decide) ?_
      refine V.goto 83 (pc := 79) dX12_shared_79 (by decide) ?_
      refine V.iadd (pc := 83) dX12_shared_83 ?_
      refine V.isn (pc := 84) dX12_shared_84 (by decide) (st1_1 rfl) ?_
      refine V.iinc1 (pc := 85) dX12_shared_85 (by decide) rfl (st1_3 rfl) ?_
      refine V.goto 21 (pc := 88) dX12_shared_88 (by decide) ?_
      refine V.weak wk_4 ?_
      refine V.weak wk_5 ?_
      have z := ih (j + 1) (by omega) trivial
      have hq := bi_ne.mp h75
      rw [L2, nI_add, nI_1]
      rw [show b0 + 2 * (j + 1 - mxC y.2.2.2 ((hds (cor A)).take h)) = b0 + 2 * (j - mxC y.2.2.2 ((hds (cor A)).take h)) + 2 by omega] at z
      exact z
theorem l_shH {g : gG} {d : Nat} {T : mT} {n : Nat} {I : mI} {J : mJ} {F : mF} {Q : mQ} {m : Nat} {A : Ab} (hM : MS T F m) (hA : AbOK A) (hR : RepM I J m A) (kk : V g mX12_shared (d + 2) Q 0 0 97 [some (.ref m), some (.int (nI (shN (hds (cor A)) (hds (cor A)).length))), some (.int (nI (hds (cor A)).length)), none, none, none] [] T n I J F) : ∀ (t j : Nat) , j + t = (hds (cor A)).length → (True) → V g mX12_shared (d + 2) Q 0 0 9 [some (.ref m), some (.int (nI (shN (hds (cor A)) j))), some (.int (nI j)), none, none, none] [] T n I J F := by
  intro t
  induction t with
  | zero =>
    intro j  hj hi
    obtain rfl : j = (hds (cor A)).length := by omega
    have h6 := hA.1.1
    refine V.iload_n (pc := 9) dX12_shared_9 rfl ?_
    refine V.aload_n (pc := 10) dX12_shared_10 rfl ?_
    refine V.getR (pc := 11) dX12_shared_11 fX12_13_11 rfl hM.o hM.f3 ?_
    refine V.iconst (v := 0) (pc := 14) dX12_shared_14 (by decide) ?_
    refine V.iald' (k := 0) (pc := 15) dX12_shared_15 hM.t3 rfl (by decide) (by decide) ?_
    rw [hR.h0]
    refine V.icmp_ge 97 (pc := 16) dX12_shared_16 (by decide) (fun h16 => ?_) (fun h16 => absurd (nI_le (Nat.le_refl _) (by omega)) h16)
    exact kk
  | succ t ih =>
    intro j  hj hi
    have h6 := hA.1.1
    obtain ⟨y, hy⟩ : ∃ y, (hds (cor A))[j]? = some y := ⟨_, List.getElem?_eq_getElem (by omega)⟩
    have hsl := shN_le hA.1.2.1 j (by omega)
    refine V.iload_n (pc := 9) dX12_shared_9 rfl ?_
    refine V.aload_n (pc := 10) dX12_shared_10 rfl ?_
    refine V.getR (pc := 11) dX12_shared_11 fX12_13_11 rfl hM.o hM.f3 ?_
    refine V.iconst (v := 0) (pc := 14) dX12_shared_14 (by decide) ?_
    refine V.iald' (k := 0) (pc := 15) dX12_shared_15 hM.t3 rfl (by decide) (by decide) ?_
    rw [hR.h0]
    refine V.icmp_ge 97 (pc := 16) dX12_shared_16 (by decide) (fun h16 => absurd h16 (nI_ge (by omega) (by omega))) (fun h16 => ?_)
    refine V.iconst (v := 0) (pc := 19) dX12_shared_19 (by decide) ?_
    refine V.isn (pc := 20) dX12_shared_20 (by decide) (st1_3 rfl) ?_
    conv => arg 8; rw [show shN (hds (cor A)) j = shN (hds (cor A)) j + 2 * (0 - mxC y.2.2.2 ((hds (cor A)).take j)) by omega, L0]
    refine l_shK hM hA hR hy (by omega) ?_ y.2.2.2.length 0 (by omega) trivial
    refine V.iinc1 (pc := 91) dX12_shared_91 (by decide) rfl (st1_2 rfl) ?_
    refine V.goto 9 (pc := 94) dX12_shared_94 (by decide) ?_
    refine V.weak wk_3 ?_
    have z := ih (j + 1) (by omega) trivial
    rw [shN, getD_some hy] at z
    rw [nI_1]
    exact z
theorem p_shared {g : gG} {d : Nat} {T : mT} {n : Nat} {I : mI} {J : mJ} {F : mF} {m : Nat} {A : Ab}  (hM : MS T F m) (hA : AbOK A) (hR : RepM I J m A)  : Ct g mX12_shared (d + 3) [.ref m] 0 0 T n I J F (QM m T n I J F (some (.int (iI (s_shared A)))) A) := by
  refine Ct.ofV (k := 5) (by decide) (Nat.le_of_ble_eq_true rfl) ?_
  show V g mX12_shared (d + 3) _ 0 0 0 [some (.ref m), none, none, none, none, none] [] T n I J F
  refine V.aload_n (pc := 0) dX12_shared_0 rfl ?_
  refine V.iconst (v := 0) (pc := 1) dX12_shared_1 (by decide) ?_
  refine V.putI (pc := 2) dX12_shared_2 fX12_88_11 (fun r h => by cases h; exact Or.inl rfl) rfl hM.o ?_
  refine V.thr hR (fun I1 hR1 hf => ?_)
  clear hR
  have hR := hR1
  clear hR1
  refine V.iconst (v := 0) (pc := 5) dX12_shared_5 (by decide) ?_
  refine V.isn (pc := 6) dX12_shared_6 (by decide) (st1_1 rfl) ?_
  refine V.iconst (v := 0) (pc := 7) dX12_shared_7 (by decide) ?_
  refine V.isn (pc := 8) dX12_shared_8 (by decide) (st1_2 rfl) ?_
  conv => arg 8; rw [L0, show nI 0 = nI (shN (hds (cor A)) 0) from rfl]
  refine l_shH (d := d + 1) hM hA hR ?_ (hds (cor A)).length 0 (by omega) trivial
  refine V.iload_n (pc := 97) dX12_shared_97 rfl ?_
  exact V.iret (pc := 98) dX12_shared_98 rfl ⟨by rw [s_shared, iI_nat], rfl, rfl, rfl, hf, Frm.rf, hR⟩
