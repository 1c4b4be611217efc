def nwB (f : Nat → Int32) (k : Nat) : Nat → Bool
  | 0 => true
  | j + 1 => nwB f k j && decide (f j ≠ f k)
theorem nwB_iff {f : Nat → Int32} {k : Nat} : ∀ j, nwB f k j = true ↔ ∀ i, i < j → f i ≠ f k
  | 0 => ⟨fun _ i h => absurd h (by omega), fun _ => rfl⟩
  | j + 1 => by
    rw [nwB, Bool.and_eq_true, nwB_iff j, decide_eq_true_eq]
    constructor
    · rintro ⟨a, b⟩ i h
      by_cases e : i = j
      · subst e; exact b
      · exact a i (by omega)
    · intro a; exact ⟨fun i h => a i (by omega), a j (by omega)⟩
theorem nwB_s1 {f : Nat → Int32} {k j : Nat} (h : ¬ nwB f k j = true) : ¬ nwB f k (j + 1) = true := fun z => h (Bool.and_eq_true _ _ ▸ z : _ ∧ _).1
theorem nwB_s2 {f : Nat → Int32} {k j : Nat} (h : f j = f k) : ¬ nwB f k (j + 1) = true := by
  intro z
  rw [nwB, Bool.and_eq_true, decide_eq_true_eq] at z
  exact z.2 h
theorem nwB_s3 {f : Nat → Int32} {k j : Nat} (h : nwB f k j = true) (h2 : ¬ f j = f k) : nwB f k (j + 1) = true := by rw [nwB, h, decide_eq_true h2]; rfl
theorem iI_inc (k : Nat) : iI ((k : Int) - 1) + 1 = nI k := by rw [show (1 : Int32) = iI 1 from rfl, iI_add, show (k : Int) - 1 + 1 = k by omega, iI_nat]
theorem iI_pred {k : Nat} (h : 1 ≤ k) : iI ((k : Int) - 1) = nI (k - 1) := by rw [← iI_nat]; congr 1; omega
theorem nI_dec {k : Nat} (h : 1 ≤ k) : nI k + -1 = nI (k - 1) := by rw [← iI_nat, show (-1 : Int32) = iI (-1) from rfl, iI_add, ← iI_nat]; congr 1; omega
def NX (S N cur m : Nat) (I : mI) (k : Nat) (e : Nat → Nat) (I' : mI) : Prop := k < N ∧ (∀ b, b ≠ m + 14 → I' b = I b) ∧ (∀ i, i < N → I' (m + 14) i = iI ((e i : Int) - 1)) ∧ (∀ i, i < k → 1 ≤ e i ∧ e i ≤ S) ∧ (∀ i j, i < j → j < k → e i ≠ e j) ∧ e k ≤ S ∧ (∀ i, k < i → i < N → e i = 0) ∧ NoV S N cur (posC N k e) ∧ cur ≤ posC N k e
theorem NX.same {S N cur m k : Nat} {I I' : mI} {e : Nat → Nat} (hN : N = 2 ∨ N = 4) (hS : S ≤ 12) (h : NX S N cur m I k e I') (hk : e k < S) (hs : ∃ i, i < k ∧ e i - 1 = e k) : NX S N cur m I k (upN1 e k (e k + 1)) (up2 I' (m + 14) k (nI (e k))) := by
  obtain ⟨h1, h2, h3, h4, h5, h6, h7, h8, h9⟩ := h
  obtain ⟨i0, hi0, hi1⟩ := hs
  refine ⟨h1, fun b hb => by rw [up2_off hb]; exact h2 b hb, fun i hi => ?_, fun i hi => by rw [upN1_ne (by omega)]; exact h4 i hi, fun i j q1 q2 => by rw [upN1_ne (by omega), upN1_ne (by omega)]; exact h5 i j q1 q2, by rw [upN1_same]; omega, fun i q1 q2 => by rw [upN1_ne (by omega)]; exact h7 i q1 q2, h8.tr (pos_same hN h1 hS h4 h6 hi0 hi1), Nat.le_trans h9 (Nat.le_of_lt (pos_lt hN h1))⟩
  by_cases q : i = k
  · subst q; rw [up2_same, upN1_same, ← iI_nat]; congr 1; omega
  · rw [up2_ne (by omega), upN1_ne q]; exact h3 i hi
theorem NX.down {S N cur m k : Nat} {I I' : mI} {e : Nat → Nat} (hN : N = 2 ∨ N = 4) (h : NX S N cur m I k e I') (hk : e k < S) (hs : ∀ i, i < k → e i - 1 ≠ e k) (hl : k + 1 < N) : NX S N cur m I (k + 1) (upN1 e k (e k + 1)) (up2 I' (m + 14) k (nI (e k))) := by
  obtain ⟨h1, h2, h3, h4, h5, h6, h7, h8, h9⟩ := h
  have hp := pos_down hN hl h7
  refine ⟨hl, fun b hb => by rw [up2_off hb]; exact h2 b hb, fun i hi => ?_, fun i hi => ?_, fun i j q1 q2 => ?_, by rw [upN1_ne (by omega), h7 _ (by omega) hl]; omega, fun i q1 q2 => by rw [upN1_ne (by omega)]; exact h7 i (by omega) q2, by rw [hp]; exact h8, by rw [hp]; exact h9⟩
  · by_cases q : i = k
    · subst q; rw [up2_same, upN1_same, ← iI_nat]; congr 1; omega
    · rw [up2_ne (by omega), upN1_ne q]; exact h3 i hi
  · by_cases q : i = k
    · subst q; rw [upN1_same]; omega
    · rw [upN1_ne q]; exact h4 i (by omega)
  · by_cases q : j = k
    · subst q
      have a := hs i q1
      have b := (h4 i q1).1
      rw [upN1_same, upN1_ne (by omega)]; omega
    · rw [upN1_ne (by omega), upN1_ne q]; exact h5 i j q1 (by omega)
theorem NX.back {S N cur m k : Nat} {I I' : mI} {e : Nat → Nat} {v w : Int32} (hN : N = 2 ∨ N = 4) (hS : S ≤ 12) (h : NX S N cur m I k e I') (hk : e k = S) (h0 : 0 < k) : NX S N cur m I (k - 1) (upN1 e k 0) (up2 (up2 I' (m + 14) k v) (m + 14) k (-1)) := by
  obtain ⟨h1, h2, h3, h4, h5, h6, h7, h8, h9⟩ := h
  obtain ⟨p1, p2⟩ := pos_back hN h1 h0 hS h4 hk
  have hp : posC N (k - 1) (upN1 e k 0) = posC N (k - 1) e := by
    unfold posC
    rcases k4 hN h1 with ⟨rfl, rfl⟩ | ⟨rfl, rfl⟩ | ⟨rfl, rfl⟩ | ⟨rfl, rfl⟩ | ⟨rfl, rfl⟩ | ⟨rfl, rfl⟩ <;> first | omega | simp [pz, upN1]
  have hb := h4 (k - 1) (by omega)
  refine ⟨by omega, fun b hb => by rw [up2_off hb, up2_off hb]; exact h2 b hb, fun i hi => ?_, fun i hi => by rw [upN1_ne (by omega)]; exact h4 i (by omega), fun i j q1 q2 => by rw [upN1_ne (by omega), upN1_ne (by omega)]; exact h5 i j q1 (by omega), by rw [upN1_ne (by omega)]; exact hb.2, fun i q1 q2 => ?_, by rw [hp]; exact h8.tr p1, by rw [hp]; omega⟩
  · by_cases q : i = k
    · subst q; rw [up2_same, upN1_same]; rfl
    · rw [up2_ne (by omega), up2_ne (by omega), upN1_ne q]; exact h3 i hi
  · by_cases q : i = k
    · subst q; rw [upN1_same]
    · rw [upN1_ne q]; exact h7 i (by omega) q2
theorem NX.new {S N cur m k : Nat} {I I' : mI} {e : Nat → Nat} (hS : S ≤ 12) (hN4 : N ≤ 4) (h : NX S N cur m I k e I') : nwB (up2 I' (m + 14) k (nI (e k)) (m + 14)) k k = true ↔ ∀ i, i < k → e i - 1 ≠ e k := by
  obtain ⟨h1, h2, h3, h4, h5, h6, h7, h8, h9⟩ := h
  rw [nwB_iff]
  have key : ∀ i, i < k → (up2 I' (m + 14) k (nI (e k)) (m + 14) i = up2 I' (m + 14) k (nI (e k)) (m + 14) k ↔ e i - 1 = e k) := by
    intro i hi
    have := h4 i hi
    rw [up2_same, up2_ne (by omega), h3 i (by omega), iI_pred (by omega), nI_eq (by omega) (by omega)]
  constructor
  · intro a i hi z; exact a i hi ((key i hi).mpr z)
  · intro a i hi z; exact a i hi ((key i hi).mp z)
theorem l_isNew {g : gG} {d : Nat} {T : mT} {n : Nat} {I : mI} {J : mJ} {F : mF} {Q : mQ} {m k : Nat} (hM : MS T F m) (hk : k < 4) (kk : V g mX12_isNew (d + 0) Q 0 0 40 [some (.ref m), some (.int (nI k)), some (.int (bi (nwB (I (m + 14)) k k = true))), some (.int (nI k))] [] T n I J F) : ∀ (t j : Nat) , j + t = k → (True) → V g mX12_isNew (d + 0) Q 0 0 4 [some (.ref m), some (.int (nI k)), some (.int (bi (nwB (I (m + 14)) k j = true))), some (.int (nI j))] [] T n I J F := by
  intro t
  induction t with
  | zero =>
    intro j  hj hi
    obtain rfl : j = k := by omega
    refine V.iload_n (pc := 4) dX12_isNew_4 rfl ?_
    refine V.iload_n (pc := 5) dX12_isNew_5 rfl ?_
    refine V.icmp_ge 40 (pc := 6) dX12_isNew_6 (by decide) (fun h6 => ?_) (fun h6 => absurd (nI_le (Nat.le_refl _) (by omega)) h6)
    exact kk
  | succ t ih =>
    intro j  hj hi
    refine V.iload_n (pc := 4) dX12_isNew_4 rfl ?_
    refine V.iload_n (pc := 5) dX12_isNew_5 rfl ?_
    refine V.icmp_ge 40 (pc := 6) dX12_isNew_6 (by decide) (fun h6 => absurd h6 (nI_ge (by omega) (by omega))) (fun h6 => ?_)
    refine V.iload_n (pc := 9) dX12_isNew_9 rfl ?_
    refine V.if_eq 32 (pc := 10) dX12_isNew_10 (by decide) (fun h10 => ?_) (fun h10 => ?_)
    · refine V.iconst (v := 0) (pc := 32) dX12_isNew_32 (by decide) ?_
      refine V.isn (pc := 33) dX12_isNew_33 (by decide) (st1_2 rfl) ?_
      refine V.iinc1 (pc := 34) dX12_isNew_34 (by decide) rfl (st1_3 rfl) ?_
      refine V.goto 4 (pc := 37) dX12_isNew_37 (by decide) ?_
      have z := ih (j + 1) (by omega) trivial
      rw [bi_f (nwB_s1 (bi_eq.mp h10))] at z
      rw [nI_1]
      exact z
    · refine V.aload_n (pc := 13) dX12_isNew_13 rfl ?_
      refine V.getR (pc := 14) dX12_isNew_14 fX12_65_11 rfl hM.o hM.f32 ?_
      refine V.iload_n (pc := 17) dX12_isNew_17 rfl ?_
      refine V.iald' (k := j) (pc := 18) dX12_isNew_18 hM.t32 rfl (by omega) (by decide) ?_
      refine V.aload_n (pc := 19) dX12_isNew_19 rfl ?_
      refine V.getR (pc := 20) dX12_isNew_20 fX12_65_11 rfl hM.o hM.f32 ?_
      refine V.iload_n (pc := 23) dX12_isNew_23 rfl ?_
      refine V.iald' (k := k) (pc := 24) dX12_isNew_24 hM.t32 rfl (by omega) (by decide) ?_
      refine V.icmp_eq 32 (pc := 25) dX12_isNew_25 (by decide) (fun h25 => ?_) (fun h25 => ?_)
      · refine V.iconst (v := 0) (pc := 32) dX12_isNew_32 (by decide) ?_
        refine V.isn (pc := 33) dX12_isNew_33 (by decide) (st1_2 rfl) ?_
        refine V.iinc1 (pc := 34) dX12_isNew_34 (by decide) rfl (st1_3 rfl) ?_
        refine V.goto 4 (pc := 37) dX12_isNew_37 (by decide) ?_
        have z := ih (j + 1) (by omega) trivial
        rw [bi_f (nwB_s2 h25)] at z
        rw [nI_1]
        exact z
      · refine V.iconst (v := 1) (pc := 28) dX12_isNew_28 (by decide) ?_
        refine V.goto 33 (pc := 29) dX12_isNew_29 (by decide) ?_
        refine V.isn (pc := 33) dX12_isNew_33 (by decide) (st1_2 rfl) ?_
        refine V.iinc1 (pc := 34) dX12_isNew_34 (by decide) rfl (st1_3 rfl) ?_
        refine V.goto 4 (pc := 37) dX12_isNew_37 (by decide) ?_
        have z := ih (j + 1) (by omega) trivial
        rw [bi_t (nwB_s3 (bi_ne.mp h10) h25)] at z
        rw [nI_1]
        exact z
theorem c_isNew {g : gG} {d : Nat} {T : mT} {n : Nat} {I : mI} {J : mJ} {F : mF} {m k : Nat} (x : Int32) (hM : MS T F m) (hx : x = nI k) (hk : k < 4) : Ct g mX12_isNew (d + 0) [.ref m, .int x] 0 0 T n I J F (pureQ T n I J F (some (.int (bi (nwB (I (m + 14)) k k = true))))) := by
  refine Ct.ofV (k := 2) (by decide) (Nat.le_of_ble_eq_true rfl) ?_
  show V g mX12_isNew (d + 0) _ 0 0 0 [some (.ref m), some (.int x), none, none] [] T n I J F
  subst hx
  refine V.iconst (v := 1) (pc := 0) dX12_isNew_0 (by decide) ?_
  refine V.isn (pc := 1) dX12_isNew_1 (by decide) (st1_2 rfl) ?_
  refine V.iconst (v := 0) (pc := 2) dX12_isNew_2 (by decide) ?_
  refine V.isn (pc := 3) dX12_isNew_3 (by decide) (st1_3 rfl) ?_
  have e0 : bi (nwB (I (m + 14)) k 0 = true) = 1 := bi_t rfl
  refine Eq.mp (congrArg (fun v => V g mX12_isNew (d + 0) _ 0 0 4 [some (.ref m), some (.int (nI k)), some (.int v), some (.int (nI 0))] [] T n I J F) e0) (l_isNew hM hk ?_ k 0 (by omega) trivial)
  refine V.iload_n (pc := 40) dX12_isNew_40 rfl ?_
  exact V.zret (pc := 41) dX12_isNew_41 rfl (by first | exact Or.inl rfl | exact Or.inr rfl | exact bi_or | assumption) ⟨rfl, rfl, rfl, rfl, rfl, rfl⟩
theorem l_next {g : gG} {d : Nat} {T : mT} {n : Nat} {I : mI} {J : mJ} {F : mF} {Q : mQ} {m S N cur : Nat} (hM : MS T F m) (hN : N = 2 ∨ N = 4) (hS : S ≤ 12) (hS1 : I (m + 2) 1 = nI S) (kY : ∀ (c : Nat) (I' : mI), cur ≤ c → c < totC N → vld S N c = true → NoV S N cur c → (∀ b, b ≠ m + 14 → I' b = I b) → (∀ i, i < N → I' (m + 14) i = nI (dg N c i)) → Q (some (.int 1)) T n I' J F) (kN : ∀ I' : mI, NoV S N cur (totC N) → (∀ b, b ≠ m + 14 → I' b = I b) → Q (some (.int 0)) T n I' J F) : ∀ (t k : Nat) (e : Nat → Nat) (I' : mI), NX S N cur m I k e I' → 4 * (totC N - posC N k e) + (N - k) < t → V g mX12_nextRow (d + 1) Q 0 0 4 [some (.ref m), some (.int (nI N)), some (.int (nI k))] [] T n I' J F := by
  intro t
  induction t with
  | zero => intro k e I' _ h; omega
  | succ t ih =>
    intro k e I' hi ht
    have hi2 := hi
    obtain ⟨h1, h2, h3, h4, h5, h6, h7, h8, h9⟩ := hi
    have hN4 : N ≤ 4 := by omega
    have hbd := pos_bd hN h1 hS h4 h6
    have e1 : I' (m + 2) 1 = nI S := by rw [h2 _ (by omega)]; exact hS1
    refine V.iload_n (pc := 4) dX12_nextRow_4 rfl ?_
    refine V.if_lt 69 (pc := 5) dX12_nextRow_5 (by decide) (fun h5_ => absurd h5_ (nI_pos (by omega))) (fun h5_ => ?_)
    refine V.aload_n (pc := 8) dX12_nextRow_8 rfl ?_
    refine V.getR (pc := 9) dX12_nextRow_9 fX12_65_11 rfl hM.o hM.f32 ?_
    refine V.iload_n (pc := 12) dX12_nextRow_12 rfl ?_
    refine V.dup2 (pc := 13) dX12_nextRow_13 rfl rfl ?_
    refine V.iald' (k := k) (pc := 14) dX12_nextRow_14 hM.t32 rfl (by omega) (by decide) ?_
    rw [h3 k h1]
    refine V.iconst (v := 1) (pc := 15) dX12_nextRow_15 (by decide) ?_
    refine V.iadd (pc := 16) dX12_nextRow_16 ?_
    rw [iI_inc]
    refine V.iast' (k := k) (pc := 17) dX12_nextRow_17 hM.t32 rfl (by omega) (by decide) ?_
    refine V.aload_n (pc := 18) dX12_nextRow_18 rfl ?_
    refine V.getR (pc := 19) dX12_nextRow_19 fX12_65_11 rfl hM.o hM.f32 ?_
    refine V.iload_n (pc := 22) dX12_nextRow_22 rfl ?_
    refine V.iald' (k := k) (pc := 23) dX12_nextRow_23 hM.t32 rfl (by omega) (by decide) ?_
    rw [up2_same]
    refine V.aload_n (pc := 24) dX12_nextRow_24 rfl ?_
    refine V.getR (pc := 25) dX12_nextRow_25 fX12_13_11 rfl hM.o hM.f3 ?_
    refine V.iconst (v := 1) (pc := 28) dX12_nextRow_28 (by decide) ?_
    refine V.iald' (k := 1) (pc := 29) dX12_nextRow_29 hM.t3 rfl (by decide) (by decide) ?_
    rw [up2_off (by omega), e1]
    refine V.icmp_ne 46 (pc := 30) dX12_nextRow_30 (by decide) (fun h30 => ?_) (fun h30 => ?_)
    · rw [nI_eq (by omega) (by omega)] at h30
      refine V.aload_n (pc := 46) dX12_nextRow_46 rfl ?_
      refine V.iload_n (pc := 47) dX12_nextRow_47 rfl ?_
      refine V.pV (as := [_]) (pc := 48) dX12_nextRow_48 lX12_372 bX12_isNew nX12_isNew (ci := 11) rfl eX12_isNew hM.o (c_isNew (d := d + 0) (k := k) _ hM rfl (by omega)) (by omega) rfl (Nat.le_of_ble_eq_true rfl) ?_
      refine V.if_eq 4 (pc := 51) dX12_nextRow_51 (by decide) (fun h51 => ?_) (fun h51 => ?_)
      · have hs : ∃ i, i < k ∧ e i - 1 = e k := Classical.byContradiction (fun z => bi_eq.mp h51 ((hi2.new hS hN4).mpr (fun i hi z2 => z ⟨i, hi, z2⟩)))
        have hp := pos_lt (e := e) hN h1
        exact ih k _ _ (hi2.same hN hS (by omega) hs) (by omega)
      · refine V.iload_n (pc := 54) dX12_nextRow_54 rfl ?_
        refine V.iload_n (pc := 55) dX12_nextRow_55 rfl ?_
        refine V.iconst (v := 1) (pc := 56) dX12_nextRow_56 (by decide) ?_
        refine V.isub (pc := 57) dX12_nextRow_57 ?_
        refine V.icmp_ne 63 (pc := 58) dX12_nextRow_58 (by decide) (fun h58 => ?_) (fun h58 => ?_)
        · refine V.iinc1 (pc := 63) dX12_nextRow_63 (by decide) rfl (st1_2 rfl) ?_
          refine V.goto 4 (pc := 66) dX12_nextRow_66 (by decide) ?_
          have hkN : k + 1 < N := by
            rw [L1, pk_sub (by omega), nI_eq (by omega) (by omega)] at h58
            omega
          rw [nI_1]
          exact ih (k + 1) _ _ (hi2.down hN (by omega) ((hi2.new hS hN4).mp (bi_ne.mp h51)) hkN) (by rw [pos_down hN hkN h7]; omega)
        · refine V.iconst (v := 1) (pc := 61) dX12_nextRow_61 (by decide) ?_
          exact V.zret (pc := 62) dX12_nextRow_62 rfl (by first | exact Or.inl rfl | exact Or.inr rfl | exact bi_or | assumption) (by
                    obtain rfl : k = N - 1 := by
                      rw [L1, pk_sub (by omega), nI_eq (by omega) (by omega)] at h58
                      exact h58
                    obtain ⟨f1, f2⟩ := pos_found hN hS h4 h5 (by omega) ((hi2.new hS hN4).mp (bi_ne.mp h51))
                    refine kY _ _ h9 hbd f1 h8 (fun b hb => by rw [up2_off hb]; exact h2 b hb) (fun i hi => ?_)
                    rw [f2 i hi]
                    by_cases q : i = N - 1
                    · rw [if_pos q, q, up2_same]
                    · rw [if_neg q, up2_ne (by omega), h3 i hi, iI_pred (h4 i (by omega)).1])
    · rw [nI_eq (by omega) (by omega)] at h30
      refine V.aload_n (pc := 33) dX12_nextRow_33 rfl ?_
      refine V.getR (pc := 34) dX12_nextRow_34 fX12_65_11 rfl hM.o hM.f32 ?_
      refine V.iload_n (pc := 37) dX12_nextRow_37 rfl ?_
      refine V.iconst (v := (-1)) (pc := 38) dX12_nextRow_38 (by decide) ?_
      refine V.iast' (k := k) (pc := 39) dX12_nextRow_39 hM.t32 rfl (by omega) (by decide) ?_
      refine V.iinc (v := _ + (-1)) (pc := 40) dX12_nextRow_40 (by decide) rfl rfl (st1_2 rfl) ?_
      refine V.goto 4 (pc := 43) dX12_nextRow_43 (by decide) ?_
      by_cases k0 : k = 0
      · subst k0
        exact V.iload_n (pc := 4) dX12_nextRow_4 rfl (V.if_lt 69 (pc := 5) dX12_nextRow_5 (by decide) (fun _ => V.iconst (v := 0) (pc := 69) dX12_nextRow_69 (by decide) (V.zret (pc := 70) dX12_nextRow_70 rfl (Or.inl rfl) (kN _ (h8.tr (pos_end hN h30)) (fun b hb => by rw [up2_off hb, up2_off hb]; exact h2 b hb)))) (fun z => absurd (by decide) z))
      · have hp := (pos_back hN h1 (by omega) hS h4 h30).2
        rw [nI_dec (by omega)]
        have hp2 : posC N (k - 1) (upN1 e k 0) = posC N (k - 1) e := by
          unfold posC
          rcases k4 hN h1 with ⟨rfl, rfl⟩ | ⟨rfl, rfl⟩ | ⟨rfl, rfl⟩ | ⟨rfl, rfl⟩ | ⟨rfl, rfl⟩ | ⟨rfl, rfl⟩ <;> first | omega | simp [pz, upN1]
        exact ih (k - 1) _ _ (hi2.back (w := 0) hN hS h30 (by omega)) (by rw [hp2]; omega)
theorem c_nextRow {g : gG} {d : Nat} {T : mT} {n : Nat} {I : mI} {J : mJ} {F : mF} {m S N cur : Nat} {e : Nat → Nat} (x : Int32) (hM : MS T F m) (hx : x = nI N) (hN : N = 2 ∨ N = 4) (hS : S ≤ 12) (hS1 : I (m + 2) 1 = nI S) (hi : NX S N cur m I (N - 1) e I) : Ct g mX12_nextRow (d + 1) [.ref m, .int x] 0 0 T n I J F (fun r' T' n' I' J' F' => T' = T ∧ n' = n ∧ J' = J ∧ F' = F ∧ (∀ b, b ≠ m + 14 → I' b = I b) ∧ ((∃ c, cur ≤ c ∧ c < totC N ∧ vld S N c = true ∧ NoV S N cur c ∧ r' = some (.int 1) ∧ ∀ i, i < N → I' (m + 14) i = nI (dg N c i)) ∨ (NoV S N cur (totC N) ∧ r' = some (.int 0)))) := by
  refine Ct.ofV (k := 1) (by decide) (Nat.le_of_ble_eq_true rfl) ?_
  show V g mX12_nextRow (d + 1) _ 0 0 0 [some (.ref m), some (.int x), none] [] T n I J F
  subst hx
  refine V.iload_n (pc := 0) dX12_nextRow_0 rfl ?_
  refine V.iconst (v := 1) (pc := 1) dX12_nextRow_1 (by decide) ?_
  refine V.isub (pc := 2) dX12_nextRow_2 ?_
  rw [L1, pk_sub (by omega)]
  refine V.isn (pc := 3) dX12_nextRow_3 (by decide) (st1_2 rfl) ?_
  exact l_next hM hN hS hS1 (fun c I' a1 a2 a3 a4 a5 a6 => ⟨rfl, rfl, rfl, rfl, a5, Or.inl ⟨c, a1, a2, a3, a4, rfl, a6⟩⟩) (fun I' a1 a2 => ⟨rfl, rfl, rfl, rfl, a2, Or.inr ⟨a1, rfl⟩⟩) _ (N - 1) e I hi (Nat.lt_succ_self _)
