-- the class's reckoning of a stretch of code
def HF (k : Nat) (I : mI) (J : mJ) (I' : mI) (J' : mJ) : Prop := (∀ c, c ≠ k → I' c = I c) ∧ (∀ t, t ≠ 1 → t ≠ 2 → I' k t = I k t) ∧ ∀ c, c ≠ k + 1 → J' c = J c
theorem HF.tr {k : Nat} {I I' I2 : mI} {J J' J2 : mJ} (h : HF k I J I' J') (h2 : HF k I' J' I2 J2) : HF k I J I2 J2 := ⟨fun c hc => (h2.1 c hc).trans (h.1 c hc), fun t t1 t2 => (h2.2.1 t t1 t2).trans (h.2.1 t t1 t2), fun c hc => (h2.2.2 c hc).trans (h.2.2 c hc)⟩
def HsI (k : Nat) (I : mI) (J : mJ) (S : List Int) (so : Bool) (I' : mI) (J' : mJ) : Prop := HF k I J I' J' ∧ I' k 1 = nI S.length ∧ I' k 2 = so32 so ∧ StkZ (J' (k + 1)) S
/-- what the asker asks of -/
def AkE (k cc b lc dd h : Nat) (y : Hd) (f : Nat → Nat) (T : mT) (I : mI) (J : mJ) (F : mF) : Prop := (cc ≠ k ∧ b ≠ k ∧ b + 1 ≠ k ∧ b ≠ k + 1) ∧ F k 4 = some b ∧ HN T F b ∧ HdX I J b y ∧ HdOK y ∧ I k 5 = nI dd ∧ I k 3 = nI h ∧ dd ≤ 1000000 ∧ h < 6 ∧ lc ≤ 400 ∧ lcX f lc ≤ 50 ∧ ∀ i, i < lc → I cc i = nI (f i) ∧ f i < 1048576
theorem AkE.keep {k cc b lc dd h : Nat} {y : Hd} {f : Nat → Nat} {T : mT} {I I' : mI} {J J' : mJ} {F : mF} (hE : AkE k cc b lc dd h y f T I J F) (hf : HF k I J I' J') : AkE k cc b lc dd h y f T I' J' F := by
  obtain ⟨⟨a1, a2, a3, a4⟩, b1, b2, b3, b4, b5, b6, b7, b8, b9, b10, b11⟩ := hE
  exact ⟨⟨a1, a2, a3, a4⟩, b1, b2, b3.congr2 (hf.1 _ a2) (hf.1 _ a3) (hf.2.2 _ a4), b4, (hf.2.1 5 (by decide) (by decide)).trans b5, (hf.2.1 3 (by decide) (by decide)).trans b6, b7, b8, b9, b10, fun i hi => by rw [hf.1 _ a1]; exact b11 i hi⟩
theorem so32_or (b : Bool) : so32 b = 0 ∨ so32 b = 1 := by cases b; exact Or.inl rfl; exact Or.inr rfl
section HRUN
variable {g : gG} {d : Nat} {T : mT} {n : Nat} {I : mI} {J : mJ} {F : mF} {Q : mQ} {k a cc s lc ls b dd h E A B : Nat} {y : Hd} {vi : Int32} {f : Nat → Nat}
def KX (g : gG) (d : Nat) (T : mT) (n : Nat) (I : mI) (J : mJ) (F : mF) (Q : mQ) (k a E : Nat) (vi : Int32) (f : Nat → Nat) (p : Nat) (S : List Int) (so : Bool) : Prop := S.length ≤ lcX f p → BdS p S → ∀ (I' : mI) (J' : mJ), HsI k I J S so I' J' → V g mX0_holds (d + 3) Q 0 0 25 [some (.ref k), some (.ref a), some (.int vi), some (.int (nI E)), some (.int (nI (p))), none, none, none] [] T n I' J' F
def BX (T : mT) (n : Nat) (I : mI) (J : mJ) (F : mF) (Q : mQ) (k : Nat) : Prop := ∀ (I' : mI) (J' : mJ), HF k I J I' J' → Q (some (.int 0)) T n I' J' F
theorem h_clo (hAk : AkS T F k) (hLw : LaS T F a cc s lc ls) (hAE : AkE k cc b lc dd h y f T I J F) (hB : B ≤ E) (hEl : E ≤ lc) : CloX f (envN h y dd) A B (KX g d T n I J F Q k a E vi f) (BX T n I J F Q k) := by
  have hl : lc ≤ 400 := hAE.2.2.2.2.2.2.2.2.2.1
  have h50 : lcX f lc ≤ 50 := hAE.2.2.2.2.2.2.2.2.2.2.1
  have hcode := hAE.2.2.2.2.2.2.2.2.2.2.2
  have hlen0 : ∀ p, p < B → lcX f p ≤ 50 := fun p hp => Nat.le_trans (lcX_mono (by omega)) h50
  have henv : ∀ i, -2147483648 ≤ envN h y dd i ∧ envN h y dd i ≤ 2147483648 := fun i => by
    obtain ⟨y1, y2, y3, y4, y5, y6⟩ := hAE.2.2.2.2.1
    have z1 := hAE.2.2.2.2.2.2.2.1
    have z2 := hAE.2.2.2.2.2.2.2.2.1
    unfold envN
    split
    · omega
    split
    · omega
    split
    · omega
    split
    · omega
    · omega
  have hop2 : ∀ (p : Nat) (yv xv : Int) (S2 : List Int) (so : Bool), p < B → 6 ≤ f p % 32 → f p % 32 ≤ 10 → ((¬ ((arX (f p % 32) = 22 ∨ arX (f p % 32) = 23) ∧ yv = 0) ∧ (-1000000000 ≤ rkZ (arX (f p % 32)) xv yv ∧ rkZ (arX (f p % 32)) xv yv ≤ 1000000000)) → KX g d T n I J F Q k a E vi f (p + 1) (rkZ (arX (f p % 32)) xv yv :: S2) so) → (¬ (¬ ((arX (f p % 32) = 22 ∨ arX (f p % 32) = 23) ∧ yv = 0) ∧ (-1000000000 ≤ rkZ (arX (f p % 32)) xv yv ∧ rkZ (arX (f p % 32)) xv yv ≤ 1000000000)) → BX T n I J F Q k) → KX g d T n I J F Q k a E vi f p (yv :: xv :: S2) so := by
    intro p yv xv S2 so hp h6 h10 hY hN hlen hbd I' J' hi
    rw [List.length_cons, List.length_cons] at hlen
    have hl0 := hlen0 p hp
    obtain ⟨c1, c2⟩ := hcode p (by omega)
    have hst : I' cc p = nI (f p) := by rw [hi.1.1 _ hAE.1.1]; exact c1
    by_cases ok : ¬ ((arX (f p % 32) = 22 ∨ arX (f p % 32) = 23) ∧ yv = 0) ∧ (-1000000000 ≤ rkZ (arX (f p % 32)) xv yv ∧ rkZ (arX (f p % 32)) xv yv ≤ 1000000000)
    · refine h_arY hAk hLw hl (by omega) hEl hst c2 h6 (by omega) hi.2.1 (by omega) hi.2.2.2.2.1 hi.2.2.2.1 (hbd.t.b (by omega)) (hbd.b (by omega)) h10 ok (fun I2 r1 r2 r3 r4 => ?_)
      have hm := lcX_mono (c := f) (show p ≤ p + 1 by omega)
      exact hY ok (by rw [List.length_cons]; omega) (hbd.t.t.c (by omega) (by have := ok.2; omega)) _ _ ⟨hi.1.tr ⟨r1, r2, fun c hc => up2_off hc⟩, r3, r4.trans hi.2.2.1, hi.2.2.2.2.2.push rfl⟩
    · exact h_arN hAk hLw hl (by omega) hEl hst c2 h6 (by omega) hi.2.1 (by omega) hi.2.2.2.2.1 hi.2.2.2.1 (hbd.t.b (by omega)) (hbd.b (by omega)) h10 ok (fun I2 J2 r1 r2 r3 => hN ok _ _ (hi.1.tr ⟨r1, r2, r3⟩))
  have har : ∀ q, 6 ≤ q → q ≤ 10 → 19 ≤ arX q ∧ arX q ≤ 23 := fun q h1 h2 => by unfold arX; split; omega; split; omega; split; omega; split; omega; omega
  refine ⟨fun p S so p' S' so' hp1 hp2 hst hK => ?_, fun p S so hp1 hp2 hst hBx => ?_⟩
  · unfold stpX at hst
    have hl0 := hlen0 p hp2
    obtain ⟨c1, c2⟩ := hcode p (by omega)
    by_cases q5 : f p % 32 ≤ 5
    · have hst2 : some (some (p + 1, (if f p % 32 = 0 then ((f p / 32 : Nat) : Int) else envN h y dd (f p % 32)) :: S, so)) = some (some (p', S', so')) := by
        by_cases q0 : f p % 32 = 0
        · rw [if_pos q0] at hst; rw [if_pos q0]; exact hst
        · rw [if_neg q0, if_pos q5] at hst; rw [if_neg q0]; exact hst
      obtain ⟨rfl, eS, rfl⟩ : p' = p + 1 ∧ S' = (if f p % 32 = 0 then ((f p / 32 : Nat) : Int) else envN h y dd (f p % 32)) :: S ∧ so' = so := by cases hst2; exact ⟨rfl, rfl, rfl⟩
      rw [eS] at hK
      intro hlen hbd I' J' hi
      have hE2 := hAE.keep hi.1
      refine h_num hAk hLw hl (by omega) hEl (by rw [hi.1.1 _ hAE.1.1]; exact c1) c2 q5 hE2.2.1 hE2.2.2.1 hE2.2.2.2.1 hE2.2.2.2.2.1 hE2.2.2.2.2.2.1 hE2.2.2.2.2.2.2.1 hE2.2.2.2.2.2.2.2.1 hE2.2.2.2.2.2.2.2.2.1 hi.2.1 (by omega) ?_
      have hv := henv (f p % 32)
      exact hK (by rw [List.length_cons, lcX, if_pos q5]; omega) (hbd.c (by omega) (by split <;> omega)) _ _ ⟨hi.1.tr ⟨fun c hc => up2_off hc, fun t t1 t2 => up2_ne (by omega), fun c hc => up2_off hc⟩, up2_same, by rw [up2_ne (by omega)]; exact hi.2.2.1, hi.2.2.2.push rfl⟩
    have q0 : ¬ f p % 32 = 0 := by omega
    rw [if_neg q0, if_neg q5] at hst
    have hm := lcX_mono (c := f) (show p ≤ p + 1 by omega)
    by_cases q10 : f p % 32 ≤ 10
    · rw [if_pos q10] at hst
      rcases S with _ | ⟨yv, _ | ⟨xv, S2⟩⟩
      · cases hst
      · cases hst
      simp only [] at hst
      rw [arZ_rk (har _ (by omega) q10).1 (har _ (by omega) q10).2] at hst
      refine hop2 p yv xv S2 so hp2 (by omega) q10 (fun ok => ?_) (fun ok => ?_)
      · rw [if_neg ok.1, if_pos ok.2] at hst
        cases hst
        exact hK
      · by_cases z0 : ((arX (f p % 32) = 22 ∨ arX (f p % 32) = 23) ∧ yv = 0)
        · rw [if_pos z0] at hst; cases hst
        · rw [if_neg z0, if_neg (fun z => ok ⟨z0, z⟩)] at hst; cases hst
    rw [if_neg q10] at hst
    by_cases q13 : f p % 32 ≤ 13
    · rw [if_pos q13] at hst
      rcases S with _ | ⟨yv, _ | ⟨xv, S2⟩⟩
      · cases hst
      · cases hst
      simp only [] at hst
      cases hst
      intro hlen hbd I' J' hi
      rw [List.length_cons, List.length_cons] at hlen
      refine h_cmp hAk hLw hl (by omega) hEl (by rw [hi.1.1 _ hAE.1.1]; exact c1) c2 (by omega) (by omega) hi.2.1 (by omega) hi.2.2.2.2.1 hi.2.2.2.1 (hbd.t.b (by omega)) (hbd.b (by omega)) (by omega) (fun I2 r1 r2 r3 r4 => ?_)
      exact hK (by omega) (hbd.t.t.m (by omega)) _ _ ⟨hi.1.tr ⟨r1, r2, fun _ _ => rfl⟩, r3, r4, hi.2.2.2.2.2⟩
    rw [if_neg q13] at hst
    by_cases q14 : f p % 32 = 14
    · rw [if_pos q14] at hst
      obtain ⟨rfl, eS, rfl⟩ : p' = p + 1 ∧ S' = S ∧ so' = !so := by cases hst; exact ⟨rfl, rfl, rfl⟩
      rw [eS] at hK
      intro hlen hbd I' J' hi
      have hk : ∀ w : Int32, w = so32 (!so) → V g mX0_holds (d + 3) Q 0 0 25 [some (.ref k), some (.ref a), some (.int vi), some (.int (nI E)), some (.int (nI (p + 1))), none, none, none] [] T n (up2 I' k 2 w) J' F := fun w hw => hK (by omega) (hbd.m (by omega)) _ _ ⟨hi.1.tr ⟨fun c hc => up2_off hc, fun t t1 t2 => up2_ne (by omega), fun _ _ => rfl⟩, by rw [up2_ne (by omega)]; exact hi.2.1, by rw [up2_same]; exact hw, hi.2.2.2⟩
      cases so with
      | false => exact h_not0 hAk hLw hl (by omega) hEl (by rw [hi.1.1 _ hAE.1.1]; exact c1) c2 q14 hi.2.2.1 (hk 1 rfl)
      | true => exact h_not1 hAk hLw hl (by omega) hEl (by rw [hi.1.1 _ hAE.1.1]; exact c1) c2 q14 hi.2.2.1 (hk 0 rfl)
    rw [if_neg q14] at hst
    by_cases q16 : f p % 32 ≤ 16
    · rw [if_pos q16] at hst
      intro hlen hbd I' J' hi
      have hsc : I' cc p = nI (f p) := by rw [hi.1.1 _ hAE.1.1]; exact c1
      by_cases qj : so = decide (f p % 32 = 16)
      · rw [if_pos qj] at hst
        by_cases qk : p < f p / 32
        · rw [if_pos qk] at hst
          have hm2 := lcX_mono (c := f) (show p ≤ f p / 32 by omega)
          obtain ⟨rfl, eS, eo⟩ : p' = f p / 32 ∧ S' = S ∧ so' = so := by cases hst; exact ⟨rfl, rfl, rfl⟩
          rw [eS, eo] at hK
          have hk := hK (by omega) (hbd.m (by omega)) I' J' hi
          have h2 := hi.2.2.1
          by_cases z16 : f p % 32 = 16
          · rw [qj, decide_eq_true z16] at h2
            exact h_j16_1 hAk hLw hl (by omega) hEl hsc c2 z16 h2 qk hk
          · rw [qj, decide_eq_false z16] at h2
            exact h_j15_0 hAk hLw hl (by omega) hEl hsc c2 (by omega) h2 qk hk
        · rw [if_neg qk] at hst; cases hst
      · rw [if_neg qj] at hst
        obtain ⟨rfl, eS, eo⟩ : p' = p + 1 ∧ S' = S ∧ so' = so := by cases hst; exact ⟨rfl, rfl, rfl⟩
        rw [eS, eo] at hK
        have hk := hK (by omega) (hbd.m (by omega)) I' J' hi
        have h2 := hi.2.2.1
        by_cases z16 : f p % 32 = 16
        · rw [decide_eq_true z16] at qj
          cases so with
          | true => exact absurd rfl qj
          | false => exact h_j16_0 hAk hLw hl (by omega) hEl hsc c2 z16 h2 hk
        · rw [decide_eq_false z16] at qj
          cases so with
          | false => exact absurd rfl qj
          | true => exact h_j15_1 hAk hLw hl (by omega) hEl hsc c2 (by omega) h2 hk
    · rw [if_neg q16] at hst; cases hst
  · unfold stpX at hst
    by_cases q0 : f p % 32 = 0
    · rw [if_pos q0] at hst; cases hst
    rw [if_neg q0] at hst
    by_cases q5 : f p % 32 ≤ 5
    · rw [if_pos q5] at hst; cases hst
    rw [if_neg q5] at hst
    by_cases q10 : f p % 32 ≤ 10
    · rw [if_pos q10] at hst
      rcases S with _ | ⟨yv, _ | ⟨xv, S2⟩⟩
      · cases hst
      · cases hst
      simp only [] at hst
      rw [arZ_rk (har _ (by omega) q10).1 (har _ (by omega) q10).2] at hst
      refine hop2 p yv xv S2 so hp2 (by omega) q10 (fun ok => ?_) (fun ok => hBx)
      rw [if_neg ok.1, if_pos ok.2] at hst
      cases hst
    rw [if_neg q10] at hst
    by_cases q13 : f p % 32 ≤ 13
    · rw [if_pos q13] at hst
      rcases S with _ | ⟨yv, _ | ⟨xv, S2⟩⟩
      · cases hst
      · cases hst
      · cases hst
    rw [if_neg q13] at hst
    by_cases q14 : f p % 32 = 14
    · rw [if_pos q14] at hst; cases hst
    rw [if_neg q14] at hst
    by_cases q16 : f p % 32 ≤ 16
    · rw [if_pos q16] at hst
      by_cases qj : so = decide (f p % 32 = 16)
      · rw [if_pos qj] at hst
        by_cases qk : p < f p / 32
        · rw [if_pos qk] at hst; cases hst
        · rw [if_neg qk] at hst; cases hst
      · rw [if_neg qj] at hst; cases hst
    · rw [if_neg q16] at hst; cases hst
end HRUN
