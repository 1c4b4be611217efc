-- the reference's reckoning of a stretch of code
def StkZ (f : Nat → Int64) : List Int → Prop
  | [] => True
  | z :: S => f S.length = lI z ∧ StkZ f S
theorem StkZ.congr {f f' : Nat → Int64} : ∀ {S : List Int}, StkZ f S → (∀ i, i < S.length → f' i = f i) → StkZ f' S
  | [], _, _ => trivial
  | z :: S, h, e => ⟨by rw [e _ (by simp)]; exact h.1, StkZ.congr h.2 (fun i hi => e i (by rw [List.length_cons]; omega))⟩
def RkI (m : Nat) (I : mI) (J : mJ) (v : Int32) (I' : mI) (J' : mJ) : Prop := (∀ c, c ≠ m → I' c = I c) ∧ (∀ t, t ≠ 29 → I' m t = I m t) ∧ I' m 29 = v ∧ ∀ c, c ≠ m + 13 → J' c = J c
theorem RkI.j {m k : Nat} {I I' : mI} {J J' : mJ} {v : Int32} {z : Int64} (h : RkI m I J v I' J') : RkI m I J v I' (up2 J' (m + 13) k z) := ⟨h.1, h.2.1, h.2.2.1, fun c hc => by rw [up2_off hc]; exact h.2.2.2 c hc⟩
theorem RkI.i {m k : Nat} {I I' I2 : mI} {J J' : mJ} {v w : Int32} {z : Int64} (h : RkI m I J v I' J') (h1 : ∀ c, c ≠ m → I2 c = I' c) (h2 : ∀ t, t ≠ 29 → I2 m t = I' m t) (h3 : I2 m 29 = w) : RkI m I J w I2 (up2 J' (m + 13) k z) := ⟨fun c hc => (h1 c hc).trans (h.1 c hc), fun t ht => (h2 t ht).trans (h.2.1 t ht), h3, fun c hc => by rw [up2_off hc]; exact h.2.2.2 c hc⟩
theorem StkZ.push {f : Nat → Nat → Int64} {a k : Nat} {S : List Int} {z : Int} (h : StkZ (f a) S) (hk : k = S.length) : StkZ (up2 f a k (lI z) a) (z :: S) := by
  subst hk
  exact ⟨up2_same, h.congr (fun i hi => up2_ne (by omega))⟩
def BdS (k : Nat) (S : List Int) : Prop := ∀ z, z ∈ S → -(2147483648 + (k : Int)) ≤ z ∧ z ≤ 2147483648 + (k : Int)
theorem BdS.c {k k' : Nat} {S : List Int} {z : Int} (h : BdS k S) (hk : k ≤ k') (hz : -(2147483648 + (k' : Int)) ≤ z ∧ z ≤ 2147483648 + (k' : Int)) : BdS k' (z :: S) := by
  intro w hw
  rcases List.mem_cons.mp hw with rfl | hw
  · exact hz
  · have := h w hw
    omega
theorem BdS.m {k k' : Nat} {S : List Int} (h : BdS k S) (hk : k ≤ k') : BdS k' S := fun w hw => by have := h w hw; omega
theorem BdS.t {k : Nat} {S : List Int} {z : Int} (h : BdS k (z :: S)) : BdS k S := fun w hw => h w (List.mem_cons_of_mem _ hw)
theorem BdS.b {k : Nat} {S : List Int} {z : Int} (h : BdS k (z :: S)) (hk : k ≤ 400) : Bd z := by have := h z (List.mem_cons_self ..); unfold Bd; omega
theorem arZ_rk {op : Nat} {a b : Int} (h1 : 19 ≤ op) (h2 : op ≤ 23) : arZ op a b = if (op = 22 ∨ op = 23) ∧ b = 0 then none else if -1000000000 ≤ rkZ op a b ∧ rkZ op a b ≤ 1000000000 then some (rkZ op a b) else none := by
  have hc : op = 19 ∨ op = 20 ∨ op = 21 ∨ op = 22 ∨ op = 23 := by omega
  rcases hc with rfl | rfl | rfl | rfl | rfl
  · rfl
  · rfl
  · rfl
  · by_cases h : b = 0
    · rw [if_pos (by omega), arZ, if_neg (by decide), if_neg (by decide), if_neg (by decide), if_pos rfl, if_pos h]
    · rw [if_neg (by omega), arZ, if_neg (by decide), if_neg (by decide), if_neg (by decide), if_pos rfl, if_neg h, show rkZ 22 a b = a.tmod b from if_neg h]; rfl
  · by_cases h : b = 0
    · rw [if_pos (by omega), arZ, if_neg (by decide), if_neg (by decide), if_neg (by decide), if_neg (by decide), if_pos h]
    · rw [if_neg (by omega), arZ, if_neg (by decide), if_neg (by decide), if_neg (by decide), if_neg (by decide), if_neg h, show rkZ 23 a b = a.tdiv b from if_neg h]; rfl
theorem rkZ_cmp {op : Nat} {a b : Int} (h1 : 24 ≤ op) : rkZ op a b = b2i (cmpZ op a b) := by unfold rkZ; rw [if_neg (by omega), if_neg (by omega), if_neg (by omega), if_neg (by omega), if_neg (by omega)]
theorem b2i_bd (b : Bool) : 0 ≤ b2i b ∧ b2i b ≤ 1 := by unfold b2i; split <;> omega
theorem k_end {g : gG} {d : Nat} {T : mT} {n : Nat} {I' : mI} {J' : mJ} {F : mF} {Q : mQ} {m b k s : Nat} {va : Int32}  (hM : MS T F m) (hs : s < 400) (hk : b ≤ k) (hk2 : k < 2147483648) (hQ : Q none T n I' (up2 J' m 30 (J' (m + 13) 0)) F) : V g mX12_reckonAll (d + 2) Q 0 0 10 [some (.ref m), some (.int va), some (.int (nI b)), some (.int (nI (s + 1))), some (.int (nI (k))), none, none] [] T n I' J' F := by
  refine V.iload (pc := 10) dX12_reckonAll_10 rfl ?_
  refine V.iload_n (pc := 12) dX12_reckonAll_12 rfl ?_
  refine V.icmp_ge 245 (pc := 13) dX12_reckonAll_13 (by decide) (fun h13 => ?_) (fun h13 => absurd (nI_le hk (by omega)) h13)
  refine V.aload_n (pc := 245) dX12_reckonAll_245 rfl ?_
  refine V.iload_n (pc := 246) dX12_reckonAll_246 rfl ?_
  refine V.if_le 259 (pc := 247) dX12_reckonAll_247 (by decide) (fun h247 => absurd h247 (by rw [show (0 : Int32) = nI 0 from rfl]; exact nI_ge (by omega) (by omega))) (fun h247 => ?_)
  refine V.aload_n (pc := 250) dX12_reckonAll_250 rfl ?_
  refine V.getR (pc := 251) dX12_reckonAll_251 fX12_62_11 rfl hM.o hM.f28 ?_
  refine V.iconst (v := 0) (pc := 254) dX12_reckonAll_254 (by decide) ?_
  refine V.lald' (k := 0) (pc := 255) dX12_reckonAll_255 hM.t28 rfl (by decide) (by decide) ?_
  refine V.goto 260 (pc := 256) dX12_reckonAll_256 (by decide) ?_
  refine V.putJ (pc := 260) dX12_reckonAll_260 fX12_297_11 (fun r h => by cases h; exact Or.inl rfl) rfl hM.o ?_
  exact V.vret (pc := 263) dX12_reckonAll_263 rfl hQ
theorem k_brk {g : gG} {d : Nat} {T : mT} {n : Nat} {I' : mI} {J' : mJ} {F : mF} {Q : mQ} {m b k s : Nat} {va : Int32}  (hM : MS T F m) (hs : s < 400) (h29 : I' m 29 = 1) (hQ : Q none T n I' (up2 J' m 30 (J' (m + 13) 0)) F) : V g mX12_reckonAll (d + 2) Q 0 0 10 [some (.ref m), some (.int va), some (.int (nI b)), some (.int (nI (s + 1))), some (.int (nI (k))), none, none] [] T n I' J' F := by
  refine V.iload (pc := 10) dX12_reckonAll_10 rfl ?_
  refine V.iload_n (pc := 12) dX12_reckonAll_12 rfl ?_
  refine V.icmp_ge 245 (pc := 13) dX12_reckonAll_13 (by decide) (fun h13 => ?_) (fun h13 => ?_)
  · refine V.aload_n (pc := 245) dX12_reckonAll_245 rfl ?_
    refine V.iload_n (pc := 246) dX12_reckonAll_246 rfl ?_
    refine V.if_le 259 (pc := 247) dX12_reckonAll_247 (by decide) (fun h247 => absurd h247 (by rw [show (0 : Int32) = nI 0 from rfl]; exact nI_ge (by omega) (by omega))) (fun h247 => ?_)
    refine V.aload_n (pc := 250) dX12_reckonAll_250 rfl ?_
    refine V.getR (pc := 251) dX12_reckonAll_251 fX12_62_11 rfl hM.o hM.f28 ?_
    refine V.iconst (v := 0) (pc := 254) dX12_reckonAll_254 (by decide) ?_
    refine V.lald' (k := 0) (pc := 255) dX12_reckonAll_255 hM.t28 rfl (by decide) (by decide) ?_
    refine V.goto 260 (pc := 256) dX12_reckonAll_256 (by decide) ?_
    refine V.putJ (pc := 260) dX12_reckonAll_260 fX12_297_11 (fun r h => by cases h; exact Or.inl rfl) rfl hM.o ?_
    exact V.vret (pc := 263) dX12_reckonAll_263 rfl hQ
  · refine V.aload_n (pc := 16) dX12_reckonAll_16 rfl ?_
    refine V.getI (pc := 17) dX12_reckonAll_17 fX12_283_11 rfl hM.o ?_
    rw [h29]
    refine V.if_ne 245 (pc := 20) dX12_reckonAll_20 (by decide) (fun h20 => ?_) (fun h20 => absurd h20 (by decide))
    refine V.aload_n (pc := 245) dX12_reckonAll_245 rfl ?_
    refine V.iload_n (pc := 246) dX12_reckonAll_246 rfl ?_
    refine V.if_le 259 (pc := 247) dX12_reckonAll_247 (by decide) (fun h247 => absurd h247 (by rw [show (0 : Int32) = nI 0 from rfl]; exact nI_ge (by omega) (by omega))) (fun h247 => ?_)
    refine V.aload_n (pc := 250) dX12_reckonAll_250 rfl ?_
    refine V.getR (pc := 251) dX12_reckonAll_251 fX12_62_11 rfl hM.o hM.f28 ?_
    refine V.iconst (v := 0) (pc := 254) dX12_reckonAll_254 (by decide) ?_
    refine V.lald' (k := 0) (pc := 255) dX12_reckonAll_255 hM.t28 rfl (by decide) (by decide) ?_
    refine V.goto 260 (pc := 256) dX12_reckonAll_256 (by decide) ?_
    refine V.putJ (pc := 260) dX12_reckonAll_260 fX12_297_11 (fun r h => by cases h; exact Or.inl rfl) rfl hM.o ?_
    exact V.vret (pc := 263) dX12_reckonAll_263 rfl hQ
section KRUN
variable {g : gG} {d : Nat} {T : mT} {n : Nat} {I : mI} {J : mJ} {F : mF} {Q : mQ} {m a b L : Nat} {va : Int32} {f : Nat → Int} {e : Nat → Int} {v : SV}
def KK (g : gG) (d : Nat) (T : mT) (n : Nat) (I : mI) (J : mJ) (F : mF) (Q : mQ) (m b : Nat) (va : Int32) (k : Nat) (S : List Int) : Prop := S.length ≤ k → BdS k S → ∀ (I' : mI) (J' : mJ), RkI m I J 0 I' J' → StkZ (J' (m + 13)) S → V g mX12_reckonAll (d + 2) Q 0 0 10 [some (.ref m), some (.int va), some (.int (nI b)), some (.int (nI (S.length))), some (.int (nI (k))), none, none] [] T n I' J' F
def KB (g : gG) (d : Nat) (T : mT) (n : Nat) (I : mI) (J : mJ) (F : mF) (Q : mQ) (m b : Nat) (va : Int32) : Prop := ∀ (I' : mI) (J' : mJ) (s k : Nat), s < 400 → RkI m I J 1 I' J' → V g mX12_reckonAll (d + 2) Q 0 0 10 [some (.ref m), some (.int va), some (.int (nI b)), some (.int (nI (s + 1))), some (.int (nI (k))), none, none] [] T n I' J' F
theorem k_clo (hM : MS T F m) (hb : b ≤ 400) (hL : L + 900 ≤ 5550) (h26 : I m 26 = nI L) (hf : ∀ j, j < 900 → (I (m + 2) (L + j)).toInt = f j) (he : ∀ i, 1 ≤ i → i ≤ 5 → J (m + 12) i = lI (e i) ∧ -2147483648 ≤ e i ∧ e i ≤ 2147483648) : CloR (fun k => (f (98 + 2 * k), f (98 + 2 * k + 1))) e a b (KK g d T n I J F Q m b va) (KB g d T n I J F Q m b va) := by
  have hop : ∀ (k : Nat) (I' : mI) (J' : mJ), k < b → RkI m I J 0 I' J' → 0 ≤ f (98 + 2 * k) → I' (m + 2) (L + 98 + 2 * k) = nI (f (98 + 2 * k)).toNat := fun k I' J' hk hi h0 => by
    have h1 := hf (98 + 2 * k) (by omega)
    rw [hi.1 _ (by omega), show L + 98 + 2 * k = L + (98 + 2 * k) by omega]
    rw [← h1] at h0 ⊢
    exact nIx h0 rfl
  have har : ∀ (k : Nat) (I' : mI) (J' : mJ), k < b → RkI m I J 0 I' J' → (I' (m + 2) (L + 98 + 2 * k + 1)).toInt = f (98 + 2 * k + 1) := fun k I' J' hk hi => by
    rw [hi.1 _ (by omega), show L + 98 + 2 * k + 1 = L + (98 + 2 * k + 1) by omega]
    exact hf _ (by omega)
  have hop2 : ∀ (k : Nat) (y x : Int) (S2 : List Int), k < b → 19 ≤ f (98 + 2 * k) → f (98 + 2 * k) < 27 → (¬ (((f (98 + 2 * k)).toNat = 22 ∨ (f (98 + 2 * k)).toNat = 23) ∧ y = 0) → -1000000000 ≤ rkZ (f (98 + 2 * k)).toNat x y ∧ rkZ (f (98 + 2 * k)).toNat x y ≤ 1000000000 → KK g d T n I J F Q m b va (k + 1) (rkZ (f (98 + 2 * k)).toNat x y :: S2)) → ((((f (98 + 2 * k)).toNat = 22 ∨ (f (98 + 2 * k)).toNat = 23) ∧ y = 0) ∨ ¬ (-1000000000 ≤ rkZ (f (98 + 2 * k)).toNat x y ∧ rkZ (f (98 + 2 * k)).toNat x y ≤ 1000000000) → KB g d T n I J F Q m b va) → KK g d T n I J F Q m b va k (y :: x :: S2) := by
    intro k y x S2 hk h19 h27 hY hN hlen hbd I' J' hi hS
    rw [List.length_cons, List.length_cons] at hlen
    have hy := hbd.b (by omega)
    have hx := hbd.t.b (by omega)
    have h1 := hop k I' J' hk hi (by omega)
    have h26' : I' m 26 = nI L := by rw [hi.2.1 26 (by decide)]; exact h26
    by_cases h0 : ((f (98 + 2 * k)).toNat = 22 ∨ (f (98 + 2 * k)).toNat = 23) ∧ y = 0
    · exact k_opZ hM hk hb hL h26' hi.2.2.1 h1 (by omega) (by omega) hx hy hS.2.1 hS.1 h0 (fun I2 r1 r2 r3 => hN (Or.inl h0) _ _ _ _ (by omega) (hi.i r1 r2 r3))
    · by_cases h2 : -1000000000 ≤ rkZ (f (98 + 2 * k)).toNat x y ∧ rkZ (f (98 + 2 * k)).toNat x y ≤ 1000000000
      · exact k_opY hM hk hb hL h26' hi.2.2.1 h1 (by omega) (by omega) hx hy hS.2.1 hS.1 h0 h2 (fun I2 r1 r2 r3 => hY h0 h2 (by rw [List.length_cons]; omega) (hbd.t.t.c (by omega) (by omega)) _ _ (hi.i r1 r2 r3) (hS.2.2.push rfl))
      · exact k_opN hM hk hb hL h26' hi.2.2.1 h1 (by omega) (by omega) hx hy hS.2.1 hS.1 h0 h2 (fun I2 r1 r2 r3 => hN (Or.inr h2) _ _ _ _ (by omega) (hi.i r1 r2 r3))
  refine ⟨fun k S k' S' hk1 hk2 hst hK => ?_, fun k S hk1 hk2 hst hB => ?_⟩
  · unfold stpR at hst
    simp only [] at hst
    by_cases c0 : f (98 + 2 * k) < 0
    · rw [if_pos c0] at hst; cases hst
    rw [if_neg c0] at hst
    by_cases c5 : f (98 + 2 * k) ≤ 5
    · rw [if_pos c5] at hst
      cases hst
      intro hlen hbd I' J' hi hS
      have h1 := hop k I' J' hk2 hi (by omega)
      have h26' : I' m 26 = nI L := by rw [hi.2.1 26 (by decide)]; exact h26
      by_cases z0 : f (98 + 2 * k) = 0
      · rw [if_pos z0] at hK
        have h2 := har k I' J' hk2 hi
        have b1 := Int32.le_toInt (I' (m + 2) (L + 98 + 2 * k + 1))
        have b2 := Int32.toInt_lt (I' (m + 2) (L + 98 + 2 * k + 1))
        refine k_num hM hk2 hb hL h26' hi.2.2.1 h1 (by omega) (by omega) ?_
        rw [h2] at b1 b2 ⊢
        exact hK (by rw [List.length_cons]; omega) (hbd.c (by omega) (by omega)) _ _ hi.j (hS.push rfl)
      · rw [if_neg z0] at hK
        obtain ⟨h2, h3, h4⟩ := he (f (98 + 2 * k)).toNat (by omega) (by omega)
        refine k_env hM hk2 hb hL h26' hi.2.2.1 h1 (by omega) (by rw [hi.2.2.2 _ (by omega)]; exact h2) (by omega) ?_
        exact hK (by rw [List.length_cons]; omega) (hbd.c (by omega) (by omega)) _ _ hi.j (hS.push rfl)
    rw [if_neg c5] at hst
    by_cases c19 : f (98 + 2 * k) < 19
    · rw [if_pos c19] at hst; cases hst
    rw [if_neg c19] at hst
    by_cases c24 : f (98 + 2 * k) < 24
    · rw [if_pos c24] at hst
      rcases S with _ | ⟨y, _ | ⟨x, S2⟩⟩
      · cases hst
      · cases hst
      simp only [] at hst
      rw [arZ_rk (by omega) (by omega)] at hst
      refine hop2 k y x S2 hk2 (by omega) (by omega) (fun g0 g1 => ?_) (fun g0 => ?_)
      · rw [if_neg g0, if_pos g1] at hst
        cases hst
        exact hK
      · by_cases z0 : (((f (98 + 2 * k)).toNat = 22 ∨ (f (98 + 2 * k)).toNat = 23) ∧ y = 0)
        · rw [if_pos z0] at hst; cases hst
        · rw [if_neg z0] at hst
          rcases g0 with g0 | g0
          · exact absurd g0 z0
          · rw [if_neg g0] at hst; cases hst
    rw [if_neg c24] at hst
    by_cases c27 : f (98 + 2 * k) < 27
    · rw [if_pos c27] at hst
      rcases S with _ | ⟨y, _ | ⟨x, S2⟩⟩
      · cases hst
      · cases hst
      simp only [] at hst
      cases hst
      have h5 := b2i_bd (cmpZ (f (98 + 2 * k)).toNat x y)
      refine hop2 k y x S2 hk2 (by omega) (by omega) (fun g0 g1 => ?_) (fun g0 => ?_)
      · rw [rkZ_cmp (by omega)]; exact hK
      · rw [rkZ_cmp (by omega)] at g0
        omega
    rw [if_neg c27] at hst
    by_cases c27b : f (98 + 2 * k) = 27
    · rw [if_pos c27b] at hst
      rcases S with _ | ⟨x, S2⟩
      · cases hst
      simp only [] at hst
      cases hst
      intro hlen hbd I' J' hi hS
      rw [List.length_cons] at hlen
      have hx := hbd x (List.mem_cons_self ..)
      refine k_not hM hk2 hb hL (by rw [hi.2.1 26 (by decide)]; exact h26) hi.2.2.1 (hop k I' J' hk2 hi (by omega)) (by omega) (by omega) hS.1 ?_
      exact hK (by rw [List.length_cons]; omega) (hbd.t.c (by omega) (by omega)) _ _ hi.j (hS.2.push rfl)
    rw [if_neg c27b] at hst
    by_cases c29 : f (98 + 2 * k) ≤ 29
    · rw [if_pos c29] at hst
      rcases S with _ | ⟨x, S2⟩
      · cases hst
      simp only [] at hst
      intro hlen hbd I' J' hi hS
      have hx := hbd.b (by omega)
      have h1 := hop k I' J' hk2 hi (by omega)
      have h26' : I' m 26 = nI L := by rw [hi.2.1 26 (by decide)]; exact h26
      have hl2 : S2.length + 1 ≤ k := hlen
      by_cases cj : x = (if f (98 + 2 * k) = 28 then 0 else 1)
      · rw [if_pos cj] at hst
        by_cases ck : (k : Int) < f (98 + 2 * k + 1)
        · rw [if_pos ck] at hst
          cases hst
          have h2 := har k I' J' hk2 hi
          have ht : I' (m + 2) (L + 98 + 2 * k + 1) = nI (f (98 + 2 * k + 1)).toNat := by
            rw [← h2]
            exact nIx (by omega) rfl
          have hkk : V g mX12_reckonAll (d + 2) Q 0 0 10 [some (.ref m), some (.int va), some (.int (nI b)), some (.int (nI (S2.length + 1))), some (.int (nI ((f (98 + 2 * k + 1)).toNat))), none, none] [] T n I' J' F := hK (by rw [List.length_cons]; omega) (hbd.m (by omega)) I' J' hi hS
          by_cases c28 : f (98 + 2 * k) = 28
          · rw [if_pos c28] at cj
            exact k_jmp28 hM hk2 hb hL h26' hi.2.2.1 h1 (by omega) (by omega) hS.1 cj ht hkk
          · rw [if_neg c28] at cj
            exact k_jmp29 hM hk2 hb hL h26' hi.2.2.1 h1 (by omega) (by omega) hS.1 cj ht hkk
        · rw [if_neg ck] at hst; cases hst
      · rw [if_neg cj] at hst
        obtain ⟨rfl, eS⟩ : k' = k + 1 ∧ S' = S2 := by cases hst; exact ⟨rfl, rfl⟩
        rw [eS] at hK
        have hkk : V g mX12_reckonAll (d + 2) Q 0 0 10 [some (.ref m), some (.int va), some (.int (nI b)), some (.int (nI (S2.length))), some (.int (nI (k + 1))), none, none] [] T n I' J' F := hK (by omega) (hbd.t.m (by omega)) I' J' hi hS.2
        by_cases c28 : f (98 + 2 * k) = 28
        · rw [if_pos c28] at cj
          exact k_pop28 hM hk2 hb hL h26' hi.2.2.1 h1 (by omega) (by omega) hS.1 hx cj hkk
        · rw [if_neg c28] at cj
          exact k_pop29 hM hk2 hb hL h26' hi.2.2.1 h1 (by omega) (by omega) hS.1 hx cj hkk
    · rw [if_neg c29] at hst; cases hst
  · unfold stpR at hst
    simp only [] at hst
    by_cases c0 : f (98 + 2 * k) < 0
    · rw [if_pos c0] at hst; cases hst
    rw [if_neg c0] at hst
    by_cases c5 : f (98 + 2 * k) ≤ 5
    · rw [if_pos c5] at hst; cases hst
    rw [if_neg c5] at hst
    by_cases c19 : f (98 + 2 * k) < 19
    · rw [if_pos c19] at hst; cases hst
    rw [if_neg c19] at hst
    by_cases c24 : f (98 + 2 * k) < 24
    · rw [if_pos c24] at hst
      rcases S with _ | ⟨y, _ | ⟨x, S2⟩⟩
      · cases hst
      · cases hst
      simp only [] at hst
      rw [arZ_rk (by omega) (by omega)] at hst
      refine hop2 k y x S2 hk2 (by omega) (by omega) (fun g0 g1 => ?_) (fun g0 => hB)
      rw [if_neg g0, if_pos g1] at hst
      cases hst
    rw [if_neg c24] at hst
    by_cases c27 : f (98 + 2 * k) < 27
    · rw [if_pos c27] at hst
      rcases S with _ | ⟨y, _ | ⟨x, S2⟩⟩
      · cases hst
      · cases hst
      · cases hst
    rw [if_neg c27] at hst
    by_cases c27b : f (98 + 2 * k) = 27
    · rw [if_pos c27b] at hst
      rcases S with _ | ⟨x, S2⟩
      · cases hst
      · cases hst
    rw [if_neg c27b] at hst
    by_cases c29 : f (98 + 2 * k) ≤ 29
    · rw [if_pos c29] at hst
      rcases S with _ | ⟨x, S2⟩
      · cases hst
      simp only [] at hst
      by_cases cj : x = (if f (98 + 2 * k) = 28 then 0 else 1)
      · rw [if_pos cj] at hst
        by_cases ck : (k : Int) < f (98 + 2 * k + 1)
        · rw [if_pos ck] at hst; cases hst
        · rw [if_neg ck] at hst; cases hst
      · rw [if_neg cj] at hst; cases hst
    · rw [if_neg c29] at hst; cases hst
end KRUN
theorem c_reckonAll {g : gG} {d : Nat} {T : mT} {n : Nat} {I : mI} {J : mJ} {F : mF} {m a b L : Nat} {f e : Nat → Int} {v : SV} (x y : Int32) (hM : MS T F m) (hx : x = nI a) (hy : y = nI b) (hb : b ≤ 400) (hL : L + 900 ≤ 5550) (h26 : I m 26 = nI L) (hf : ∀ j, j < 900 → (I (m + 2) (L + j)).toInt = f j) (he : ∀ i, 1 ≤ i → i ≤ 5 → J (m + 12) i = lI (e i) ∧ -2147483648 ≤ e i ∧ e i ≤ 2147483648) (hR : RealR (fun k => (f (98 + 2 * k), f (98 + 2 * k + 1))) a b v) : Ct g mX12_reckonAll (d + 2) [.ref m, .int x, .int y] 0 0 T n I J F (fun r' T' n' I' J' F' => r' = none ∧ T' = T ∧ n' = n ∧ F' = F ∧ (∀ c, c ≠ m → I' c = I c) ∧ (∀ t, t ≠ 29 → I' m t = I m t) ∧ (∀ c, c ≠ m → c ≠ m + 13 → J' c = J c) ∧ (∀ t, t ≠ 30 → J' m t = J m t) ∧ (∀ z, v e = some z → I' m 29 = 0 ∧ J' m 30 = lI z) ∧ (v e = none → I' m 29 = 1)) := by
  refine Ct.ofV (k := 4) (by decide) (Nat.le_of_ble_eq_true rfl) ?_
  show V g mX12_reckonAll (d + 2) _ 0 0 0 [some (.ref m), some (.int x), some (.int y), none, none, none, none] [] T n I J F
  subst hx hy
  refine V.aload_n (pc := 0) dX12_reckonAll_0 rfl ?_
  refine V.iconst (v := 0) (pc := 1) dX12_reckonAll_1 (by decide) ?_
  refine V.putZ (pc := 2) dX12_reckonAll_2 fX12_283_11 (fun r h => by cases h; exact Or.inl rfl) rfl (by first | exact Or.inl rfl | exact Or.inr rfl | assumption) hM.o ?_
  refine V.iconst (v := 0) (pc := 5) dX12_reckonAll_5 (by decide) ?_
  refine V.isn (pc := 6) dX12_reckonAll_6 (by decide) (st1_3 rfl) ?_
  refine V.iload_n (pc := 7) dX12_reckonAll_7 rfl ?_
  refine V.is (pc := 8) dX12_reckonAll_8 (by decide) (st1_4 rfl) ?_
  refine hR e (KK g d T n (up2 I m 29 0) J F _ m b (nI a)) (KB g d T n (up2 I m 29 0) J F _ m b (nI a)) (k_clo hM hb hL (by rw [up2_ne (by omega)]; exact h26) (fun j hj => by rw [up2_off (by omega)]; exact hf j hj) he) [] (fun z hz => ?_) (fun hz => ?_) (Nat.zero_le _) (fun z hz => by cases hz) _ _ ⟨fun _ _ => rfl, fun _ _ => rfl, up2_same, fun _ _ => rfl⟩ trivial
  · intro _ _ I' J' hi hS
    exact k_end (s := 0) hM (by omega) (Nat.le_refl _) (by omega) ⟨rfl, rfl, rfl, rfl, fun c hc => (hi.1 c hc).trans (up2_off hc), fun t ht => (hi.2.1 t ht).trans (up2_ne (by omega)), fun c h1 h2 => by rw [up2_off h1]; exact hi.2.2.2 c h2, fun t ht => by rw [up2_ne (by omega), hi.2.2.2 m (by omega)], fun w hw => ⟨hi.2.2.1, by rw [up2_same, show J' (m + 13) 0 = lI z from hS.1]; rw [hz] at hw; cases hw; rfl⟩, fun hw => by rw [hz] at hw; cases hw⟩
  · intro I' J' s k hs hi
    exact k_brk hM hs hi.2.2.1 ⟨rfl, rfl, rfl, rfl, fun c hc => (hi.1 c hc).trans (up2_off hc), fun t ht => (hi.2.1 t ht).trans (up2_ne (by omega)), fun c h1 h2 => by rw [up2_off h1]; exact hi.2.2.2 c h2, fun t ht => by rw [up2_ne (by omega), hi.2.2.2 m (by omega)], fun w hw => (by rw [hz] at hw; cases hw), fun _ => hi.2.2.1⟩
