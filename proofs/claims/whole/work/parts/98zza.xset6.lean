-- set of the class: what it leaves
def LKn (T : mT) (F : mF) (x k : Nat) : Prop := ∃ l, F (x + 41) 7 = some l ∧ T l = some (.inr (.int, k))
def FrS {α : Type} (x : Nat) (I I' : Nat → α) : Prop := ∀ b, x + 90 ≤ b → b ≤ x + 110 → I' b = I b
def QS (x : Nat) (T : mT) (n : Nat) (I : mI) (J : mJ) (F : mF) (r : Option Value) (A' : Ab) (k' : Nat) : mQ := fun r' T' n' I' J' F' => r' = r ∧ (∀ a sh, T a = some sh → T' a = some sh) ∧ n ≤ n' ∧ FrS x I I' ∧ FrS x J J' ∧ FrS x F F' ∧ XS T' F' x ∧ RepX T' I' J' F' x A' ∧ LKn T' F' x k'
def SeF (x n l k' : Nat) (T : mT) (I : mI) (J : mJ) (F : mF) (T' : mT) (I' : mI) (J' : mJ) (F' : mF) : Prop := (∀ a sh, T a = some sh → T' a = some sh) ∧ (∀ a, T' a = some (.inl 2) → T a = some (.inl 2)) ∧ (∃ l', StS T' F' (x + 41) l' k' ∧ (l' = l ∨ n ≤ l')) ∧ (∀ c, c < n → (c < x + 41 ∨ x + 44 < c) → c ≠ l → I' c = I c) ∧ (∀ c, c < n → J' c = J c) ∧ (∀ c, c < n → c ≠ x + 41 → F' c = F c) ∧ ∀ j, j ≠ 7 → F' (x + 41) j = F (x + 41) j
section SEF
variable {T T' : mT} {n : Nat} {I I' I2 : mI} {J J' : mJ} {F F' : mF} {x l k k' : Nat} {A : Ab}
theorem XS.set (hX : XS T F x) (hk : LKn T F x k) : ∃ l, StS T F (x + 41) l k ∧ (l = x + 45 ∨ x + 111 ≤ l) := by
  obtain ⟨l, l1, l2⟩ := hk
  obtain ⟨l', k', g1, g2, g3, g4, -⟩ := hX.2
  obtain rfl : l' = l := Option.some.inj (g1.symm.trans l1)
  rw [g2] at l2
  injection l2 with l2
  injection l2 with l2
  injection l2 with _ l2
  subst l2
  exact ⟨l', ⟨hX.o12, ⟨hX.g41_3, hX.u42⟩, ⟨hX.g41_4, hX.u43⟩, ⟨hX.g41_5, hX.u44⟩, g1, g2, by omega, g3⟩, g4⟩
theorem LwX.lk {a lo : Nat} {w : Lw} (h : LwX T I F lo a w) (hT : ∀ a sh, T a = some sh → T' a = some sh) (hc : ∀ c, (F a 0 = some c ∨ F a 1 = some c) → c ≠ l) (hI : ∀ b, lo ≤ b → T b ≠ none → b ≠ l → I' b = I b) (hF : ∀ b, lo ≤ b → T b ≠ none → F' b = F b) : LwX T' I' F' lo a w := by
  obtain ⟨h1, h2, cc, s, lc, ls, g1, g2, g3, g4, g5, g6, g7⟩ := h
  refine ⟨h1, hT _ _ h2, cc, s, lc, ls, g1, g2, ?_, hT _ _ g4, ?_, hT _ _ g6, ?_⟩
  · rw [hF a h1 (by rw [h2]; exact fun z => by cases z)]; exact g3
  · rw [hF a h1 (by rw [h2]; exact fun z => by cases z)]; exact g5
  · rw [hI cc g1 (by rw [g4]; exact fun z => by cases z) (hc cc (Or.inl g3)), hI s g2 (by rw [g6]; exact fun z => by cases z) (hc s (Or.inr g5))]; exact g7
theorem StX.lk {lo u : Nat} {c : Core} (h : StX T I J F lo u c) (hc : CoreOK c) (hL : ∀ a, T a = some (.inl 2) → ∀ c, (F a 0 = some c ∨ F a 1 = some c) → c ≠ l) (hT : ∀ a sh, T a = some sh → T' a = some sh) (hI : ∀ b, u ≤ b → b < u + 20 → I' b = I b) (hJ : ∀ b, u ≤ b → b < u + 20 → J' b = J b) (hI2 : ∀ b, lo ≤ b → T b ≠ none → b ≠ l → I' b = I b) (hF2 : ∀ b, lo ≤ b → T b ≠ none → F' b = F b) (hF : F' (u + 3) = F (u + 3)) : StX T' I' J' F' lo u c := by
  obtain ⟨h1, h2, h3, h4, ⟨h5, h6⟩, h7, h8⟩ := h
  refine ⟨?_, fun k y hk => ?_, fun i t hi => ?_, fun i s hi => ?_, ⟨fun k f hk k2 hk2 => ?_, fun j g1 g2 => ?_⟩, fun i w hi => ?_, fun i hi => ?_⟩
  · rw [hI u (by omega) (by omega)]; exact h1
  · have hl : k < (hds c).length := (List.getElem?_eq_some_iff.mp hk).1
    have := hc.1
    exact (h2 k y hk).congr (hI _ (by omega) (by omega)) (hI _ (by omega) (by omega)) (hJ _ (by omega) (by omega))
  · rw [hI _ (by omega) (by omega)]; exact h3 i t hi
  · rw [hI (u + 4) (by omega) (by omega), hI (u + 5) (by omega) (by omega), hI (u + 6) (by omega) (by omega)]; exact h4 i s hi
  · rw [hI _ (by omega) (by omega)]; exact h5 k f hk k2 hk2
  · rw [hI _ (by omega) (by omega)]; exact h6 j g1 g2
  · obtain ⟨a, e1, e2⟩ := h7 i w hi
    exact ⟨a, by rw [hF]; exact e1, e2.lk hT (hL a e2.2.1) hI2 hF2⟩
  · rw [hF]
    rcases h8 i hi with e | ⟨a, e1, e2, e3⟩
    · exact Or.inl e
    · exact Or.inr ⟨a, e1, e2, hT _ _ e3⟩
theorem LK.off (h : LK T F x) (hl : F (x + 41) 7 = some l) : ∀ a, T a = some (.inl 2) → ∀ c, (F a 0 = some c ∨ F a 1 = some c) → c ≠ l := by
  obtain ⟨l', k', g1, g2, g3, g4, g5⟩ := h
  obtain rfl : l' = l := Option.some.inj (g1.symm.trans hl)
  intro a ha c hc
  obtain ⟨-, c1, s1, lc, ls, e1, e2, -, -, e5, e6, -⟩ := g5 a ha
  rcases hc with hc | hc
  · obtain rfl : c1 = c := Option.some.inj (e1.symm.trans hc)
    exact e5
  · obtain rfl : s1 = c := Option.some.inj (e2.symm.trans hc)
    exact e6
theorem SeF.xs (f : SeF x n l k' T I J F T' I' J' F') (hX : XS T F x) (hl : F (x + 41) 7 = some l) (hl2 : l = x + 45 ∨ x + 111 ≤ l) (hD : ∀ a sh, T a = some sh → a < n) (hn : x + 111 ≤ n) : XS T' F' x := by
  obtain ⟨f1, f2, ⟨l', s1, s2⟩, f4, f5, f6, f7⟩ := f
  refine hX.mono f1 (fun b t h1 h2 h3 h4 h5 => ?_) ?_
  · by_cases z : b = x + 41
    · subst z; exact f7 t (h4 rfl)
    · rw [f6 b (by omega) z]
  · refine ⟨l', k', s1.f7, s1.t7, s1.kb, by omega, fun a ha => ?_⟩
    have ha2 := f2 a ha
    have hoff := hX.2.off hl a ha2
    obtain ⟨l0, k0, -, -, -, -, g5⟩ := hX.2
    obtain ⟨e0, c1, c2, lc, ls, e1, e2, e3, e4, e5, e6, e7, e8⟩ := g5 a ha2
    have d0 := hD _ _ ha2
    have d3 := hD _ _ e3
    have d4 := hD _ _ e4
    have o1 := hoff c1 (Or.inl e1)
    have o2 := hoff c2 (Or.inr e2)
    exact ⟨e0, c1, c2, lc, ls, by rw [f6 a d0 (by omega)]; exact e1, by rw [f6 a d0 (by omega)]; exact e2, f1 _ _ e3, f1 _ _ e4, by omega, by omega, e7, e8⟩
theorem SeF.rep (f : SeF x n l k' T I J F T' I' J' F') (hX : XS T F x) (hl : F (x + 41) 7 = some l) (hl2 : l = x + 45 ∨ x + 111 ≤ l) (hD : ∀ a sh, T a = some sh → a < n) (hn : x + 111 ≤ n) (h : RepX T I J F x A) (hA : AbOK A) : RepX T' I' J' F' x A := by
  obtain ⟨f1, f2, -, f4, f5, f6, f7⟩ := f
  obtain ⟨h1, h2, h3, ⟨⟨h4, h5⟩, h6, h7⟩, ⟨h8, h8'⟩, h9, h10⟩ := h
  have dn : ∀ b, T b ≠ none → b < n := fun b hb => by
    cases e : T b with
    | none => exact absurd e hb
    | some sh => exact hD b sh e
  have hC : ∀ {u : Nat} {c : Core}, StX T I J F (x + 111) u c → CoreOK c → (u = x + 1 ∨ u = x + 50 ∨ u = x + 70) → StX T' I' J' F' (x + 111) u c := fun {u c} hs hc hu => hs.lk hc (hX.2.off hl) f1 (fun b _ _ => f4 b (by omega) (by omega) (by omega)) (fun b _ _ => f5 b (by omega)) (fun b hb hb2 hb3 => f4 b (dn b hb2) (by omega) hb3) (fun b hb hb2 => f6 b (dn b hb2) (by omega)) (f6 _ (by omega) (by omega))
  refine ⟨by rw [f4 _ (by omega) (by omega) (by omega)]; exact h1, by rw [f4 _ (by omega) (by omega) (by omega)]; exact h2, hC h3 hA.1 (by omega), ⟨⟨by rw [f4 _ (by omega) (by omega) (by omega)]; exact h4, fun c hc => hC (h5 c hc) (hA.2.1 0 c hc) (by omega)⟩, by rw [f4 _ (by omega) (by omega) (by omega)]; exact h6, fun c hc => hC (h7 c hc) (hA.2.1 1 c hc) (by omega)⟩, ⟨fun i hi => ?_, fun i hi => ?_⟩, fun i t hi => by rw [f4 _ (by omega) (by omega) (by omega)]; exact h9 i t hi, ?_⟩
  · rw [f6 _ (by omega) (by omega)]
    rcases h8 i hi with e | ⟨a, e1, e2, e3⟩
    · exact Or.inl e
    · exact Or.inr ⟨a, e1, e2, f1 _ _ e3⟩
  · rw [f6 _ (by omega) (by omega)]
    rcases h8' i hi with e | ⟨a, e1, e2, e3⟩
    · exact Or.inl e
    · exact Or.inr ⟨a, e1, e2, f1 _ _ e3⟩
  · rw [f4 _ (by omega) (by omega) (by omega), f4 (x + 47) (by omega) (by omega) (by omega), f4 (x + 48) (by omega) (by omega) (by omega)]; exact h10
theorem SeF.put (f : SeF x n l k' T I J F T' I' J' F') (h : ∀ c, c < n → (c < x + 41 ∨ x + 44 < c) → c ≠ l → I2 c = I' c) : SeF x n l k' T I J F T' I2 J' F' := ⟨f.1, f.2.1, f.2.2.1, fun c c1 c2 c3 => (h c c1 c2 c3).trans (f.2.2.2.1 c c1 c2 c3), f.2.2.2.2⟩
theorem SeF.qs {n' : Nat} {r S : Option Value} (f : SeF x n l k' T I J F T' I' J' F') (hX : XS T F x) (hl : F (x + 41) 7 = some l) (hl2 : l = x + 45 ∨ x + 111 ≤ l) (hD : ∀ a sh, T a = some sh → a < n) (hn : x + 111 ≤ n) (hn2 : n ≤ n') (hA : AbOK A) (hR : RepX T I J F x A) (hr : r = S) : QS x T n I J F S A k' r T' n' I' J' F' := by
  refine ⟨hr, f.1, hn2, fun b b1 b2 => f.2.2.2.1 b (by omega) (by omega) (by omega), fun b b1 b2 => f.2.2.2.2.1 b (by omega), fun b b1 b2 => f.2.2.2.2.2.1 b (by omega) (by omega), f.xs hX hl hl2 hD hn, f.rep hX hl hl2 hD hn hR hA, ?_⟩
  obtain ⟨l', s1, -⟩ := f.2.2.1
  exact ⟨l', s1.f7, s1.t7⟩
theorem QX.qs {r S : Option Value} {n' : Nat} (h : QX x T n I J F S A r T' n' I' J' F') (hk : LKn T F x k) : QS x T n I J F S A k r T' n' I' J' F' := by
  obtain ⟨h1, h2, h3, h4, h5, h6, h7, h8⟩ := h
  refine ⟨h1, h2, h3, fun b b1 b2 => h4 b (by omega) b2, fun b b1 b2 => h5 b (by omega) b2, fun b b1 b2 => h6 b (by omega) b2, h7, h8, ?_⟩
  obtain ⟨l, l1, l2⟩ := hk
  exact ⟨l, by rw [h6 (x + 41) (Or.inr rfl) (by omega)]; exact l1, h2 _ _ l2⟩
end SEF
-- from where the hands stand, or from 0
theorem pl_eq {x y x' y' H : Nat} (hy : y < H) (hy' : y' < H) : x * H + y = x' * H + y' ↔ x = x' ∧ y = y' := by
  constructor
  · intro e
    have a := dvH (x := x) hy
    have b := dvH (x := x') hy'
    rw [e] at a
    exact ⟨a.1.symm.trans b.1, a.2.symm.trans b.2⟩
  · rintro ⟨rfl, rfl⟩; rfl
theorem md_sh {s X m W : Nat} (hs : s < W) (hm : m < W) : (s + X) % W = m ↔ X % W = (((m : Int) - (s : Int)) % (W : Int)).toNat := by
  have hr := Nat.mod_lt X (show 0 < W by omega)
  have e1 : (((m : Int) - (s : Int)) % (W : Int)).toNat = if s ≤ m then m - s else m + W - s := by
    split
    · rw [Int.emod_eq_of_lt (by omega) (by omega)]; omega
    · rw [show ((m : Int) - (s : Int)) % (W : Int) = ((m : Int) - s + W) % (W : Int) from (Int.add_emod_right _ _).symm, Int.emod_eq_of_lt (by omega) (by omega)]; omega
  rw [e1, ← Nat.add_mod_mod]
  generalize X % W = r at *
  rw [← md_2 (show s + r < 2 * W by omega)]
  split <;> split <;> omega
theorem sh_plc {W H : Nat} {a b : Nat → Nat} {sx sy mx my : Nat} (h1 : sx < W) (h2 : sy < H) (h3 : mx < W) (h4 : my < H) (u : V4) : plc W H a b (sx * H + sy) u = mx * H + my ↔ plc W H a b 0 u = (((mx : Int) - (sx : Int)) % (W : Int)).toNat * H + (((my : Int) - (sy : Int)) % (H : Int)).toNat := by
  have m4 := Int.emod_lt_of_pos ((my : Int) - sy) (show 0 < (H : Int) by omega)
  have m3 := Int.emod_nonneg ((my : Int) - sy) (show (H : Int) ≠ 0 by omega)
  unfold plc
  obtain ⟨e1, e2⟩ := dvH (x := sx) h2
  rw [e1, e2, pl_eq (Nat.mod_lt _ (by omega)) h4, pl_eq (Nat.mod_lt _ (by omega)) (by omega), md_sh h1 h3, md_sh h2 h4, Nat.zero_div, Nat.zero_mod, Nat.zero_add, Nat.zero_add]
theorem IsL.sh {W H K : Nat} {a b : Nat → Nat} {sx sy mx my : Nat} {t : V4} (h1 : sx < W) (h2 : sy < H) (h3 : mx < W) (h4 : my < H) (h : IsL W H K a b 0 ((((mx : Int) - (sx : Int)) % (W : Int)).toNat * H + (((my : Int) - (sy : Int)) % (H : Int)).toNat) t) : IsL W H K a b (sx * H + sy) (mx * H + my) t := ⟨h.1, (sh_plc h1 h2 h3 h4 t).mpr h.2.1, fun u u1 u2 => h.2.2 u u1 ((sh_plc h1 h2 h3 h4 u).mp u2)⟩
