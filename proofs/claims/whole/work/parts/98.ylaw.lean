-- the class's law: the shape of the memory behind it
theorem SS.mono {T T' : mT} {F F' : mF} {v : Nat} (hS : SS T F v) (hT : ∀ a sh, T a = some sh → T' a = some sh) (hF : ∀ b t, v ≤ b → b < v + 20 → b ≠ v + 3 → F' b t = F b t) : SS T' F' v := by
  have fe : ∀ {b t w : Nat}, v ≤ b → b < v + 20 → b ≠ v + 3 → F b t = some w → F' b t = some w := fun h1 h2 h3 h => by rw [hF _ _ h1 h2 h3]; exact h
  refine ⟨hT _ _ hS.o, ⟨fe (by omega) (by omega) (by omega) hS.f1, hT _ _ hS.t1⟩, ⟨fe (by omega) (by omega) (by omega) hS.f3, hT _ _ hS.t3⟩, ⟨fe (by omega) (by omega) (by omega) hS.f6, hT _ _ hS.t6⟩, ⟨fe (by omega) (by omega) (by omega) hS.f9, hT _ _ hS.t9⟩, ⟨fe (by omega) (by omega) (by omega) hS.f10, hT _ _ hS.t10⟩, ⟨fe (by omega) (by omega) (by omega) hS.f11, hT _ _ hS.t11⟩, ⟨fe (by omega) (by omega) (by omega) hS.f13, hT _ _ hS.t13⟩, fun h hh => ⟨fe (by omega) (by omega) (by omega) (hS.h hh), hT _ _ (hS.n hh).o, fe (by omega) (by omega) (by omega) (hS.n hh).f4, hT _ _ (hS.n hh).t4⟩⟩
theorem XS.mono {T T' : mT} {F F' : mF} {x : Nat} (hX : XS T F x) (hT : ∀ a sh, T a = some sh → T' a = some sh) (hF : ∀ b t, b < x + 90 → b ≠ x + 4 → (b = x + 25 → t < 3) → (b = x + 41 → t ≠ 7) → (b = x + 31 → t = 0) → F' b t = F b t) (hL : LK T' F' x) : XS T' F' x := by
  have fe : ∀ {b t w : Nat}, b < x + 90 → b ≠ x + 4 → (b = x + 25 → t < 3) → (b = x + 41 → t ≠ 7) → (b = x + 31 → t = 0) → F b t = some w → F' b t = some w := fun h1 h2 h3 h4 h5 h => by rw [hF _ _ h1 h2 h3 h4 h5]; exact h
  exact ⟨⟨hT _ _ hX.o, fe (by omega) (by omega) (by omega) (by omega) (by omega) hX.f0, hX.s.mono hT (fun b t h1 h2 h3 => hF b t (by omega) (by omega) (by omega) (by omega) (by omega)), ⟨fe (by omega) (by omega) (by omega) (by omega) (by omega) hX.f1, hT _ _ hX.t1⟩, ⟨fe (by omega) (by omega) (by omega) (by omega) (by omega) hX.i0, fe (by omega) (by omega) (by omega) (by omega) (by omega) hX.i1⟩, hX.s0.mono hT (fun b t h1 h2 h3 => hF b t (by omega) (by omega) (by omega) (by omega) (by omega)), hX.s1.mono hT (fun b t h1 h2 h3 => hF b t (by omega) (by omega) (by omega) (by omega) (by omega)), ⟨fe (by omega) (by omega) (by omega) (by omega) (by omega) hX.f2, hT _ _ hX.t2⟩, ⟨fe (by omega) (by omega) (by omega) (by omega) (by omega) hX.f6, hT _ _ hX.t6⟩, ⟨fe (by omega) (by omega) (by omega) (by omega) (by omega) hX.f8, hT _ _ hX.o8⟩, ⟨fe (by omega) (by omega) (by omega) (by omega) (by omega) hX.g24_0, hT _ _ hX.o25⟩, ⟨fe (by omega) (by omega) (by omega) (by omega) (by omega) hX.g25_0, hT _ _ hX.u26⟩, ⟨fe (by omega) (by omega) (by omega) (by omega) (by omega) hX.g25_1, hT _ _ hX.u27⟩, ⟨fe (by omega) (by omega) (by omega) (by omega) (by omega) hX.g25_2, hT _ _ hX.u28⟩, ⟨fe (by omega) (by omega) (by omega) (by omega) (by omega) hX.g24_8, hT _ _ hX.u29⟩, ⟨fe (by omega) (by omega) (by omega) (by omega) (by omega) hX.g24_9, hT _ _ hX.u30⟩, ⟨fe (by omega) (by omega) (by omega) (by omega) (by omega) hX.f9, hT _ _ hX.o9⟩, ⟨fe (by omega) (by omega) (by omega) (by omega) (by omega) hX.g31_0, hT _ _ hX.u32⟩, ⟨fe (by omega) (by omega) (by omega) (by omega) (by omega) hX.f10, hT _ _ hX.o10⟩, ⟨fe (by omega) (by omega) (by omega) (by omega) (by omega) hX.g33_0, hT _ _ hX.u34⟩, ⟨fe (by omega) (by omega) (by omega) (by omega) (by omega) hX.g33_1, hT _ _ hX.u35⟩, ⟨fe (by omega) (by omega) (by omega) (by omega) (by omega) hX.f11, hT _ _ hX.o11⟩, ⟨fe (by omega) (by omega) (by omega) (by omega) (by omega) hX.g36_0, hT _ _ hX.u37⟩, ⟨fe (by omega) (by omega) (by omega) (by omega) (by omega) hX.g36_1, hT _ _ hX.u38⟩, ⟨fe (by omega) (by omega) (by omega) (by omega) (by omega) hX.g36_5, hT _ _ hX.u39⟩, ⟨fe (by omega) (by omega) (by omega) (by omega) (by omega) hX.g36_6, hT _ _ hX.u40⟩, ⟨fe (by omega) (by omega) (by omega) (by omega) (by omega) hX.f12, hT _ _ hX.o12⟩, ⟨fe (by omega) (by omega) (by omega) (by omega) (by omega) hX.g41_3, hT _ _ hX.u42⟩, ⟨fe (by omega) (by omega) (by omega) (by omega) (by omega) hX.g41_4, hT _ _ hX.u43⟩, ⟨fe (by omega) (by omega) (by omega) (by omega) (by omega) hX.g41_5, hT _ _ hX.u44⟩, ⟨fe (by omega) (by omega) (by omega) (by omega) (by omega) hX.f13, hT _ _ hX.o13⟩, ⟨fe (by omega) (by omega) (by omega) (by omega) (by omega) hX.g46_1, hT _ _ hX.u47⟩, ⟨fe (by omega) (by omega) (by omega) (by omega) (by omega) hX.g46_2, hT _ _ hX.u48⟩, fe (by omega) (by omega) (by omega) (by omega) (by omega) hX.f14, hT _ _ hX.t14⟩, hL⟩
section YLAW
variable {T T' : mT} {n : Nat} {I I' : mI} {J J' : mJ} {F F' : mF} {x : Nat} {A : Ab}
theorem LK.mono (h : LK T F x) (hD : ∀ a sh, T a = some sh → a < n) (hn : x + 111 ≤ n) (hF : ∀ b, b < n → x + 111 ≤ b ∨ b = x + 41 → F' b = F b) : LK T F' x := by
  obtain ⟨l, k, h1, h2, h3, h4, h5⟩ := h
  refine ⟨l, k, by rw [hF _ (by omega) (Or.inr rfl)]; exact h1, h2, h3, h4, fun a ha => ?_⟩
  obtain ⟨h0, h6⟩ := h5 a ha
  rw [hF a (hD _ _ ha) (Or.inl h0)]
  exact ⟨h0, h6⟩
theorem LK.law {c s : Nat} (h : LK T F x) (hD : ∀ a sh, T a = some sh → a < n) (hn : x + 111 ≤ n) (hF : ∀ b, b < n → x + 111 ≤ b ∨ b = x + 41 → F' b = F b) (h0 : F' (n + 2) 0 = some n) (h1 : F' (n + 2) 1 = some (n + 1)) : LK (upT (upT (upT T n (.inr (.int, c))) (n + 1) (.inr (.int, s))) (n + 2) (.inl 2)) F' x := by
  obtain ⟨l, k, g1, g2, g3, g4, g5⟩ := h
  have hl := hD _ _ g2
  refine ⟨l, k, by rw [hF _ (by omega) (Or.inr rfl)]; exact g1, by rw [upT_lt (by omega), upT_lt (by omega), upT_lt hl]; exact g2, g3, g4, fun a ha => ?_⟩
  by_cases z2 : a = n + 2
  · subst z2
    exact ⟨by omega, n, n + 1, c, s, h0, h1, by rw [upT_lt (by omega), upT_lt (by omega), upT_at], by rw [upT_lt (by omega), upT_at], by omega, by omega, by omega, by omega⟩
  by_cases z1 : a = n + 1
  · subst z1
    rw [upT_lt (by omega), upT_at] at ha
    cases ha
  by_cases z0 : a = n
  · subst z0
    rw [upT_lt (by omega), upT_lt (by omega), upT_at] at ha
    cases ha
  have e : ∀ b, b ≠ n → b ≠ n + 1 → b ≠ n + 2 → upT (upT (upT T n (.inr (.int, c))) (n + 1) (.inr (.int, s))) (n + 2) (.inl 2) b = T b := fun b q0 q1 q2 => by rw [upT, if_neg q2, upT, if_neg q1, upT, if_neg q0]
  rw [e a z0 z1 z2] at ha
  have hal := hD _ _ ha
  obtain ⟨k0, c', s', lc, ls, k1, k2, k3, k4, k5⟩ := g5 a ha
  have l3 := hD _ _ k3
  have l4 := hD _ _ k4
  rw [hF a hal (Or.inl k0)]
  exact ⟨k0, c', s', lc, ls, k1, k2, by rw [e c' (by omega) (by omega) (by omega)]; exact k3, by rw [e s' (by omega) (by omega) (by omega)]; exact k4, k5⟩
/-- the tape is read: nothing else changed but the reader, and new cells -/
theorem RepX.read {z : Int} (h : RepX T I J F x A) (hA : AbOK A) (hD : ∀ a sh, T a = some sh → a < n) (hn : x + 111 ≤ n) (hT : ∀ a sh, T a = some sh → T' a = some sh) (hI : ∀ b, b < n → b ≠ x → (b < x + 24 ∨ x + 30 < b) → I' b = I b) (hJ : ∀ b, b < n → J' b = J b) (hF : ∀ b, b < n → b ≠ x + 25 → F' b = F b) (e3 : I' x 3 = 0) (e4 : I' x 4 = iI z) (e5 : I' x 5 = I x 5) (e7 : I' x 7 = I x 7) : RepX T' I' J' F' x (fltA A z) := by
  have hDn : ∀ b, T b ≠ none → b < n := fun b hb => by
    cases q : T b with
    | none => exact absurd q hb
    | some sh => exact hD b sh q
  obtain ⟨⟨a1, a2, a3, a4⟩, h2, h3, ⟨⟨h4, h5⟩, h6, h7⟩, ⟨h8, h8'⟩, h9, h10⟩ := h
  have hC : ∀ {u : Nat} {c : Core}, StX T I J F (x + 111) u c → CoreOK c → (u = x + 1 ∨ u = x + 50 ∨ u = x + 70) → StX T' I' J' F' (x + 111) u c := fun {u c} hs hc hu => hs.congr hc hT (fun b _ _ => hI b (by omega) (by omega) (by omega)) (fun b _ _ => hJ b (by omega)) (fun b hb hb2 => hI b (hDn b hb2) (by omega) (by omega)) (fun b hb hb2 => hF b (hDn b hb2) (by omega)) (hF _ (by omega) (by omega))
  refine ⟨⟨e3, e4, e5.trans a3, e7.trans a4⟩, by rw [hI _ (by omega) (by omega) (by omega)]; exact h2, hC h3 hA.1 (by omega), ⟨⟨by rw [hI _ (by omega) (by omega) (by omega)]; exact h4, fun c hc => hC (h5 c hc) (hA.2.1 0 c hc) (by omega)⟩, by rw [hI _ (by omega) (by omega) (by omega)]; exact h6, fun c hc => hC (h7 c hc) (hA.2.1 1 c hc) (by omega)⟩, ⟨fun i hi => ?_, fun i hi => ?_⟩, fun i t hi => by have h0 : ([] : List Nat)[i]? = some t := hi; simp at h0, ?_⟩
  · rw [hF _ (by omega) (by omega)]
    rcases h8 i hi with e | ⟨a, q1, q2, q3⟩
    · exact Or.inl e
    · exact Or.inr ⟨a, q1, q2, hT _ _ q3⟩
  · rw [hF _ (by omega) (by omega)]
    rcases h8' i hi with e | ⟨a, q1, q2, q3⟩
    · exact Or.inl e
    · exact Or.inr ⟨a, q1, q2, hT _ _ q3⟩
  · rw [hI _ (by omega) (by omega) (by omega), hI (x + 47) (by omega) (by omega) (by omega), hI (x + 48) (by omega) (by omega) (by omega)]; exact h10
/-- a law more -/
theorem RepX.lawN {w : Lw} {a : Nat} (h : RepX T I J F x A) (hA : AbOK A) (hl : (lws (cor A)).length < 6) (hw : LwX T I F (x + 111) a w) : RepX T (up2 I (x + 1) 7 (nI ((lws (cor A)).length + 1))) J (up2 F (x + 4) (lws (cor A)).length (some a)) x (corA A (lwsC (cor A) (lws (cor A) ++ [w]))) := by
  obtain ⟨h1, h2, h3, ⟨⟨h4, h5⟩, h6, h7⟩, ⟨h8, h8'⟩, h9, h10⟩ := h
  have kI : ∀ b, b ≠ x + 1 → up2 I (x + 1) 7 (nI ((lws (cor A)).length + 1)) b = I b := fun b hb => up2_off hb
  have kF : ∀ b, b ≠ x + 4 → up2 F (x + 4) (lws (cor A)).length (some a) b = F b := fun b hb => up2_off hb
  have hC : ∀ {u : Nat} {c : Core}, StX T I J F (x + 111) u c → CoreOK c → (u = x + 50 ∨ u = x + 70) → StX T (up2 I (x + 1) 7 (nI ((lws (cor A)).length + 1))) J (up2 F (x + 4) (lws (cor A)).length (some a)) (x + 111) u c := fun {u c} hs hc hu => hs.congr hc (fun _ _ z => z) (fun b _ _ => kI b (by omega)) (fun _ _ _ => rfl) (fun b hb hb2 => kI b (by omega)) (fun b hb hb2 => kF b (by omega)) (kF _ (by omega))
  have hw2 : ∀ {b : Nat} {v : Lw}, LwX T I F (x + 111) b v → LwX T (up2 I (x + 1) 7 (nI ((lws (cor A)).length + 1))) (up2 F (x + 4) (lws (cor A)).length (some a)) (x + 111) b v := fun hb => hb.congr (fun _ _ z => z) (fun b hb hb2 => kI b (by omega)) (fun b hb hb2 => kF b (by omega))
  refine ⟨by rw [kI _ (by omega)]; exact h1, by rw [kI _ (by omega)]; exact h2, ?_, ⟨⟨by rw [kI _ (by omega)]; exact h4, fun c hc => hC (h5 c hc) (hA.2.1 0 c hc) (by omega)⟩, by rw [kI _ (by omega)]; exact h6, fun c hc => hC (h7 c hc) (hA.2.1 1 c hc) (by omega)⟩, ⟨fun i hi => ?_, fun i hi => ?_⟩, fun i t hi => by rw [kI _ (by omega)]; exact h9 i t hi, ?_⟩
  · obtain ⟨⟨b1, b2, b3, b4, b5, b6, b7⟩, c2, c3, c4, ⟨c5, c6⟩, c7, c8⟩ := h3
    refine ⟨⟨by rw [up2_ne (by omega)]; exact b1, by rw [up2_ne (by omega)]; exact b2, by rw [up2_ne (by omega)]; exact b3, by rw [up2_same]; show _ = nI (lws (cor A) ++ [w]).length; rw [List.length_append]; rfl, by rw [up2_ne (by omega)]; exact b5, by rw [up2_ne (by omega)]; exact b6, by rw [up2_ne (by omega)]; exact b7⟩, fun k y hk => ?_, fun i t hi => ?_, fun i s hi => ?_, ⟨fun k f hk k2 hk2 => ?_, fun j g1 g2 => ?_⟩, fun i v hi => ?_, fun i hi => ?_⟩
    · exact (c2 k y hk).congr (kI _ (by omega)) (kI _ (by omega)) rfl
    · rw [kI _ (by omega)]; exact c3 i t hi
    · rw [kI _ (by omega), kI (x + 1 + 5) (by omega), kI (x + 1 + 6) (by omega)]; exact c4 i s hi
    · rw [kI _ (by omega)]; exact c5 k f hk k2 hk2
    · rw [kI _ (by omega)]; exact c6 j g1 g2
    · have hi2 : (lws (cor A) ++ [w])[i]? = some v := hi
      by_cases z : i < (lws (cor A)).length
      · rw [List.getElem?_append_left z] at hi2
        obtain ⟨b, q1, q2⟩ := c7 i v hi2
        exact ⟨b, by rw [up2_ne (by omega)]; exact q1, hw2 q2⟩
      · have hlen := (List.getElem?_eq_some_iff.mp hi2).1
        rw [List.length_append, List.length_singleton] at hlen
        obtain rfl : i = (lws (cor A)).length := by omega
        rw [List.getElem?_append_right (Nat.le_refl _), Nat.sub_self] at hi2
        cases hi2
        exact ⟨a, up2_same, hw2 hw⟩
    · by_cases z : i = (lws (cor A)).length
      · subst z
        exact Or.inr ⟨a, up2_same, hw.1, hw.2.1⟩
      · rw [up2_ne (by omega)]; exact c8 i hi
  · rw [kF _ (by omega)]; exact h8 i hi
  · rw [kF _ (by omega)]; exact h8' i hi
  · rw [kI _ (by omega), kI (x + 47) (by omega), kI (x + 48) (by omega)]; exact h10
theorem TtM.of (hA : AbOK A) : TtM (tpA A) (tap A).length := by
  refine ⟨hA.2.2.1, fun i => ?_⟩
  unfold tpA
  rw [List.getD_eq_getElem?_getD]
  cases h : (tap A)[i]? with
  | none => decide
  | some t => exact hA.2.2.2.1 t (List.mem_of_getElem? h)
end YLAW
theorem x_newLaw {g : gG} {d : Nat} {T : mT} {n : Nat} {I : mI} {J : mJ} {F : mF} {u p k : Nat} (hS : SS T F u) (hp : T p = some (.inl 2)) (h7 : I u 7 = nI k) (hk : k < 6) : Ct g mX8_newLaw (d + 1) [.ref u, .ref p] 0 0 T n I J F (fun r' T' n' I' J' F' => r' = some (.int (nI k)) ∧ T' = T ∧ n' = n ∧ I' = up2 I u 7 (nI (k + 1)) ∧ J' = J ∧ F' = up2 F (u + 3) k (some p)) := by
  refine Ct.ofV (k := 0) (by decide) (Nat.le_of_ble_eq_true rfl) ?_
  show V g mX8_newLaw (d + 1) _ 0 0 0 [some (.ref u), some (.ref p)] [] T n I J F
  have hTo := hS.o
  have e0 : (0 : Int32) = nI 0 := rfl
  refine V.aload_n (pc := 0) dX8_newLaw_0 rfl ?_
  refine V.getI (pc := 1) dX8_newLaw_1 fX8_41_7 rfl hS.o ?_
  rw [h7]
  refine V.if_lt 19 (pc := 4) dX8_newLaw_4 (by decide) (fun h4 => absurd h4 (by rw [e0]; exact nI_nlt (Nat.zero_le _) (by omega))) (fun h4 => ?_)
  refine V.aload_n (pc := 7) dX8_newLaw_7 rfl ?_
  refine V.getI (pc := 8) dX8_newLaw_8 fX8_41_7 rfl hS.o ?_
  rw [h7]
  refine V.aload_n (pc := 11) dX8_newLaw_11 rfl ?_
  refine V.getR (pc := 12) dX8_newLaw_12 fX8_37_7 rfl hS.o hS.f6 ?_
  refine V.alen (pc := 15) dX8_newLaw_15 hS.t6 ty_W (by rfl) ?_
  refine V.icmp_lt 21 (pc := 16) dX8_newLaw_16 (by decide) (fun h16 => ?_) (fun h16 => absurd (by rw [lt32, nI_toInt (by omega)]; show _ < (6 : Int); omega) h16)
  refine V.aload_n (pc := 21) dX8_newLaw_21 rfl ?_
  refine V.getR (pc := 22) dX8_newLaw_22 fX8_37_7 rfl hS.o hS.f6 ?_
  refine V.aload_n (pc := 25) dX8_newLaw_25 rfl ?_
  refine V.getI (pc := 26) dX8_newLaw_26 fX8_41_7 rfl hS.o ?_
  rw [h7]
  refine V.aload_n (pc := 29) dX8_newLaw_29 rfl ?_
  refine V.aast' (k := k) (r := (RX2, TX2, 2)) (ci := 2) (pc := 30) dX8_newLaw_30 hS.t6 ty_W hp rfl rfl (by omega) (by decide) ?_
  refine V.aload_n (pc := 31) dX8_newLaw_31 rfl ?_
  refine V.dup (pc := 32) dX8_newLaw_32 rfl ?_
  refine V.getI (pc := 33) dX8_newLaw_33 fX8_41_7 rfl hS.o ?_
  rw [h7]
  refine V.iconst (v := 1) (pc := 36) dX8_newLaw_36 (by decide) ?_
  refine V.iadd (pc := 37) dX8_newLaw_37 ?_
  rw [nI_1]
  refine V.putI (pc := 38) dX8_newLaw_38 fX8_41_7 (fun r h => by cases h; exact Or.inl rfl) rfl hS.o ?_
  refine V.aload_n (pc := 41) dX8_newLaw_41 rfl ?_
  refine V.getI (pc := 42) dX8_newLaw_42 fX8_41_7 rfl hS.o ?_
  rw [up2_same]
  refine V.iconst (v := 1) (pc := 45) dX8_newLaw_45 (by decide) ?_
  refine V.isub (pc := 46) dX8_newLaw_46 ?_
  rw [nI_pred]
  exact V.iret (pc := 47) dX8_newLaw_47 rfl ⟨rfl, rfl, rfl, rfl, rfl, rfl⟩
theorem tapOK {A : Ab} (hA : AbOK A) : AbOK (tapA A []) := ⟨hA.1, hA.2.1, Nat.zero_le _, fun t ht => (by have h0 : t ∈ ([] : List Nat) := ht; simp at h0), hA.2.2.2.2⟩
theorem corOK {A : Ab} {c : Core} (hA : AbOK A) (hc : CoreOK c) : AbOK (corA A c) := ⟨hc, hA.2⟩
set_option maxHeartbeats 2000000 in
theorem y_law {g : gG} {d : Nat} {T : mT} {n : Nat} {I : mI} {J : mJ} {F : mF} {x : Nat} {A : Ab} {aK aV : Nat → Nat} (hd : 32 ≤ d) (hX : XS T F x) (hA : AbOK A) (hR : RepX T I J F x A) (hst : StrG g aK aV) (hn : x + 111 ≤ n) : Ct g mX11_law (d + 13) [.ref x] 3 420 T n I J F (QX x T n I J F (some (.int (iI (s_law A).1))) (s_law A).2) := by
  refine Ct.ofV (k := 2) (by decide) (Nat.le_of_ble_eq_true rfl) ?_
  show V g mX11_law (d + 13) _ 3 420 0 [some (.ref x), none, none] [] T n I J F
  have hTo := hX.s.o
  have hT8 := hX.o8
  have h6 := hA.1.2.2.2.2.1
  refine V.dom (fun hD => ?_)
  refine V.aload_n (pc := 0) dX11_law_0 rfl ?_
  refine V.getI (pc := 1) dX11_law_1 fX11_24_10 rfl hX.o ?_
  rw [hR.1.1]
  refine V.isn (pc := 4) dX11_law_4 (by decide) (st1_1 rfl) ?_
  refine V.aload_n (pc := 5) dX11_law_5 rfl ?_
  refine V.iconst (v := 0) (pc := 6) dX11_law_6 (by decide) ?_
  refine V.putI (pc := 7) dX11_law_7 fX11_24_10 (fun r h => by cases h; exact Or.inl rfl) rfl hX.o ?_
  refine V.aload_n (pc := 10) dX11_law_10 rfl ?_
  refine V.getR (pc := 11) dX11_law_11 fX11_10_10 rfl hX.o hX.f0 ?_
  refine V.getI (pc := 14) dX11_law_14 fX11_147_7 rfl (by assumption) ?_
  rw [up2_off (by omega), hR.h7]
  refine V.bipush (v := 6) (pc := 17) dX11_law_17 (by decide) ?_
  refine V.icmp_lt 29 (pc := 19) dX11_law_19 (by decide) (fun h19 => ?_) (fun h19 => ?_)
  · have hl : (lws (cor A)).length < 6 := by
      rw [lt32, nI_toInt (by omega)] at h19
      have e6 : (6 : Int32).toInt = 6 := rfl
      omega
    have qL : ¬ (lws (cor A)).length = 6 := by omega
    refine V.aload_n (pc := 29) dX11_law_29 rfl ?_
    refine V.getR (pc := 30) dX11_law_30 fX11_43_10 rfl hX.o hX.f8 ?_
    refine V.aload_n (pc := 33) dX11_law_33 rfl ?_
    refine V.getR (pc := 34) dX11_law_34 fX11_20_10 rfl hX.o hX.f2 ?_
    refine V.iload_n (pc := 37) dX11_law_37 rfl ?_
    refine V.invV (bc := 0) (bs := 0) (mc := 3) (ms := 420) (as := [_, _]) (pc := 38) dX11_law_38 lX11_150 bX4_lawOf nX4_lawOf (ci := 4) rfl eX4_lawOf (by assumption) (x_lawOf (d := d + 0) (u := x + 24) (a := x + 22) (N := (tap A).length) (tt := tpA A) (aK := aK) (aV := aV) _ (by omega) hX.rr (TtM.of hA) hst hX.t2 (by omega) (fun i hi => (by rw [up2_off (by omega), hR.2.2.2.2.2.1 i _ (List.getElem?_eq_getElem hi)]; unfold tpA; rw [List.getD_eq_getElem?_getD, List.getElem?_eq_getElem hi]; rfl)) rfl) (by omega) rfl (Nat.le_of_ble_eq_true rfl) ?_
    rintro r2 T2 n2 I2 J2 F2 ⟨f1, f2, f3, f4, hn2, hy2⟩
    rcases hp2 : dClauses (kdT (tpA A) (tap A).length) (nmT (tpA A) (tap A).length) 12 0 0 [] with ⟨j2, _ | l2⟩
    · obtain ⟨q1, q2, q3, e10⟩ := hn2 j2 hp2
      obtain rfl : T = T2 := q2.symm
      obtain rfl : n = n2 := q3.symm
      subst q1
      replace hX := hX.mono (fun _ _ z => z) (fun b t h1 h2 h3 h4 _ => by
          by_cases z : b = x + 25
          · subst z; exact f4 t (by have := h3 rfl; omega)
          · rw [f3 b (by omega) (by omega)]) (hX.2.mono hD hn (fun b h1 h2 => f3 b h1 (by omega)))
      have hT8 := hX.o8
      have eS : s_law A = okNo (fltA A (frT (tpA A) (tap A).length j2)) (-6) := by rw [s_law, if_neg qL, show lawT A = (j2, none) from hp2]
      have hR2 := hR.read (I' := up2 I2 x 4 (nI (frT (tpA A) (tap A).length j2))) (z := (frT (tpA A) (tap A).length j2 : Nat)) hA hD hn (fun _ _ z => z) (fun b b1 b2 b3 => by rw [up2_off b2, f1 b b1 (by omega), up2_off b2]) f2 (fun b b1 b2 => f3 b b1 b2) (by rw [up2_ne (by omega), f1 x (by omega) (by omega), up2_same]) (by rw [up2_same, iI_nat]) (by rw [up2_ne (by omega), f1 x (by omega) (by omega), up2_ne (by omega)]) (by rw [up2_ne (by omega), f1 x (by omega) (by omega), up2_ne (by omega)])
      refine V.nsn (pc := 41) dX11_law_41 (by decide) (st1_2 rfl) ?_
      refine V.aload_n (pc := 42) dX11_law_42 rfl ?_
      refine V.aload_n (pc := 43) dX11_law_43 rfl ?_
      refine V.getR (pc := 44) dX11_law_44 fX11_43_10 rfl hX.o hX.f8 ?_
      refine V.getI (pc := 47) dX11_law_47 fX11_154_4 rfl (by assumption) ?_
      rw [e10]
      refine V.putI (pc := 50) dX11_law_50 fX11_28_10 (fun r h => by cases h; exact Or.inl rfl) rfl hX.o ?_
      refine V.nload_n (pc := 53) dX11_law_53 rfl ?_
      refine V.ifnonnullN (pc := 54) dX11_law_54 ?_
      refine V.aload_n (pc := 57) dX11_law_57 rfl ?_
      refine V.bipush (v := (-6)) (pc := 58) dX11_law_58 (by decide) ?_
      refine V.invV0 (as := [_]) (pc := 60) dX11_law_60 lX11_85 bX11_refuse nX11_refuse (ci := 10) rfl eX11_refuse hX.o (x_refuse6 (d := d + 12) hX) (by omega) rfl (Nat.le_of_ble_eq_true rfl) ?_
      rintro _ _ _ _ _ _ ⟨rfl, rfl, rfl, rfl, rfl, rfl⟩
      refine V.goto 78 (pc := 63) dX11_law_63 (by decide) ?_
      exact V.iret (pc := 78) dX11_law_78 rfl (by rw [eS, show (-6 : Int32) = iI (-6) from rfl]; exact ⟨rfl, fun _ _ z => z, Nat.le_refl _, FrX.rfX (fun b b1 b2 => by rw [up2_off (by omega), f1 b (by omega) (by omega), up2_off (by omega)]), (fun b b1 b2 => f2 b (by omega)), (fun b b1 b2 => f3 b (by omega) (by omega)), hX, hR2.refuse (lawOK hA) 3 (-6) (by omega)⟩)
    · obtain ⟨q1, q3, e10, s2, q2, g0, g1, hw⟩ := hy2 j2 l2 hp2
      subst q1 q3 q2
      have hT2 : ∀ a sh, T a = some sh → upT (upT (upT T n (.inr (.int, s2))) (n + 1) (.inr (.int, l2.length + 1))) (n + 2) (.inl 2) a = some sh := fun a sh h => by have := hD a sh h; rw [upT_lt (by omega), upT_lt (by omega), upT_lt (by omega)]; exact h
      replace hX := hX.mono hT2 (fun b t h1 h2 h3 h4 _ => by
          by_cases z : b = x + 25
          · subst z; exact f4 t (by have := h3 rfl; omega)
          · rw [f3 b (by omega) (by omega)]) (hX.2.law hD hn (fun b h1 h2 => f3 b h1 (by omega)) g0 g1)
      replace hTo := hX.s.o
      have hT8 := hX.o8
      have eS : s_law A = okYes (fltA A (-1)) (lws (cor A)).length (lwsC (cor A) (lws (cor A) ++ [lawSem l2])) := by rw [s_law, if_neg qL, show lawT A = (j2, some l2) from hp2]
      have hR2 := hR.read (I' := up2 I2 x 4 (-1)) (z := -1) hA hD hn hT2 (fun b b1 b2 b3 => by rw [up2_off b2, f1 b b1 (by omega), up2_off b2]) f2 (fun b b1 b2 => f3 b b1 b2) (by rw [up2_ne (by omega), f1 x (by omega) (by omega), up2_same]) (by rw [up2_same]; rfl) (by rw [up2_ne (by omega), f1 x (by omega) (by omega), up2_ne (by omega)]) (by rw [up2_ne (by omega), f1 x (by omega) (by omega), up2_ne (by omega)])
      have hL2 : LwX (upT (upT (upT T n (.inr (.int, s2))) (n + 1) (.inr (.int, l2.length + 1))) (n + 2) (.inl 2)) (up2 I2 x 4 (-1)) F2 (x + 111) (n + 2) (lawSem l2) := ⟨by omega, upT_at, n, n + 1, s2, l2.length + 1, by omega, by omega, g0, by rw [upT_lt (by omega), upT_lt (by omega), upT_at], g1, by rw [upT_lt (by omega), upT_at], by rw [up2_off (by omega), up2_off (by omega)]; exact hw⟩
      replace hR2 := hR2.lawN (lawOK hA) hl hL2
      refine V.asn (pc := 41) dX11_law_41 (by decide) (st1_2 rfl) ?_
      refine V.aload_n (pc := 42) dX11_law_42 rfl ?_
      refine V.aload_n (pc := 43) dX11_law_43 rfl ?_
      refine V.getR (pc := 44) dX11_law_44 fX11_43_10 rfl hX.o hX.f8 ?_
      refine V.getI (pc := 47) dX11_law_47 fX11_154_4 rfl (by assumption) ?_
      rw [e10]
      refine V.putI (pc := 50) dX11_law_50 fX11_28_10 (fun r h => by cases h; exact Or.inl rfl) rfl hX.o ?_
      refine V.aload_n (pc := 53) dX11_law_53 rfl ?_
      refine V.ifnonnull 66 (pc := 54) dX11_law_54 (by decide) ?_
      refine V.aload_n (pc := 66) dX11_law_66 rfl ?_
      refine V.aload_n (pc := 67) dX11_law_67 rfl ?_
      refine V.getR (pc := 68) dX11_law_68 fX11_10_10 rfl hX.o hX.f0 ?_
      refine V.aload_n (pc := 71) dX11_law_71 rfl ?_
      refine V.invV0 (as := [_]) (pc := 72) dX11_law_72 lX11_157 bX8_newLaw nX8_newLaw (ci := 7) rfl eX8_newLaw (by assumption) (x_newLaw (d := d + 11) (k := (lws (cor A)).length) hX.s upT_at (by rw [up2_off (by omega), f1 _ (by omega) (by omega), up2_off (by omega)]; exact hR.h7) hl) (by omega) rfl (Nat.le_of_ble_eq_true rfl) ?_
      rintro _ _ _ _ _ _ ⟨rfl, rfl, rfl, rfl, rfl, rfl⟩
      replace hX := hX.congr (w := x + 4) (F' := up2 F2 (x + 4) (lws (cor A)).length (some (n + 2))) (fun b hb => up2_off hb) (Or.inl rfl)
      refine V.invV0 (as := [_]) (pc := 75) dX11_law_75 lX11_92 bX11_accept nX11_accept (ci := 10) rfl eX11_accept hX.o (x_accept (d := d + 12) _ hX) (by omega) rfl (Nat.le_of_ble_eq_true rfl) ?_
      rintro _ _ _ _ _ _ ⟨rfl, rfl, rfl, rfl, rfl, rfl⟩
      exact V.iret (pc := 78) dX11_law_78 rfl (by rw [eS]; exact ⟨by rw [show (okYes (fltA A (-1)) (lws (cor A)).length (lwsC (cor A) (lws (cor A) ++ [lawSem l2]))).1 = ((lws (cor A)).length : Int) from rfl, iI_nat], hT2, by omega, FrX.up (FrX.up (fun b b1 b2 => by rw [up2_off (by omega), f1 b (by omega) (by omega), up2_off (by omega)]) (by omega)) (by omega), (fun b b1 b2 => f2 b (by omega)), (fun b b1 b2 => by rw [up2_off (by omega), f3 b (by omega) (by omega)]), hX, hR2.accept (corOK (lawOK hA) (ok_lawN hA.1 hl))⟩)
  · have qL : (lws (cor A)).length = 6 := by
      rw [lt32, nI_toInt (by omega)] at h19
      have e6 : (6 : Int32).toInt = 6 := rfl
      omega
    refine V.aload_n (pc := 22) dX11_law_22 rfl ?_
    refine V.bipush (v := (-5)) (pc := 23) dX11_law_23 (by decide) ?_
    refine V.invV0 (as := [_]) (pc := 25) dX11_law_25 lX11_85 bX11_refuse nX11_refuse (ci := 10) rfl eX11_refuse hX.o (x_refuse5 (d := d + 12) hX) (by omega) rfl (Nat.le_of_ble_eq_true rfl) ?_
    rintro _ _ _ _ _ _ ⟨rfl, rfl, rfl, rfl, rfl, rfl⟩
    exact V.iret (pc := 28) dX11_law_28 rfl (QX.no (A := tapA A []) 2 (-5) (by decide) hX (tapOK hA) (hR.sc hA _ (fun b h1 h2 => up2_off h1) ⟨rfl, rfl, rfl⟩ (fun i t z => (by have h0 : ([] : List Nat)[i]? = some t := z; simp at h0)) ⟨up2_same, by rw [up2_ne (by omega)]; exact hR.1.2.1, by rw [up2_ne (by omega)]; exact hR.1.2.2.1, by rw [up2_ne (by omega)]; exact hR.1.2.2.2⟩ (by rw [up2_off (by omega)]; exact hR.2.1)) (FrX.up FrX.rf (by omega)) FrX.rf (by omega) (by rw [s_law, if_pos qL]; rfl))
