-- the start
theorem RepX.low {T T' : mT} {I I' : mI} {J J' : mJ} {F F' : mF} {x : Nat} {A : Ab} (h : RepX T I J F x A) (hA : AbOK A) (hT : ∀ a sh, T a = some sh → T' a = some sh) (hD : ∀ b, T b ≠ none → b < x + 90) (f1 : ∀ b, b < x + 90 → I' b = I b) (f2 : ∀ b, b < x + 90 → J' b = J b) (f3 : ∀ b, b < x + 90 → F' b = F b) : RepX T' I' J' F' x A := by
  obtain ⟨h1, h2, h3, ⟨⟨h4, h5⟩, h6, h7⟩, ⟨h8, h8'⟩, h9, h10⟩ := h
  have hC : ∀ {u : Nat} {c : Core}, StX T I J F (x + 111) u c → CoreOK c → (u = x + 1 ∨ u = x + 50 ∨ u = x + 70) → StX T' I' J' F' (x + 111) u c := fun {u c} hs hc hu => hs.congr hc hT (fun b _ _ => f1 b (by omega)) (fun b _ _ => f2 b (by omega)) (fun b hb hb2 => by have := hD b hb2; omega) (fun b hb hb2 => by have := hD b hb2; omega) (f3 _ (by omega))
  refine ⟨by rw [f1 _ (by omega)]; exact h1, by rw [f1 _ (by omega)]; exact h2, hC h3 hA.1 (by omega), ⟨⟨by rw [f1 _ (by omega)]; exact h4, fun c hc => hC (h5 c hc) (hA.2.1 0 c hc) (by omega)⟩, by rw [f1 _ (by omega)]; exact h6, fun c hc => hC (h7 c hc) (hA.2.1 1 c hc) (by omega)⟩, ⟨fun i hi => ?_, fun i hi => ?_⟩, fun i t hi => by rw [f1 _ (by omega)]; exact h9 i t hi, by rw [f1 _ (by omega), f1 (x + 47) (by omega), f1 (x + 48) (by omega)]; exact h10⟩
  · rw [f3 _ (by omega)]
    rcases h8 i hi with e | ⟨a, e1, e2, e3⟩
    · exact Or.inl e
    · exact Or.inr ⟨a, e1, e2, hT _ _ e3⟩
  · rw [f3 _ (by omega)]
    rcases h8' i hi with e | ⟨a, e1, e2, e3⟩
    · exact Or.inl e
    · exact Or.inr ⟨a, e1, e2, hT _ _ e3⟩
theorem glob_ex {s : State} {b : Nat} (l : Launch) (hts : ∀ w ∈ lw_tbl, w.before #[Value.ref b] s = true) (hgv : (Jvm.Cond.and given_1 narrow_1).before #[Value.ref b] s = true) : ∃ (D : va_G) (cA : FieldType → ClassId), Glob (l, s, #[Value.ref b], D, cA) := by
  have key : ∀ r ∈ vwCl, Cond.instantiable r.1 r.2.2 ∈ lw_tbl := by decide +kernel
  have h1 : ∀ c : Nat, ∃ z : ClassId × (Nat → Nat), ∀ q : vw_C, vwCl[c]? = some q → u_Kn s q.1 q.2.1 q.2.2 z.1 z.2 := by
    intro c
    cases e : vwCl[c]? with
    | none => exact ⟨(0, fun _ => 0), fun q hq => (by cases hq)⟩
    | some q =>
      obtain ⟨cC, iS, hK⟩ := u_known (C := q.1) (T := q.2.1) (N := q.2.2) hts (fun w hw => (lays_all c q e w hw).1) (hts _ (key q (List.mem_of_getElem? e)))
      refine ⟨(cC, iS), fun q' hq' => ?_⟩
      injection hq' with hq'
      subst hq'
      exact hK
  have h2 : ∀ ty : FieldType, ∃ cA : ClassId, ty ∈ mTys → ArrOfT s cA ty ∧ va_RA s cA ty := by
    intro ty
    by_cases hm : ty ∈ mTys
    · have hp : ∀ (w : Cond), w ∈ lw_tbl → w.before #[Value.ref b] s = true := hts
      simp only [mTys, List.mem_cons, List.not_mem_nil, or_false] at hm
      rcases hm with rfl | rfl | rfl | rfl | rfl | rfl
      · obtain ⟨c, k, comp, e1, e2, e3⟩ := Cond.arrayClass_spec (hp _ a_int)
        exact ⟨c, fun _ => ⟨fun n z => ⟨(fun k h => (by cases h)), k, e2, comp, e3⟩, e1⟩⟩
      · obtain ⟨c, k, comp, e1, e2, e3⟩ := Cond.arrayClass_spec (hp _ a_long)
        exact ⟨c, fun _ => ⟨fun n z => ⟨(fun k h => (by cases h)), k, e2, comp, e3⟩, e1⟩⟩
      · obtain ⟨c, k, comp, e1, e2, e3⟩ := Cond.arrayClass_spec (hp _ a_boolean)
        exact ⟨c, fun _ => ⟨fun n z => ⟨(fun k h => (by cases h)), k, e2, comp, e3⟩, e1⟩⟩
      · obtain ⟨comp, c, k, q1, q2, q3, q4, q5⟩ := Cond.arrayOver_spec (hp _ o_Hand)
        exact ⟨c, fun _ => ⟨fun n z => ⟨(fun k h => (by cases h)), k, q3, comp, q4⟩, k, comp, q3, q4, q1, q5⟩⟩
      · obtain ⟨comp, c, k, q1, q2, q3, q4, q5⟩ := Cond.arrayOver_spec (hp _ o_Law)
        exact ⟨c, fun _ => ⟨fun n z => ⟨(fun k h => (by cases h)), k, q3, comp, q4⟩, k, comp, q3, q4, q1, q5⟩⟩
      · obtain ⟨comp, c, k, q1, q2, q3, q4, q5⟩ := Cond.arrayOver_spec (hp _ o_State)
        exact ⟨c, fun _ => ⟨fun n z => ⟨(fun k h => (by cases h)), k, q3, comp, q4⟩, k, comp, q3, q4, q1, q5⟩⟩
    · exact ⟨0, fun h => absurd h hm⟩
  refine ⟨(fun c => (Classical.choose (h1 c)).1, fun c => (Classical.choose (h1 c)).2), fun ty => Classical.choose (h2 ty), hts, fun c q hq => Classical.choose_spec (h1 c) q hq, fun ty hm => Classical.choose_spec (h2 ty) hm, hgv⟩
theorem lw_v {g : gG} {d : Nat} {b N n : Nat} {xs : Nat → Int32} {aK aV : Nat → Nat} (hst : StrG g aK aV) (hXs : va_X b N xs (gs g) (gs g).heap) (hbs : b < (gs g).heap.size) (hN : N ≤ 3584) : V g mL_law (d + 60) (fun r' _ _ _ _ _ => r' = some (.int 1)) 600000 7302250 0 [some (.ref b), none, none, none] [] (fun _ => none) n (fun _ _ => 0) (fun _ _ => 0) (fun _ _ => none) := by
  refine V.room (bc := 599999 + 1) (bs := 7302235 + 15) (by decide) (by decide) ?_
  refine V.new (N := 15) (RX11, TX11, 15) (pc := 0) dL_law_0 (ci := 10) rfl rfl kL_7 iX11 jX11 ?_
  refine V.dup (pc := 3) dL_law_3 rfl ?_
  refine V.room (bc := 599899 + 100) (bs := 7296235 + 6000) (by decide) (by decide) ?_
  refine V.invI (mc := 100) (ms := 6000) (as := []) (pc := 4) dL_law_4 lL_9 bX11_init nX11_init rfl rfl (n_x (d := d + 56) (x := n) upT_at rfl (fun b h => (by have := upT_in h (by simp); cases this))) (by omega) rfl (Nat.le_of_ble_eq_true rfl) ?_
  rintro _ T1 _ I1 J1 F1 ⟨rfl, rfl, f1, hX, hR, hLK⟩
  refine V.dom (fun hD1 => ?_)
  refine V.asn (pc := 7) dL_law_7 (by decide) (st1_1 rfl) ?_
  refine V.room (bc := 599898 + 1) (bs := 7296191 + 44) (by decide) (by decide) ?_
  refine V.new (N := 44) (RX12, TX12, 44) (pc := 8) dL_law_8 (ci := 11) rfl rfl kL_10 iX12 jX12 ?_
  refine V.dup (pc := 11) dL_law_11 rfl ?_
  refine V.room (bc := 599878 + 20) (bs := 6314997 + 981194) (by decide) (by decide) ?_
  refine V.invI (mc := 20) (ms := 981194) (as := []) (pc := 12) dL_law_12 lL_12 bX12_init nX12_init rfl rfl (n_m (d := d + 58) (m := n + 90) upT_at rfl (fun k => by rw [clr_row])) (by omega) rfl (Nat.le_of_ble_eq_true rfl) ?_
  rintro _ T2 _ I2 J2 F2 ⟨rfl, rfl, f2, hM, hRM⟩
  have hno : ∀ a, T2 a ≠ some (.inl 2) := fun a ha => (by have h3 := upT_in (f1.2.2.2.2 a (upT_in (f2.2.2.2.2 a ha) (by simp))) (by simp); cases h3)
  have hT12 : ∀ a sh, T1 a = some sh → T2 a = some sh := fun a sh ha => by rw [f2.1 a (hD1 a sh ha), upT_lt (hD1 a sh ha)]; exact ha
  have hI12 : ∀ a, a < n + 90 → I2 a = I1 a := fun a ha => by rw [f2.2.1 a ha, clr_off (by omega)]
  have hJ12 : ∀ a, a < n + 90 → J2 a = J1 a := fun a ha => by rw [f2.2.2.1 a ha, clr_off (by omega)]
  have hF12 : ∀ a, a < n + 90 → F2 a = F1 a := fun a ha => by rw [f2.2.2.2.1 a ha, clr_off (by omega)]
  have hLK2 : LKn T2 F2 n 0 := by
    obtain ⟨l, l1, l2⟩ := hLK
    exact ⟨l, by rw [hF12 _ (by omega)]; exact l1, hT12 _ _ l2⟩
  have hX2 : XS T2 F2 n := hX.mono hT12 (fun b t h1 _ _ _ _ => by rw [hF12 b h1]) (by
    obtain ⟨l, k, g1, g2, g3, g4, -⟩ := hX.2
    exact ⟨l, k, by rw [hF12 _ (by omega)]; exact g1, hT12 _ _ g2, g3, g4, fun a ha => absurd ha (hno a)⟩)
  have hR2 : RepX T2 I2 J2 F2 n A0 := hR.low A0_ok hT12 (fun b hb => by
    cases e : T1 b with
    | none => exact absurd e hb
    | some sh => exact hD1 b sh e) hI12 hJ12 hF12
  have hLI : LI n A0 0 T2 (n + 111) I2 J2 F2 := ⟨hX2, hR2, hM, hRM, A0_ok, hLK2, Nat.le_refl _⟩
  refine V.asn (pc := 15) dL_law_15 (by decide) (st1_2 rfl) ?_
  refine V.iconst (v := 0) (pc := 16) dL_law_16 (by decide) ?_
  refine V.isn (pc := 17) dL_law_17 (by decide) (st1_3 rfl) ?_
  conv => arg 8; rw [L0]
  refine V.room (bc := 3 * (N / 7)) (bs := 420 * (N / 7) + phi 0) (by omega) (by have : phi 0 = 480000 := rfl; omega) ?_
  exact lw_loop hst hXs hbs hN (fun _ _ _ _ _ => rfl) (N / 7) 0 A0 0 _ _ _ _ _ (by omega) (by omega) hLI
