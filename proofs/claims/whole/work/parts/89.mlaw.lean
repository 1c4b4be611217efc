-- law
def tpA (A : Ab) : Nat → Nat := fun i => (tap A).getD i 0
def lawT (A : Ab) : Nat × Option (List ClA) := dClauses (kdT (tpA A) (tap A).length) (nmT (tpA A) (tap A).length) 12 0 0 []
def fltA (A : Ab) (z : Int) : Ab := (cor A, img A, [], z, bnt A, rfs A, sts A, stm A)
def s_law (A : Ab) : Int × Ab := if (lws (cor A)).length = 6 then okNo (tapA A []) (-5) else match lawT A with
  | (j, none) => okNo (fltA A (frT (tpA A) (tap A).length j)) (-6)
  | (_, some cl) => okYes (fltA A (-1)) (lws (cor A)).length (lwsC (cor A) (lws (cor A) ++ [lawSem cl]))
section LAWP
variable {I I' : mI} {J J' : mJ} {m : Nat} {A : Ab}
theorem TpM.of (hR : RepM I J m A) (hA : AbOK A) : TpM (tpA A) (tap A).length I m := by
  refine ⟨hA.2.2.1, fun i => ?_, hR.1.2.2.1, fun i hi => ?_⟩
  · unfold tpA
    rw [List.getD_eq_getElem?_getD]
    cases h : (tap A)[i]? with
    | none => decide
    | some t => exact hA.2.2.2.1 t (List.mem_of_getElem? h)
  · rw [hR.2.2.2.2.1 i _ (List.getElem?_eq_getElem hi)]
    unfold tpA
    rw [List.getD_eq_getElem?_getD, List.getElem?_eq_getElem hi]
    rfl
theorem PrG.frm (f : PrG m I J I' J') : Frm m I I' ∧ Frm m J J' := ⟨fun b hb => f.1 b (by omega) (by omega), fun b hb => f.2.2.1 b (by omega)⟩
theorem RepM.read {z : Int} (h : RepM I J m A) (f : PrG m I J I' J') (e13 : I' m 13 = iI z) : RepM (up2 I' m 8 0) J' m (fltA A z) := by
  obtain ⟨⟨a1, a2, a3, a4, a5⟩, h2, h3, h4, h5, h6, h7⟩ := h
  have e : ∀ b, b ≠ m → b < m + 6 ∨ m + 10 < b → up2 I' m 8 0 b = I b := fun b h1 h2 => by rw [up2_off h1]; exact f.1 b h1 h2
  refine ⟨⟨?_, ?_, ?_, ?_, ?_⟩, ?_, ?_, fun k hk => ?_, fun i t hi => by have h0 : ([] : List Nat)[i]? = some t := hi; simp at h0, fun a x hx => ?_, ?_⟩
  · rw [up2_ne (by omega), f.2.1 1 (by omega)]; exact a1
  · rw [up2_ne (by omega), f.2.1 6 (by omega)]; exact a2
  · rw [up2_same]; rfl
  · rw [up2_ne (by omega)]; exact e13
  · rw [up2_ne (by omega), f.2.1 42 (by omega)]; exact a5
  · rw [e (m + 1) (by omega) (by omega)]; exact h2
  · rw [e (m + 2) (by omega) (by omega)]; exact h3
  · rw [e (m + 3) (by omega) (by omega), e (m + 4) (by omega) (by omega)]; exact h4 k hk
  · rw [e (m + 20) (by omega) (by omega), e (m + 19) (by omega) (by omega)]; exact h6 a x hx
  · rw [f.2.2.1 (m + 11) (by omega)]; exact h7
theorem RowRep.lawN {r r' : Nat → Int32} {c : Core} {w : Lw} (hc : CoreOK c) (hr : RowRep r c) (hl : (lws c).length < 6) (e1 : r' 2 = nI ((lws c).length + 1)) (hw : LwRow r' (150 + 900 * (lws c).length) w) (e : ∀ j, j ≠ 2 → (j < 150 + 900 * (lws c).length ∨ 150 + 900 * (lws c).length + 900 ≤ j) → r' j = r j) : RowRep r' (lwsC c (lws c ++ [w])) := by
  obtain ⟨⟨a0, a1, a2, a3, a4, a5, a6⟩, h1, h2, h3, h4, h5⟩ := hr
  refine ⟨⟨by rw [e 0 (by decide) (by omega)]; exact a0, by rw [e 1 (by decide) (by omega)]; exact a1, by rw [e1]; show nI _ = nI (lws c ++ [w]).length; rw [List.length_append]; rfl, by rw [e 3 (by decide) (by omega)]; exact a3, by rw [e 4 (by decide) (by omega)]; exact a4, by rw [e 5 (by decide) (by omega)]; exact a5, by rw [e 6 (by decide) (by omega)]; exact a6⟩, RH.congr (c := c) hc h1 (fun j _ _ => e j (by omega) (by omega)), RS.congr (c := c) hc h2 (fun j _ _ => e j (by omega) (by omega)), RG.congr (c := c) hc h3 (fun j _ _ => e j (by omega) (by omega)), RK.congr (c := c) hc h4 (fun j _ _ => e j (by omega) (by omega)), fun i u hi => ?_⟩
  have hi2 : (lws c ++ [w])[i]? = some u := hi
  by_cases z : i < (lws c).length
  · rw [List.getElem?_append_left z] at hi2
    obtain ⟨f, g1, g2⟩ := h5 i u hi2
    exact ⟨f, fun j hj => by rw [e _ (by omega) (by omega)]; exact g1 j hj, g2⟩
  · have hlen := (List.getElem?_eq_some_iff.mp hi2).1
    rw [List.length_append, List.length_singleton] at hlen
    obtain rfl : i = (lws c).length := by omega
    rw [List.getElem?_append_right (Nat.le_refl _), Nat.sub_self] at hi2
    cases hi2
    exact hw
theorem ok_lawN {c : Core} {w : Lw} (hc : CoreOK c) (hl : (lws c).length < 6) : CoreOK (lwsC c (lws c ++ [w])) := by
  obtain ⟨a, b, c', d, e, f, g, h⟩ := hc
  refine ⟨a, b, c', d, ?_, f, ?_, h⟩
  · show (lws c ++ [w]).length ≤ 6
    rw [List.length_append, List.length_singleton]; omega
  · show frc c < ((lws c ++ [w]).length : Int)
    rw [List.length_append, List.length_singleton]; omega
end LAWP
def LwOK (C : Cd) (l : List C3) (cl : List ClA) : Prop := l.length = cl.length ∧ ∀ (k : Nat) (q : C3) (a : ClA), l[k]? = some q → cl[k]? = some a → ClF C.2 q a ∧ q.2.2 ≤ C.1
theorem LwOK.add {C D : Cd} {l : List C3} {cl : List ClA} {b : Nat} {a : ClA} (h : LwOK C l cl) (e : Ext C D) (hq : ClF D.2 (C.1, b, D.1) a) : LwOK D (l ++ [(C.1, b, D.1)]) (cl ++ [a]) := by
  refine ⟨by rw [List.length_append, List.length_append, h.1]; rfl, fun k q x h1 h2 => ?_⟩
  by_cases z : k < l.length
  · rw [List.getElem?_append_left z] at h1
    rw [List.getElem?_append_left (by rw [← h.1]; exact z)] at h2
    obtain ⟨g1, g2⟩ := h.2 k q x h1 h2
    exact ⟨g1.ext g2 e, Nat.le_trans g2 e.1⟩
  · have hlen := (List.getElem?_eq_some_iff.mp h1).1
    rw [List.length_append, List.length_singleton] at hlen
    obtain rfl : k = l.length := by omega
    rw [List.getElem?_append_right (Nat.le_refl _), Nat.sub_self] at h1
    rw [h.1, List.getElem?_append_right (Nat.le_refl _), Nat.sub_self] at h2
    cases h1
    cases h2
    exact ⟨hq, Nat.le_refl _⟩
/-- the row of a law that was read -/
theorem LwM.of {C : Cd} {l : List C3} {cl : List ClA} {f : Nat → Int} (h : LwOK C l cl) (h12 : cl.length ≤ 12) (h4 : C.1 ≤ 400) (hv : ∀ k, k < C.1 → (C.2 k).1 < 32 ∧ (C.2 k).2 ≤ 10000) (e1 : f 1 = (l.length : Int)) (e2 : ∀ (k : Nat) (q : C3), l[k]? = some q → f (2 + 8 * k + 3) = (q.1 : Int) ∧ f (2 + 8 * k + 4) = (q.2.1 : Int) ∧ f (2 + 8 * k + 5) = (q.2.1 : Int) ∧ f (2 + 8 * k + 6) = (q.2.2 : Int)) (e3 : ∀ k, k < C.1 → f (98 + 2 * k) = ((C.2 k).1 : Int) ∧ f (98 + 2 * k + 1) = ((C.2 k).2 : Int)) : LwM f (lawSem cl) := by
  have hc : ∀ j, j < C.1 → (fun k => (f (98 + 2 * k), f (98 + 2 * k + 1))) j = cI C.2 j := fun j hj => by
    show (f (98 + 2 * j), f (98 + 2 * j + 1)) = _
    rw [(e3 j hj).1, (e3 j hj).2]
    rfl
  refine ⟨(List.range cl.length).map (fun k => ((l.getD k (0, 0, 0)).1, (l.getD k (0, 0, 0)).2.1, (l.getD k (0, 0, 0)).2.2, cl.getD k (fun _ => none, none))), ?_, ?_, ?_, fun k q hq => ?_⟩
  · rw [List.length_map, List.length_range, e1, h.1]
  · rw [List.length_map, List.length_range]; exact h12
  · congr 1
    rw [List.map_map]
    refine List.ext_getElem? (fun k => ?_)
    by_cases z : k < cl.length
    · rw [List.getElem?_map, List.getElem?_range z, List.getElem?_eq_getElem z]
      show _ = some (cl.getD k _)
      rw [List.getD_eq_getElem?_getD, List.getElem?_eq_getElem z]
      rfl
    · rw [List.getElem?_eq_none (by omega), List.getElem?_eq_none (by rw [List.length_map, List.length_range]; omega)]
  · have hk : k < cl.length := by
      have := (List.getElem?_eq_some_iff.mp hq).1
      rw [List.length_map, List.length_range] at this
      exact this
    have hk2 : k < l.length := by rw [h.1]; exact hk
    rw [List.getElem?_map, List.getElem?_range hk] at hq
    have hq2 := Option.some.inj hq
    simp only [List.getD_eq_getElem?_getD, List.getElem?_eq_getElem hk2, List.getElem?_eq_getElem hk, Option.getD_some] at hq2
    obtain ⟨⟨g1, g2, g3, g4⟩, g5⟩ := h.2 k _ _ (List.getElem?_eq_getElem hk2) (List.getElem?_eq_getElem hk)
    subst hq2
    refine ⟨e2 k _ (List.getElem?_eq_getElem hk2), g1, g2, Nat.le_trans g5 h4, g3.congr (fun j _ hj => (hc j (Nat.lt_of_lt_of_le hj (Nat.le_trans g2 g5))).symm ▸ rfl), ?_⟩
    show (match (cl[k]).2 with
      | none => (l[k]).2.2 = (l[k]).2.1
      | some t => (l[k]).2.1 < (l[k]).2.2 ∧ RealRT _ (l[k]).2.1 (l[k]).2.2 t)
    cases ht : (cl[k]).2 with
    | none => rw [ht] at g4; exact g4
    | some t => rw [ht] at g4; exact ⟨g4.1, RealR.congr g4.2 (fun j _ hj => hc j (Nat.lt_of_lt_of_le hj g5))⟩
theorem l_law {g : gG} {d : Nat} {T : mT} {n : Nat} {I : mI} {J : mJ} {F : mF} {Q : mQ} {m N : Nat} {tt : Nat → Nat} {res : Nat × Option (List ClA)} (hM : MS T F m) (hT : TpM tt N I m) (hW : WdM J m) (kB : ∀ (I' : mI) (J' : mJ) (j : Nat) (C' : Cd) (q' : Nat) (P' : Pl) (o' : Nat), PrG m I J I' J' → RdM tt N (j, true, C', q', P', o') I' J' m → res = (j, none) → V g mX12_law (d + 8) Q 0 0 78 [some (.ref m), none, none] [] T n I' J' F) (kG : ∀ (I' : mI) (J' : mJ) (j q : Nat) (C : Cd) (l : List C3) (cl : List ClA), PrG m I J I' J' → RdM tt N (j, false, C, q, [], 0) I' J' m → RdOK (tkN tt N) (j, false, C, q, [], 0) → NcM I' m l → LwOK C l cl → cl.length ≤ 12 → res = (if kdT tt N j = -1 then (j, some cl) else (j, none)) → V g mX12_law (d + 8) Q 0 0 78 [some (.ref m), none, none] [] T n I' J' F) : ∀ (f : Nat) (I' : mI) (J' : mJ) (j q : Nat) (C : Cd) (l : List C3) (cl : List ClA), PrG m I J I' J' → RdM tt N (j, false, C, q, [], 0) I' J' m → RdOK (tkN tt N) (j, false, C, q, [], 0) → NcM I' m l → LwOK C l cl → f + cl.length = 12 → res = (if kdT tt N j = -1 then (j, some cl) else if kdT tt N j = 59 then dClauses (kdT tt N) (nmT tt N) f (j + 1) q cl else (j, none)) → V g mX12_law (d + 8) Q 0 0 51 [some (.ref m), none, none] [] T n I' J' F := by
  intro f
  induction f with
  | zero =>
    intro I' J' j q C l cl hf hr hok hl hlw hfl hres
    have hT2 := hf.tp hT
    have hW2 := hf.wd hW
    have e14 : I' m 14 = 0 := hr.2.1
    by_cases q59 : kdT tt N j = 59
    · refine V.aload_n (pc := 51) dX12_law_51 rfl ?_
      refine V.getI (pc := 52) dX12_law_52 fX12_151_11 rfl hM.o ?_
      rw [e14]
      refine V.if_ne 78 (pc := 55) dX12_law_55 (by decide) (fun h55 => absurd rfl h55) (fun h55 => ?_)
      refine V.aload_n (pc := 58) dX12_law_58 rfl ?_
      refine V.bipush (v := 59) (pc := 59) dX12_law_59 (by decide) ?_
      refine V.pV (as := [_]) (pc := 61) dX12_law_61 lX12_222 bX12_isSign nX12_isSign (ci := 11) rfl eX12_isSign hM.o (c_isSign (d := d + 7) (N := N) (i := j) (tt := tt) (c := 59) _ hM hr.1 hT.2.1 (by decide) rfl) (by omega) rfl (Nat.le_of_ble_eq_true rfl) ?_
      rw [bi_t (show kdT tt N j = ((59 : Nat) : Int) from q59)]
      refine V.if_eq 78 (pc := 64) dX12_law_64 (by decide) (fun h64 => absurd h64 (by decide)) (fun h64 => ?_)
      refine V.aload_n (pc := 67) dX12_law_67 rfl ?_
      refine V.invV0 (as := []) (pc := 68) dX12_law_68 lX12_155 bX12_next nX12_next (ci := 11) rfl eX12_next hM.o (c_next (d := d + 6) (N := N) (tt := tt) (i := j + 1) hM hT2 hr.1.2.1) (by omega) rfl (Nat.le_of_ble_eq_true rfl) ?_
      rintro _ _ _ I4 J4 _ ⟨rfl, rfl, rfl, rfl, f4, k4⟩
      have hE : EndT (kdT tt N) (tkN tt N) := EndT.of hT.1
      have hj1 : j + 1 ≤ tkN tt N := nxt hE hok.1 (by rw [q59]; decide)
      have hr4 : RdM tt N (j + 1, false, C, q, [], 0) I4 J4 m := RdM.nx hr rfl f4 k4
      have hok4 : RdK (tkN tt N) (j + 1, false, C, q, [], 0) := ⟨hj1, Nat.le_succ_of_le hok.k.2.1, hok.k.2.2⟩
      have hl4 : NcM I4 m l := hl.congr (f4.2.1 15 (by decide) (by decide) (by decide)) (f4.1 _ (by omega))
      have hf4 := hf.tr f4.pr.g
      refine V.aload_n (pc := 71) dX12_law_71 rfl ?_
      refine V.invV0 (as := []) (pc := 72) dX12_law_72 lX12_280 bX12_readClause nX12_readClause (ci := 11) rfl eX12_readClause hM.o (c_clauseF (d := d + 0) (N := N) (tt := tt) (l := l) (r := (j + 1, false, C, q, [], 0)) hM (hf4.tp hT) hr4 (hf4.wd hW) hok4 rfl hl4 (by rw [hlw.1]; omega)) (by omega) rfl (Nat.le_of_ble_eq_true rfl) ?_
      rintro _ _ _ I5 J5 _ ⟨rfl, rfl, rfl, rfl, f5, hr5⟩
      refine V.goto 51 (pc := 75) dX12_law_75 (by decide) ?_
      have hres2 : res = dClauses (kdT tt N) (nmT tt N) 0 (j + 1) q cl := by rw [hres, if_neg (by rw [q59]; decide), if_pos q59]
      refine V.aload_n (pc := 51) dX12_law_51 rfl ?_
      refine V.getI (pc := 52) dX12_law_52 fX12_151_11 rfl hM.o ?_
      rw [show I5 m 14 = 1 from hr5.2.1]
      refine V.if_ne 78 (pc := 55) dX12_law_55 (by decide) (fun _ => ?_) (fun z => absurd z (by decide))
      exact kB I5 J5 _ _ _ _ _ (hf4.tr f5) hr5 (by rw [hres2]; rfl)
    · refine V.aload_n (pc := 51) dX12_law_51 rfl ?_
      refine V.getI (pc := 52) dX12_law_52 fX12_151_11 rfl hM.o ?_
      rw [e14]
      refine V.if_ne 78 (pc := 55) dX12_law_55 (by decide) (fun h55 => absurd rfl h55) (fun h55 => ?_)
      refine V.aload_n (pc := 58) dX12_law_58 rfl ?_
      refine V.bipush (v := 59) (pc := 59) dX12_law_59 (by decide) ?_
      refine V.pV (as := [_]) (pc := 61) dX12_law_61 lX12_222 bX12_isSign nX12_isSign (ci := 11) rfl eX12_isSign hM.o (c_isSign (d := d + 7) (N := N) (i := j) (tt := tt) (c := 59) _ hM hr.1 hT.2.1 (by decide) rfl) (by omega) rfl (Nat.le_of_ble_eq_true rfl) ?_
      rw [bi_f (show ¬ kdT tt N j = ((59 : Nat) : Int) from q59)]
      refine V.if_eq 78 (pc := 64) dX12_law_64 (by decide) (fun h64 => ?_) (fun h64 => absurd rfl h64)
      exact kG I' J' j q C l cl hf hr hok hl hlw (by omega) (by rw [hres]; by_cases z : kdT tt N j = -1; rw [if_pos z, if_pos z]; rw [if_neg z, if_neg z, if_neg q59])
  | succ f ih =>
    intro I' J' j q C l cl hf hr hok hl hlw hfl hres
    have hT2 := hf.tp hT
    have hW2 := hf.wd hW
    have e14 : I' m 14 = 0 := hr.2.1
    by_cases q59 : kdT tt N j = 59
    · refine V.aload_n (pc := 51) dX12_law_51 rfl ?_
      refine V.getI (pc := 52) dX12_law_52 fX12_151_11 rfl hM.o ?_
      rw [e14]
      refine V.if_ne 78 (pc := 55) dX12_law_55 (by decide) (fun h55 => absurd rfl h55) (fun h55 => ?_)
      refine V.aload_n (pc := 58) dX12_law_58 rfl ?_
      refine V.bipush (v := 59) (pc := 59) dX12_law_59 (by decide) ?_
      refine V.pV (as := [_]) (pc := 61) dX12_law_61 lX12_222 bX12_isSign nX12_isSign (ci := 11) rfl eX12_isSign hM.o (c_isSign (d := d + 7) (N := N) (i := j) (tt := tt) (c := 59) _ hM hr.1 hT.2.1 (by decide) rfl) (by omega) rfl (Nat.le_of_ble_eq_true rfl) ?_
      rw [bi_t (show kdT tt N j = ((59 : Nat) : Int) from q59)]
      refine V.if_eq 78 (pc := 64) dX12_law_64 (by decide) (fun h64 => absurd h64 (by decide)) (fun h64 => ?_)
      refine V.aload_n (pc := 67) dX12_law_67 rfl ?_
      refine V.invV0 (as := []) (pc := 68) dX12_law_68 lX12_155 bX12_next nX12_next (ci := 11) rfl eX12_next hM.o (c_next (d := d + 6) (N := N) (tt := tt) (i := j + 1) hM hT2 hr.1.2.1) (by omega) rfl (Nat.le_of_ble_eq_true rfl) ?_
      rintro _ _ _ I4 J4 _ ⟨rfl, rfl, rfl, rfl, f4, k4⟩
      have hE : EndT (kdT tt N) (tkN tt N) := EndT.of hT.1
      have hj1 : j + 1 ≤ tkN tt N := nxt hE hok.1 (by rw [q59]; decide)
      have hr4 : RdM tt N (j + 1, false, C, q, [], 0) I4 J4 m := RdM.nx hr rfl f4 k4
      have hok4 : RdK (tkN tt N) (j + 1, false, C, q, [], 0) := ⟨hj1, Nat.le_succ_of_le hok.k.2.1, hok.k.2.2⟩
      have hl4 : NcM I4 m l := hl.congr (f4.2.1 15 (by decide) (by decide) (by decide)) (f4.1 _ (by omega))
      have hf4 := hf.tr f4.pr.g
      refine V.aload_n (pc := 71) dX12_law_71 rfl ?_
      refine V.invV0 (as := []) (pc := 72) dX12_law_72 lX12_280 bX12_readClause nX12_readClause (ci := 11) rfl eX12_readClause hM.o (c_clause (d := d + 0) (N := N) (tt := tt) (l := l) (r := (j + 1, false, C, q, [], 0)) hM (hf4.tp hT) hr4 (hf4.wd hW) hok4 rfl hl4 (by rw [hlw.1]; omega)) (by omega) rfl (Nat.le_of_ble_eq_true rfl) ?_
      rintro _ _ _ I5 J5 _ ⟨rfl, rfl, rfl, rfl, f5, hy, hn⟩
      refine V.goto 51 (pc := 75) dX12_law_75 (by decide) ?_
      have hres2 : res = dClauses (kdT tt N) (nmT tt N) (f + 1) (j + 1) q cl := by rw [hres, if_neg (by rw [q59]; decide), if_pos q59]
      rw [dClauses] at hres2
      cases hp : dClause (kdT tt N) (nmT tt N) (j + 1) q with
      | mk j2 r2 =>
        obtain ⟨q2, w2⟩ := r2
        rw [hp] at hres2
        cases w2 with
        | none =>
          obtain ⟨C5, q5, P5, o5, hr5⟩ := hn j2 q2 hp
          refine V.aload_n (pc := 51) dX12_law_51 rfl ?_
          refine V.getI (pc := 52) dX12_law_52 fX12_151_11 rfl hM.o ?_
          rw [show I5 m 14 = 1 from hr5.2.1]
          refine V.if_ne 78 (pc := 55) dX12_law_55 (by decide) (fun _ => ?_) (fun z => absurd z (by decide))
          exact kB I5 J5 _ _ _ _ _ (hf4.tr f5) hr5 hres2
        | some c2 =>
          obtain ⟨-, C5, b5, hr5, hok5, he5, hc5, hl5⟩ := hy j2 q2 c2 hp
          exact ih I5 J5 j2 q2 C5 _ (cl ++ [c2]) (hf4.tr f5) hr5 hok5 hl5 (hlw.add he5 hc5) (by rw [List.length_append, List.length_singleton]; omega) hres2
    · refine V.aload_n (pc := 51) dX12_law_51 rfl ?_
      refine V.getI (pc := 52) dX12_law_52 fX12_151_11 rfl hM.o ?_
      rw [e14]
      refine V.if_ne 78 (pc := 55) dX12_law_55 (by decide) (fun h55 => absurd rfl h55) (fun h55 => ?_)
      refine V.aload_n (pc := 58) dX12_law_58 rfl ?_
      refine V.bipush (v := 59) (pc := 59) dX12_law_59 (by decide) ?_
      refine V.pV (as := [_]) (pc := 61) dX12_law_61 lX12_222 bX12_isSign nX12_isSign (ci := 11) rfl eX12_isSign hM.o (c_isSign (d := d + 7) (N := N) (i := j) (tt := tt) (c := 59) _ hM hr.1 hT.2.1 (by decide) rfl) (by omega) rfl (Nat.le_of_ble_eq_true rfl) ?_
      rw [bi_f (show ¬ kdT tt N j = ((59 : Nat) : Int) from q59)]
      refine V.if_eq 78 (pc := 64) dX12_law_64 (by decide) (fun h64 => ?_) (fun h64 => absurd rfl h64)
      exact kG I' J' j q C l cl hf hr hok hl hlw (by omega) (by rw [hres]; by_cases z : kdT tt N j = -1; rw [if_pos z, if_pos z]; rw [if_neg z, if_neg z, if_neg q59])
theorem l_cp1 {g : gG} {d : Nat} {T : mT} {n : Nat} {I : mI} {J : mJ} {F : mF} {Q : mQ} {m at_ nc : Nat} (hM : MS T F m) (h15 : I m 15 = nI nc) (hnc : nc ≤ 12) (hat : at_ + 900 ≤ 5550) (kk : ∀ I' : mI, (∀ b, b ≠ m + 2 → I' b = I b) → (∀ k, k < 8 * nc → I' (m + 2) (at_ + 2 + k) = I (m + 6) k) → (∀ k, (k < at_ + 2 ∨ at_ + 2 + 8 * nc ≤ k) → I' (m + 2) k = I (m + 2) k) → V g mX12_law (d + 8) Q 0 0 178 [some (.ref m), some (.int (nI at_)), some (.int (nI (8 * nc)))] [] T n I' J F) : ∀ (t j : Nat) (I' : mI), j + t = 8 * nc → ((∀ b, b ≠ m + 2 → I' b = I b) ∧ (∀ k, k < j → I' (m + 2) (at_ + 2 + k) = I (m + 6) k) ∧ (∀ k, (k < at_ + 2 ∨ at_ + 2 + j ≤ k) → I' (m + 2) k = I (m + 2) k)) → V g mX12_law (d + 8) Q 0 0 145 [some (.ref m), some (.int (nI at_)), some (.int (nI j))] [] T n I' J F := by
  intro t
  induction t with
  | zero =>
    intro j I' hj hi
    obtain rfl : j = 8 * nc := by omega
    refine V.iload_n (pc := 145) dX12_law_145 rfl ?_
    refine V.bipush (v := 8) (pc := 146) dX12_law_146 (by decide) ?_
    refine V.aload_n (pc := 148) dX12_law_148 rfl ?_
    refine V.getI (pc := 149) dX12_law_149 fX12_269_11 rfl hM.o ?_
    rw [hi.1 m (by omega), h15]
    refine V.imul (pc := 152) dX12_law_152 ?_
    rw [L8, pk_mul]
    refine V.icmp_ge 178 (pc := 153) dX12_law_153 (by decide) (fun h153 => ?_) (fun h153 => absurd (nI_le (Nat.le_refl _) (by omega)) h153)
    exact kk I' hi.1 hi.2.1 hi.2.2
  | succ t ih =>
    intro j I' hj hi
    refine V.iload_n (pc := 145) dX12_law_145 rfl ?_
    refine V.bipush (v := 8) (pc := 146) dX12_law_146 (by decide) ?_
    refine V.aload_n (pc := 148) dX12_law_148 rfl ?_
    refine V.getI (pc := 149) dX12_law_149 fX12_269_11 rfl hM.o ?_
    rw [hi.1 m (by omega), h15]
    refine V.imul (pc := 152) dX12_law_152 ?_
    rw [L8, pk_mul]
    refine V.icmp_ge 178 (pc := 153) dX12_law_153 (by decide) (fun h153 => absurd h153 (nI_ge (by omega) (by omega))) (fun h153 => ?_)
    refine V.aload_n (pc := 156) dX12_law_156 rfl ?_
    refine V.getR (pc := 157) dX12_law_157 fX12_13_11 rfl hM.o hM.f3 ?_
    refine V.iload_n (pc := 160) dX12_law_160 rfl ?_
    refine V.iconst (v := 2) (pc := 161) dX12_law_161 (by decide) ?_
    refine V.iadd (pc := 162) dX12_law_162 ?_
    rw [L2, nI_add]
    refine V.iload_n (pc := 163) dX12_law_163 rfl ?_
    refine V.iadd (pc := 164) dX12_law_164 ?_
    rw [nI_add]
    refine V.aload_n (pc := 165) dX12_law_165 rfl ?_
    refine V.getR (pc := 166) dX12_law_166 fX12_30_11 rfl hM.o hM.f16 ?_
    refine V.iload_n (pc := 169) dX12_law_169 rfl ?_
    refine V.iald' (k := j) (pc := 170) dX12_law_170 hM.t16 rfl (by omega) (by decide) ?_
    rw [hi.1 (m + 6) (by omega)]
    refine V.iast' (k := at_ + 2 + j) (pc := 171) dX12_law_171 hM.t3 rfl (by omega) (by decide) ?_
    refine V.iinc1 (pc := 172) dX12_law_172 (by decide) rfl (st1_2 rfl) ?_
    refine V.goto 145 (pc := 175) dX12_law_175 (by decide) ?_
    have z := ih (j + 1) (up2 I' (m + 2) (at_ + 2 + j) (I (m + 6) j)) (by omega) ⟨fun b hb => by rw [up2_off hb]; exact hi.1 b hb, fun k hk => by
      by_cases z : k = j
      · rw [z, up2_same]
      · rw [up2_ne (by omega)]; exact hi.2.1 k (by omega), fun k hk => by rw [up2_ne (by omega)]; exact hi.2.2 k (by omega)⟩
    rw [nI_1]
    exact z
theorem l_cp2 {g : gG} {d : Nat} {T : mT} {n : Nat} {I : mI} {J : mJ} {F : mF} {Q : mQ} {m at_ nc : Nat} (hM : MS T F m) (h17 : I m 17 = nI nc) (hnc : nc ≤ 400) (hat : at_ + 900 ≤ 5550) (kk : ∀ I' : mI, (∀ b, b ≠ m + 2 → I' b = I b) → (∀ k, k < nc → I' (m + 2) (at_ + 98 + 2 * k) = I (m + 7) k ∧ I' (m + 2) (at_ + 98 + 2 * k + 1) = I (m + 8) k) → (∀ k, (k < at_ + 98 ∨ at_ + 98 + 2 * nc ≤ k) → I' (m + 2) k = I (m + 2) k) → V g mX12_law (d + 8) Q 0 0 234 [some (.ref m), some (.int (nI at_)), some (.int (nI nc))] [] T n I' J F) : ∀ (t j : Nat) (I' : mI), j + t = nc → ((∀ b, b ≠ m + 2 → I' b = I b) ∧ (∀ k, k < j → I' (m + 2) (at_ + 98 + 2 * k) = I (m + 7) k ∧ I' (m + 2) (at_ + 98 + 2 * k + 1) = I (m + 8) k) ∧ (∀ k, (k < at_ + 98 ∨ at_ + 98 + 2 * j ≤ k) → I' (m + 2) k = I (m + 2) k)) → V g mX12_law (d + 8) Q 0 0 180 [some (.ref m), some (.int (nI at_)), some (.int (nI j))] [] T n I' J F := by
  intro t
  induction t with
  | zero =>
    intro j I' hj hi
    obtain rfl : j = nc := by omega
    refine V.iload_n (pc := 180) dX12_law_180 rfl ?_
    refine V.aload_n (pc := 181) dX12_law_181 rfl ?_
    refine V.getI (pc := 182) dX12_law_182 fX12_188_11 rfl hM.o ?_
    rw [hi.1 m (by omega), h17]
    refine V.icmp_ge 234 (pc := 185) dX12_law_185 (by decide) (fun h185 => ?_) (fun h185 => absurd (nI_le (Nat.le_refl _) (by omega)) h185)
    exact kk I' hi.1 hi.2.1 hi.2.2
  | succ t ih =>
    intro j I' hj hi
    refine V.iload_n (pc := 180) dX12_law_180 rfl ?_
    refine V.aload_n (pc := 181) dX12_law_181 rfl ?_
    refine V.getI (pc := 182) dX12_law_182 fX12_188_11 rfl hM.o ?_
    rw [hi.1 m (by omega), h17]
    refine V.icmp_ge 234 (pc := 185) dX12_law_185 (by decide) (fun h185 => absurd h185 (nI_ge (by omega) (by omega))) (fun h185 => ?_)
    refine V.aload_n (pc := 188) dX12_law_188 rfl ?_
    refine V.getR (pc := 189) dX12_law_189 fX12_13_11 rfl hM.o hM.f3 ?_
    refine V.iload_n (pc := 192) dX12_law_192 rfl ?_
    refine V.bipush (v := 98) (pc := 193) dX12_law_193 (by decide) ?_
    refine V.iadd (pc := 195) dX12_law_195 ?_
    rw [L98, nI_add]
    refine V.iconst (v := 2) (pc := 196) dX12_law_196 (by decide) ?_
    refine V.iload_n (pc := 197) dX12_law_197 rfl ?_
    refine V.imul (pc := 198) dX12_law_198 ?_
    rw [L2, pk_mul]
    refine V.iadd (pc := 199) dX12_law_199 ?_
    rw [nI_add]
    refine V.aload_n (pc := 200) dX12_law_200 rfl ?_
    refine V.getR (pc := 201) dX12_law_201 fX12_33_11 rfl hM.o hM.f18 ?_
    refine V.iload_n (pc := 204) dX12_law_204 rfl ?_
    refine V.iald' (k := j) (pc := 205) dX12_law_205 hM.t18 rfl (by omega) (by decide) ?_
    rw [hi.1 (m + 7) (by omega)]
    refine V.iast' (k := at_ + 98 + 2 * j) (pc := 206) dX12_law_206 hM.t3 rfl (by omega) (by decide) ?_
    refine V.aload_n (pc := 207) dX12_law_207 rfl ?_
    refine V.getR (pc := 208) dX12_law_208 fX12_13_11 rfl hM.o hM.f3 ?_
    refine V.iload_n (pc := 211) dX12_law_211 rfl ?_
    refine V.bipush (v := 98) (pc := 212) dX12_law_212 (by decide) ?_
    refine V.iadd (pc := 214) dX12_law_214 ?_
    rw [L98, nI_add]
    refine V.iconst (v := 2) (pc := 215) dX12_law_215 (by decide) ?_
    refine V.iload_n (pc := 216) dX12_law_216 rfl ?_
    refine V.imul (pc := 217) dX12_law_217 ?_
    rw [L2, pk_mul]
    refine V.iadd (pc := 218) dX12_law_218 ?_
    rw [nI_add]
    refine V.iconst (v := 1) (pc := 219) dX12_law_219 (by decide) ?_
    refine V.iadd (pc := 220) dX12_law_220 ?_
    rw [nI_1]
    refine V.aload_n (pc := 221) dX12_law_221 rfl ?_
    refine V.getR (pc := 222) dX12_law_222 fX12_36_11 rfl hM.o hM.f19 ?_
    refine V.iload_n (pc := 225) dX12_law_225 rfl ?_
    refine V.iald' (k := j) (pc := 226) dX12_law_226 hM.t19 rfl (by omega) (by decide) ?_
    rw [up2_off (by omega), hi.1 (m + 8) (by omega)]
    refine V.iast' (k := at_ + 98 + 2 * j + 1) (pc := 227) dX12_law_227 hM.t3 rfl (by omega) (by decide) ?_
    refine V.iinc1 (pc := 228) dX12_law_228 (by decide) rfl (st1_2 rfl) ?_
    refine V.goto 180 (pc := 231) dX12_law_231 (by decide) ?_
    have z := ih (j + 1) (up2 (up2 I' (m + 2) (at_ + 98 + 2 * j) (I (m + 7) j)) (m + 2) (at_ + 98 + 2 * j + 1) (I (m + 8) j)) (by omega) ⟨fun b hb => by rw [up2_off hb, up2_off hb]; exact hi.1 b hb, fun k hk => by
      by_cases z : k = j
      · rw [z, up2_same, up2_ne (by omega), up2_same]; exact ⟨rfl, rfl⟩
      · rw [up2_ne (by omega), up2_ne (by omega), up2_ne (by omega), up2_ne (by omega)]; exact hi.2.1 k (by omega), fun k hk => by rw [up2_ne (by omega), up2_ne (by omega)]; exact hi.2.2 k (by omega)⟩
    rw [nI_1]
    exact z
theorem c_begin_ {g : gG} {d : Nat} {T : mT} {n : Nat} {I : mI} {J : mJ} {F : mF} {m N : Nat} {tt : Nat → Nat} (hM : MS T F m) (hT : TpM tt N I m) : Ct g mX12_begin (d + 2) [.ref m] 0 0 T n I J F (fun r' T' n' I' J' F' => r' = none ∧ T' = T ∧ n' = n ∧ F' = F ∧ NxF m (up2 (up2 (up2 I m 10 0) m 14 0) m 13 (-1)) J I' J' ∧ TkM tt N 0 I' J' m) := by
  refine Ct.ofV (k := 0) (by decide) (Nat.le_of_ble_eq_true rfl) ?_
  show V g mX12_begin (d + 2) _ 0 0 0 [some (.ref m)] [] T n I J F
  refine V.aload_n (pc := 0) dX12_begin_0 rfl ?_
  refine V.iconst (v := 0) (pc := 1) dX12_begin_1 (by decide) ?_
  refine V.putI (pc := 2) dX12_begin_2 fX12_148_11 (fun r h => by cases h; exact Or.inl rfl) rfl hM.o ?_
  refine V.aload_n (pc := 5) dX12_begin_5 rfl ?_
  refine V.iconst (v := 0) (pc := 6) dX12_begin_6 (by decide) ?_
  refine V.putZ (pc := 7) dX12_begin_7 fX12_151_11 (fun r h => by cases h; exact Or.inl rfl) rfl (by first | exact Or.inl rfl | exact Or.inr rfl | assumption) hM.o ?_
  refine V.aload_n (pc := 10) dX12_begin_10 rfl ?_
  refine V.iconst (v := (-1)) (pc := 11) dX12_begin_11 (by decide) ?_
  refine V.putI (pc := 12) dX12_begin_12 fX12_26_11 (fun r h => by cases h; exact Or.inl rfl) rfl hM.o ?_
  refine V.aload_n (pc := 15) dX12_begin_15 rfl ?_
  refine V.invV0 (as := []) (pc := 16) dX12_begin_16 lX12_155 bX12_next nX12_next (ci := 11) rfl eX12_next hM.o (c_next (d := d + 0) (N := N) (tt := tt) (i := 0) hM ⟨hT.1, hT.2.1, by rw [up2_ne (by omega), up2_ne (by omega), up2_ne (by omega)]; exact hT.2.2.1, fun i hi => by rw [up2_off (by omega), up2_off (by omega), up2_off (by omega)]; exact hT.2.2.2 i hi⟩ (by rw [up2_ne (by omega), up2_ne (by omega), up2_same]; rfl)) (by omega) rfl (Nat.le_of_ble_eq_true rfl) ?_
  rintro _ _ _ I1 J1 _ ⟨rfl, rfl, rfl, rfl, f1, k1⟩
  exact V.vret (pc := 19) dX12_begin_19 rfl ⟨rfl, rfl, rfl, rfl, f1, k1⟩
