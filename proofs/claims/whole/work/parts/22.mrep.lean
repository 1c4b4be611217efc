-- the reference's rows: which places each part looks at
section RR
variable {r r' : Nat → Int32} {c c' : Core}
theorem HdRow.congr {at_ : Nat} {x : Hd} (h : HdRow r at_ x) (hl : x.2.2.2.length ≤ 4) (e : ∀ j, at_ ≤ j → j < at_ + 12 → r' j = r j) : HdRow r' at_ x := by
  obtain ⟨h1, h2, h3, h4, h5⟩ := h
  refine ⟨by rw [e _ (by omega) (by omega)]; exact h1, by rw [e _ (by omega) (by omega)]; exact h2, by rw [e _ (by omega) (by omega)]; exact h3, by rw [e _ (by omega) (by omega)]; exact h4, fun p q hq => ?_⟩
  have hp : p < x.2.2.2.length := (List.getElem?_eq_some_iff.mp hq).1
  rw [e _ (by omega) (by omega), e _ (by omega) (by omega)]
  exact h5 p q hq
theorem RH.congr (hc : CoreOK c) (h : ∀ (h : Nat) (x : Hd), (hds c)[h]? = some x → HdRow r (10 + 12 * h) x) (e : ∀ j, 10 ≤ j → j < 82 → r' j = r j) : ∀ (h : Nat) (x : Hd), (hds c)[h]? = some x → HdRow r' (10 + 12 * h) x := by
  intro k x hx
  have hk : k < (hds c).length := (List.getElem?_eq_some_iff.mp hx).1
  have h6 := hc.1
  exact (h k x hx).congr (hc.2.1 x (List.mem_of_getElem? hx)).2.2.2.2.1 (fun j h1 h2 => e j (by omega) (by omega))
theorem RS.congr (hc : CoreOK c) (h : ∀ (i t : Nat), (stk c)[i]? = some t → r (82 + i) = nI t) (e : ∀ j, 82 ≤ j → j < 94 → r' j = r j) : ∀ (i t : Nat), (stk c)[i]? = some t → r' (82 + i) = nI t := by
  intro i t hi
  have hk : i < (stk c).length := (List.getElem?_eq_some_iff.mp hi).1
  have h6 := hc.2.2.1
  rw [e _ (by omega) (by omega)]
  exact h i t hi
theorem RG.congr (hc : CoreOK c) (h : ∀ (i : Nat) (s : Sg), (sgs c)[i]? = some s → r (94 + 3 * i) = nI s.1 ∧ r (94 + 3 * i + 1) = nI s.2.1 ∧ r (94 + 3 * i + 2) = nI s.2.2) (e : ∀ j, 94 ≤ j → j < 124 → r' j = r j) : ∀ (i : Nat) (s : Sg), (sgs c)[i]? = some s → r' (94 + 3 * i) = nI s.1 ∧ r' (94 + 3 * i + 1) = nI s.2.1 ∧ r' (94 + 3 * i + 2) = nI s.2.2 := by
  intro i t hi
  have hk : i < (sgs c).length := (List.getElem?_eq_some_iff.mp hi).1
  have h6 := hc.2.2.2.2.2.2.2.1
  rw [e _ (by omega) (by omega), e _ (by omega) (by omega), e _ (by omega) (by omega)]
  exact h i t hi
theorem RK.congr (hc : CoreOK c) (h : ∀ (k : Nat) (f : Nat → Nat), (kns c)[k]? = some f → ∀ h, h < 6 → r (124 + 6 * k + h) = nI (f h)) (e : ∀ j, 124 ≤ j → j < 148 → r' j = r j) : ∀ (k : Nat) (f : Nat → Nat), (kns c)[k]? = some f → ∀ h, h < 6 → r' (124 + 6 * k + h) = nI (f h) := by
  intro i t hi a ha
  have hk : i < (kns c).length := (List.getElem?_eq_some_iff.mp hi).1
  have h6 := hc.2.2.2.2.2.2.2.2.2.1
  rw [e _ (by omega) (by omega)]
  exact h i t hi a ha
theorem RL.congr (hc : CoreOK c) (h : ∀ (i : Nat) (w : Lw), (lws c)[i]? = some w → LwRow r (150 + 900 * i) w) (e : ∀ j, 150 ≤ j → j < 5550 → r' j = r j) : ∀ (i : Nat) (w : Lw), (lws c)[i]? = some w → LwRow r' (150 + 900 * i) w := by
  intro i w hi
  have hk : i < (lws c).length := (List.getElem?_eq_some_iff.mp hi).1
  have h6 := hc.2.2.2.2.1
  obtain ⟨f, h1, h2⟩ := h i w hi
  refine ⟨f, fun j hj => ?_, h2⟩
  rw [e _ (by omega) (by omega)]
  exact h1 j hj
theorem RowRep.congr (hc : CoreOK c) (h : RowRep r c) (e : ∀ j, j < 5550 → r' j = r j) : RowRep r' c := by
  obtain ⟨⟨a0, a1, a2, a3, a4, a5, a6⟩, h1, h2, h3, h4, h5⟩ := h
  refine ⟨⟨?_, ?_, ?_, ?_, ?_, ?_, ?_⟩, RH.congr hc h1 (fun j _ _ => e j (by omega)), RS.congr hc h2 (fun j _ _ => e j (by omega)), RG.congr hc h3 (fun j _ _ => e j (by omega)), RK.congr hc h4 (fun j _ _ => e j (by omega)), RL.congr hc h5 (fun j _ _ => e j (by omega))⟩
  all_goals (rw [e _ (by omega)]; assumption)
end RR
def Frm {α : Type} (m : Nat) (I I' : Nat → α) : Prop := ∀ b, (b < m ∨ m + 20 < b) → I' b = I b
theorem Frm.rf {α : Type} {m : Nat} {I : Nat → α} : Frm m I I := fun _ _ => rfl
theorem Frm.up {α : Type} {m a k : Nat} {I I' : Nat → Nat → α} {v : α} (h : Frm m I I') (ha : m ≤ a ∧ a ≤ m + 20) : Frm m I (up2 I' a k v) := fun b hb => by rw [up2_off (by omega)]; exact h b hb
theorem Frm.trans {α : Type} {m : Nat} {I I' I'' : Nat → α} (h : Frm m I I') (h2 : Frm m I' I'') : Frm m I I'' := fun b hb => (h2 b hb).trans (h b hb)
theorem tellI_off {I : mI} {m b : Nat} {v : Int32} (h : b ≠ m) (h2 : b ≠ m + 1) : tellI I m v b = I b := by
  unfold tellI
  split
  · rw [up2_off h2, up2_off h]
  · rw [up2_off h]
theorem Frm.tell {m : Nat} {I I' : mI} {v : Int32} (h : Frm m I I') : Frm m I (tellI I' m v) := fun b hb => by rw [tellI_off (by omega) (by omega)]; exact h b hb
section RM
variable {I I' : mI} {J J' : mJ} {m : Nat} {A : Ab}
theorem RepM.h0 (h : RepM I J m A) : I (m + 2) 0 = nI (hds (cor A)).length := h.2.2.1.1.1
theorem RepM.h1 (h : RepM I J m A) : I (m + 2) 1 = nI (stk (cor A)).length := h.2.2.1.1.2.1
theorem RepM.h2 (h : RepM I J m A) : I (m + 2) 2 = nI (lws (cor A)).length := h.2.2.1.1.2.2.1
theorem RepM.h3 (h : RepM I J m A) : I (m + 2) 3 = iI (frc (cor A)) := h.2.2.1.1.2.2.2.1
theorem RepM.h4 (h : RepM I J m A) : I (m + 2) 4 = nI (sgs (cor A)).length := h.2.2.1.1.2.2.2.2.1
theorem RepM.h5 (h : RepM I J m A) : I (m + 2) 5 = nI (kns (cor A)).length := h.2.2.1.1.2.2.2.2.2.1
theorem RepM.h6 (h : RepM I J m A) : I (m + 2) 6 = nI (wer (cor A)) := h.2.2.1.1.2.2.2.2.2.2
theorem RepM.setRow {c' : Core} (h : RepM I J m A) (hI : ∀ b, b ≠ m + 2 → I' b = I b) (hr : RowRep (I' (m + 2)) c') : RepM I' J m (corA A c') := by
  obtain ⟨h1, h2, h3, h4, h5, h6, h7⟩ := h
  refine ⟨?_, ?_, hr, fun k hk => ?_, fun i t hi => ?_, fun a x hx => ?_, h7⟩
  · rw [hI m (by omega)]; exact h1
  · rw [hI (m + 1) (by omega)]; exact h2
  · rw [hI (m + 3) (by omega), hI (m + 4) (by omega)]; exact h4 k hk
  · rw [hI (m + 5) (by omega)]; exact h5 i t hi
  · rw [hI (m + 19) (by omega), hI (m + 20) (by omega)]; exact h6 a x hx
/-- the object's own numbers may change, if those that count stay -/
theorem RepM.sc (h : RepM I J m A) (hI : ∀ b, b ≠ m → I' b = I b) (A' : Ab) (hA : cor A' = cor A ∧ img A' = img A ∧ stm A' = stm A ∧ rfs A' = rfs A) (ht : ∀ (i t : Nat), (tap A')[i]? = some t → (tap A)[i]? = some t)
    (h1 : I' m 1 = iI (sts A') ∧ I' m 6 = nI (bnt A') ∧ I' m 8 = nI (tap A').length ∧ I' m 13 = iI (flt A') ∧ I' m 42 = nI (stm A').length) : RepM I' J m A' := by
  obtain ⟨-, h2, h3, h4, h5, h6, h7⟩ := h
  obtain ⟨e1, e2, e3, e4⟩ := hA
  refine ⟨h1, ?_, ?_, fun k hk => ?_, fun i t hi => ?_, fun a x hx => ?_, h7⟩
  · rw [hI (m + 1) (by omega), e4]; exact h2
  · rw [hI (m + 2) (by omega), e1]; exact h3
  · rw [hI (m + 3) (by omega), hI (m + 4) (by omega), e2]; exact h4 k hk
  · rw [hI (m + 5) (by omega)]; exact h5 i t (ht i t hi)
  · rw [e3] at hx; rw [hI (m + 19) (by omega), hI (m + 20) (by omega)]; exact h6 a x hx
theorem RepM.thr (h : RepM I J m A) (x : Int32) : RepM (up2 I m 0 x) J m A := by
  refine h.sc (fun b hb => up2_off hb) A ⟨rfl, rfl, rfl, rfl⟩ (fun _ _ q => q) ?_
  simp only [up2_at]
  exact h.1
theorem RepM.was (h : RepM I J m A) : RepM (up2 I m 1 0) J m (wasA A) := by
  refine h.sc (fun b hb => up2_off hb) (wasA A) ⟨rfl, rfl, rfl, rfl⟩ (fun _ _ q => q) ?_
  simp only [up2_at]
  obtain ⟨h1, h2, h3, h4, h5⟩ := h.1
  exact ⟨rfl, h2, h3, h4, h5⟩
theorem tellA_pos {v : Int} (h : 0 ≤ v) : tellA A v = wasA A := if_neg (by omega)
theorem RepM.refuse (h : RepM I J m A) (v : Int32) (hv : v = -1 ∨ v = -2 ∨ v = -5 ∨ v = -6) : RepM (tellI I m v) J m (tellA A v.toInt) := by
  obtain ⟨⟨a1, a2, a3, a4, a5⟩, ⟨b1, b2, b3, b4⟩, h3, h4, h5, h6, h7⟩ := h
  have go : ∀ (k : Nat) (w : Int), (-v).toNatClampNeg = k → v.toInt = w → v < 0 → w < 0 → (∀ j : Nat, (j = 1 ∨ j = 2 ∨ j = 5 ∨ j = 6) → (j = k ↔ -(j : Int) = w)) → RepM (tellI I m v) J m (tellA A w) := by
    intro k w hk hw h0 hw0 hjk
    have e : tellI I m v = up2 (up2 I m 1 v) (m + 1) k (I (m + 1) k + 1) := by
      unfold tellI
      rw [if_pos h0, hk, up2_off (by omega)]
    have eA : tellA A w = (cor A, img A, tap A, flt A, bnt A, fun u => if u = w then rfs A u + 1 else rfs A u, w, stm A) := if_pos hw0
    have ev : v = iI w := by rw [← hw]; exact iI_of v
    rw [e, eA]
    have cnt : ∀ j : Nat, (j = 1 ∨ j = 2 ∨ j = 5 ∨ j = 6) → I (m + 1) j = nI (rfs A (-(j : Int))) → up2 (up2 I m 1 v) (m + 1) k (I (m + 1) k + 1) (m + 1) j = nI (if (-(j : Int)) = w then rfs A (-(j : Int)) + 1 else rfs A (-(j : Int))) := by
      intro j hj hb
      rw [up2_at]
      by_cases q : j = k
      · subst q
        rw [if_pos ((hjk j hj).mp rfl)]
        simp only [if_true]
        rw [hb, nI_1]
      · rw [if_neg (fun z => q ((hjk j hj).mpr z))]
        simp only [q, if_false]
        rw [up2_off (by omega)]
        exact hb
    refine ⟨⟨?_, ?_, ?_, ?_, ?_⟩, ⟨cnt 1 (by omega) b1, cnt 2 (by omega) b2, cnt 5 (by omega) b3, cnt 6 (by omega) b4⟩, ?_, fun i hi => ?_, fun i t hi => ?_, fun a x hx => ?_, h7⟩
    · rw [up2_off (by omega), up2_at]; simp only [if_true]; exact ev
    · rw [up2_off (by omega), up2_at]; exact a2
    · rw [up2_off (by omega), up2_at]; exact a3
    · rw [up2_off (by omega), up2_at]; exact a4
    · rw [up2_off (by omega), up2_at]; exact a5
    · rw [up2_off (by omega), up2_off (by omega)]; exact h3
    · rw [up2_off (by omega), up2_off (by omega), up2_off (by omega), up2_off (by omega)]; exact h4 i hi
    · rw [up2_off (by omega), up2_off (by omega)]; exact h5 i t hi
    · rw [up2_off (by omega), up2_off (by omega), up2_off (by omega), up2_off (by omega)]; exact h6 a x hx
  rcases hv with hv | hv | hv | hv
  · have e : v.toInt = -1 := by rw [hv]; decide
    rw [e]
    exact go 1 (-1) (by rw [hv]; decide) e (by rw [hv]; decide) (by decide) (by omega)
  · have e : v.toInt = -2 := by rw [hv]; decide
    rw [e]
    exact go 2 (-2) (by rw [hv]; decide) e (by rw [hv]; decide) (by decide) (by omega)
  · have e : v.toInt = -5 := by rw [hv]; decide
    rw [e]
    exact go 5 (-5) (by rw [hv]; decide) e (by rw [hv]; decide) (by decide) (by omega)
  · have e : v.toInt = -6 := by rw [hv]; decide
    rw [e]
    exact go 6 (-6) (by rw [hv]; decide) e (by rw [hv]; decide) (by decide) (by omega)
theorem RepM.okay (h : RepM I J m A) (v : Int32) (hv : 0 ≤ v) : RepM (tellI I m v) J m (wasA A) := by
  unfold tellI
  rw [if_neg (Int32.not_lt.mpr hv)]
  exact h.was
end RM
/-- behind a call of the reference: its answer, its object changed alone, and what it then stands for -/
def QM (m : Nat) (T : mT) (n : Nat) (I : mI) (J : mJ) (F : mF) (r : Option Value) (A' : Ab) : mQ := fun r' T' n' I' J' F' => r' = r ∧ T' = T ∧ n' = n ∧ F' = F ∧ Frm m I I' ∧ Frm m J J' ∧ RepM I' J' m A'
section QMS
variable {g : gG} {M : mD} {d : Nat} {Q : mQ} {bc bs pc : Nat} {L : List (Option Value)} {st : List Value} {T : mT} {n m : Nat} {I I1 : mI} {J : mJ} {F : mF} {A : Ab}
theorem V.thr (hR : RepM I J m A) (kk : ∀ I1 : mI, RepM I1 J m A → Frm m I I1 → V g M d Q bc bs pc L st T n I1 J F) : V g M d Q bc bs pc L st T n (up2 I m 0 0) J F := kk _ (hR.thr 0) (Frm.rf.up ⟨Nat.le_refl m, by omega⟩)
theorem QM.no {v : Int32} {S : Int × Ab} (hR : RepM I1 J m A) (hf : Frm m I I1) (hv : v = -1 ∨ v = -2 ∨ v = -5 ∨ v = -6) (hS : S = (v.toInt, tellA A v.toInt)) : QM m T n I J F (some (.int (iI S.1))) S.2 (some (.int v)) T n (tellI I1 m v) J F := by
  subst hS
  exact ⟨by rw [← iI_of], rfl, rfl, rfl, hf.tell, Frm.rf, hR.refuse v hv⟩
theorem QM.pure {v : Int32} {S : Int × Ab} (hR : RepM I1 J m A) (hf : Frm m I I1) (hS : S = (v.toInt, A)) : QM m T n I J F (some (.int (iI S.1))) S.2 (some (.int v)) T n I1 J F := by
  subst hS
  exact ⟨by rw [← iI_of], rfl, rfl, rfl, hf, Frm.rf, hR⟩
end QMS
