-- memory: reads, stores
def tI : FieldType → Bool
  | .long => false
  | .object _ => false
  | .array _ => false
  | _ => true
def tR : FieldType → Bool
  | .object _ => true
  | .array _ => true
  | _ => false
theorem mval_I {ty : FieldType} (h : tI ty = true) (I : mI) (J : mJ) (F : mF) (a k : Nat) : mval ty I J F a k = .int (I a k) := by cases ty <;> first | rfl | cases h
theorem mval_R {ty : FieldType} (h : tR ty = true) (I : mI) (J : mJ) (F : mF) (a k : Nat) : mval ty I J F a k = va_rf (F a k) := by cases ty <;> first | rfl | cases h
theorem up2_ne {α : Type} {f : Nat → Nat → α} {a k b j : Nat} {v : α} (h : ¬ (b = a ∧ j = k)) : up2 f a k v b j = f b j := if_neg h
theorem up2_same {α : Type} {f : Nat → Nat → α} {a k : Nat} {v : α} : up2 f a k v a k = v := if_pos ⟨rfl, rfl⟩
theorem mval_upI {ty : FieldType} {I : mI} {J : mJ} {F : mF} {a k b j : Nat} {v : Int32} (h : ¬ (b = a ∧ j = k)) : mval ty (up2 I a k v) J F b j = mval ty I J F b j := by cases ty <;> simp [mval, up2_ne h]
theorem mval_upJ {ty : FieldType} {I : mI} {J : mJ} {F : mF} {a k b j : Nat} {v : Int64} (h : ¬ (b = a ∧ j = k)) : mval ty I (up2 J a k v) F b j = mval ty I J F b j := by cases ty <;> simp [mval, up2_ne h]
theorem mval_upF {ty : FieldType} {I : mI} {J : mJ} {F : mF} {a k b j : Nat} {v : Option Nat} (h : ¬ (b = a ∧ j = k)) : mval ty I J (up2 F a k v) b j = mval ty I J F b j := by cases ty <;> simp [mval, up2_ne h]
section MEM
variable {g : gG} {T : mT} {n : Nat} {I I' : mI} {J J' : mJ} {F F' : mF} {H H' : Heap} {a k : Nat}
theorem mcell.kept {sh : mSh} (h : mcell g I J F H a sh) (hq : H'[a]? = H[a]?) (hm : ∀ ty j, mval ty I' J' F' a j = mval ty I J F a j) : mcell g I' J' F' H' a sh := by
  cases sh with
  | inl ci =>
    obtain ⟨r, h1, h2⟩ := h
    exact ⟨r, h1, (h2.kept hq).to (fun j _ => (hm _ j).symm)⟩
  | inr q =>
    show H'[a]? = some (arrV _ _ _)
    rw [hq]
    have h' : H[a]? = some (arrV (gA g q.1) q.2 (fun k => mval q.1 I J F a k)) := h
    rw [h']
    congr 2
    funext j
    exact (hm _ j).symm
theorem mcell.lt {sh : mSh} (h : mcell g I J F H a sh) : a < H.size := by
  cases sh with
  | inl ci =>
    obtain ⟨r, h1, cell, h2, -⟩ := h
    exact (Array.getElem?_eq_some_iff.mp h2).1
  | inr q => exact (Array.getElem?_eq_some_iff.mp h).1
theorem Hok.store {v : Value} {sh : mSh} (h : Hok g T n I J F H) (hT : T a = some sh) (hs : H'.size = H.size) (ho : ∀ q, q ≠ a → H'[q]? = H[q]?) (hm : ∀ ty b j, b ≠ a → mval ty I' J' F' b j = mval ty I J F b j) (hc : mcell g I' J' F' H' a sh) : Hok g T n I' J' F' H' := by
  obtain ⟨h1, h2, h3, h4⟩ := h
  refine ⟨hs.trans h1, h2, fun q hq => ?_, fun b sb hb => ?_⟩
  · rw [ho q (fun e => by subst e; exact absurd (h4 q sh hT).1 (Nat.not_le.mpr hq))]
    exact h3 q hq
  · by_cases e : b = a
    · subst e
      rw [hT] at hb
      cases hb
      exact ⟨(h4 b _ hT).1, hc⟩
    · exact ⟨(h4 b sb hb).1, (h4 b sb hb).2.kept (ho b e) (fun ty j => hm ty b j e)⟩
theorem Hok.obj {ci N : Nat} {v : Value} (h : Hok g T n I J F H) (hT : T a = some (.inl ci)) {r : vw_C} (hr : vwCl[ci]? = some r) (hs : H'.size = H.size) (ho : ∀ q, q ≠ a → H'[q]? = H[q]?)
    (hob : t_OB a ((gD g).1 ci) r.2.2 ((gD g).2 ci) H' (updV (fun k => mval (tyOf ci k) I J F a k) k v)) (hm : ∀ ty b j, ¬ (b = a ∧ j = k) → mval ty I' J' F' b j = mval ty I J F b j) (hv : mval (tyOf ci k) I' J' F' a k = v) : Hok g T n I' J' F' H' := by
  refine h.store (v := v) hT hs ho (fun ty b j hb => hm ty b j (fun q => hb q.1)) ⟨r, hr, hob.to (fun j _ => ?_)⟩
  by_cases e : j = k
  · subst e; simp [updV, hv]
  · simp [updV, e, hm _ a j (fun q => e q.2)]
theorem Hok.arr {q : FieldType × Nat} {v : Value} (h : Hok g T n I J F H) (hT : T a = some (.inr q)) (hs : H'.size = H.size) (ho : ∀ q, q ≠ a → H'[q]? = H[q]?)
    (hob : H'[a]? = some ((arrV (gA g q.1) q.2 (fun k => mval q.1 I J F a k)).setSlot k v)) (hm : ∀ ty b j, ¬ (b = a ∧ j = k) → mval ty I' J' F' b j = mval ty I J F b j) (hv : mval q.1 I' J' F' a k = v) : Hok g T n I' J' F' H' := by
  refine h.store (v := v) hT hs ho (fun ty b j hb => hm ty b j (fun q => hb q.1)) ?_
  show H'[a]? = some (arrV _ _ _)
  rw [hob, arrV_store]
  congr 2
  funext j
  by_cases e : j = k
  · subst e; simp [updV, hv]
  · simp [updV, e, hm _ a j (fun q => e q.2)]
end MEM
theorem va_S.put' {g : gG} {H0 H H' : Heap} {locs : List Loc} {a : Nat} {k : Nat} (h : va_S (mA g) H0 H locs) (hs : H'.size = H.size) (ho : ∀ q, q ≠ a → H'[q]? = H[q]?) (ha : mA g a) : va_S (mA g) H0 H' (locs ++ [⟨a, k⟩]) := h.put hs ho ha
-- static facts of links
def gF (own : String) (idx ci k : Nat) : Prop := ∃ (r : vw_C) (ref : String), vwCl[ci]? = some r ∧ k < r.2.2 ∧ (Cond.fieldLink own idx ref (r.2.1 k).2.1 (r.2.1 k).2.2.1 ∈ lw_tbl ∨ ∃ host, Cond.fieldLinkNest own idx ref (r.2.1 k).2.1 (r.2.1 k).2.2.1 host ∈ lw_tbl) ∧ (ref = (r.2.1 k).1 ∨ Cond.sameField ref (r.2.1 k).1 (r.2.1 k).2.1 (r.2.1 k).2.2.1 ∈ lw_tbl)
theorem gF.own {own : String} {idx ci k : Nat} (r : vw_C) (hr : vwCl[ci]? = some r) (hk : k < r.2.2) (h : Cond.fieldLink own idx (r.2.1 k).1 (r.2.1 k).2.1 (r.2.1 k).2.2.1 ∈ lw_tbl) : gF own idx ci k := ⟨r, _, hr, hk, Or.inl h, Or.inl rfl⟩
theorem gF.nest {own host : String} {idx ci k : Nat} (r : vw_C) (hr : vwCl[ci]? = some r) (hk : k < r.2.2) (h : Cond.fieldLinkNest own idx (r.2.1 k).1 (r.2.1 k).2.1 (r.2.1 k).2.2.1 host ∈ lw_tbl) : gF own idx ci k := ⟨r, _, hr, hk, Or.inr ⟨host, h⟩, Or.inl rfl⟩
theorem gF.inh {own ref : String} {idx ci k : Nat} (r : vw_C) (hr : vwCl[ci]? = some r) (hk : k < r.2.2) (h : Cond.fieldLink own idx ref (r.2.1 k).2.1 (r.2.1 k).2.2.1 ∈ lw_tbl) (h2 : Cond.sameField ref (r.2.1 k).1 (r.2.1 k).2.1 (r.2.1 k).2.2.1 ∈ lw_tbl) : gF own idx ci k := ⟨r, _, hr, hk, Or.inl h, Or.inr h2⟩
section VM
variable {g : gG} {M : mD} {d : Nat} {Q : mQ} {bc bs pc : Nat} {L : List (Option Value)} {st : List Value} {T : mT} {n : Nat} {I : mI} {J : mJ} {F : mF}
theorem Glob.kn {s : State} (G : Glob g) (hW : (gs g).WarmedH s.vm) {ci : Nat} {r : vw_C} (hr : vwCl[ci]? = some r) : u_Kn s r.1 r.2.1 r.2.2 ((gD g).1 ci) ((gD g).2 ci) := u_Kn_moved hW.alike (G.2.1 ci r hr)
theorem Glob.ar {s : State} (G : Glob g) (hW : (gs g).WarmedH s.vm) {ty : FieldType} (h : ty ∈ mTys) : ArrOfT s (gA g ty) ty ∧ va_RA s (gA g ty) ty := ⟨arrOfT_moved hW.alike (G.2.2.1 ty h).1, (G.2.2.1 ty h).2.moved hW.alike⟩
theorem Glob.lay {s : State} (G : Glob g) (hW : (gs g).WarmedH s.vm) {ci : Nat} {r : vw_C} (hr : vwCl[ci]? = some r) (args : Array Value) : ∀ w ∈ u_ws r.1 r.2.1 r.2.2, w.before args s = true := fun w hw => gw G hW (lays_all ci r hr w hw).1 (lays_all ci r hr w hw).2 args
theorem gF.same {own ref : String} {s : State} (G : Glob g) (hW : (gs g).WarmedH s.vm) {nm ds O : String} (h : ref = O ∨ Cond.sameField ref O nm ds ∈ lw_tbl) : ∀ x, s.fieldFound? O nm ds = some x → s.fieldFound? ref nm ds = some x := by
  rcases h with rfl | h
  · exact fun x hx => hx
  · exact fun x hx => u_same (gw G hW h rfl #[]) x hx
theorem V.getf {idx ci k a : Nat} (hd : decode M.2.1 pc = .ok (.getfield idx, 3)) (hf : gF M.1.cls idx ci k) (hT : T a = some (.inl ci)) (kk : V g M d Q bc bs (pc + 3) L (mval (tyOf ci k) I J F a k :: st) T n I J F) : V g M d Q bc bs pc L (.ref a :: st) T n I J F := by
  intro p e R s m args below meth c H locs cells slots ls X
  obtain ⟨r, ref, hr, hk, hl, hs⟩ := hf
  obtain ⟨r', hr', cell, q1, q2, q3, q4⟩ := (X.hp.2.2.2 a _ hT).2
  have e1 : r' = r := Option.some.inj (hr'.symm.trans hr)
  subst e1
  obtain ⟨hS, hfc, kC, hkC, hkind⟩ := X.gl.kn X.wm hr
  obtain ⟨cf, kf, fi, f, hi, hsl⟩ := hS k hk
  have hst := (u_facts hfc hkC (u_lays (X.gl.lay X.wm hr args) (fun _ h => h) hk) hi).1
  have hv : cell.slots[f.slot]? = some (mval (tyOf ci k) I J F a k) := by rw [hsl]; exact q4 k hk
  have hfd := gF.same (own := "") X.gl X.wm hs _ hi
  rcases hl with hl | ⟨host, hl⟩
  · exact W.getf X.ex X.cd X.own (X.w hl rfl args) hfd hst q1 (by rw [q3]; exact fun h => by cases h) hv rfl rfl hd (kk p e R s m args below meth c H locs cells slots ls X)
  · have hw : (Cond.fieldLinkNest M.1.cls idx ref (r'.2.1 k).2.1 (r'.2.1 k).2.2.1 host).before args s = true := va_Nw.use rfl (va_Nw.warmF X.wm (va_Nw.of rfl (X.gl.1 _ hl)))
    exact va_Wgetf X.ex X.cd X.own hw hfd hst q1 (by rw [q3]; exact fun h => by cases h) hv rfl rfl hd (kk p e R s m args below meth c H locs cells slots ls X)
theorem V.getI {idx ci k a : Nat} (hd : decode M.2.1 pc = .ok (.getfield idx, 3)) (hf : gF M.1.cls idx ci k) (ht : tI (tyOf ci k) = true) (hT : T a = some (.inl ci)) (kk : V g M d Q bc bs (pc + 3) L (.int (I a k) :: st) T n I J F) : V g M d Q bc bs pc L (.ref a :: st) T n I J F := V.getf hd hf hT (by rw [mval_I ht]; exact kk)
theorem V.getJ {idx ci k a : Nat} (hd : decode M.2.1 pc = .ok (.getfield idx, 3)) (hf : gF M.1.cls idx ci k) (ht : tyOf ci k = .long) (hT : T a = some (.inl ci)) (kk : V g M d Q bc bs (pc + 3) L (.long (J a k) :: st) T n I J F) : V g M d Q bc bs pc L (.ref a :: st) T n I J F := V.getf hd hf hT (by rw [ht]; exact kk)
theorem V.getR {idx ci k a : Nat} (hd : decode M.2.1 pc = .ok (.getfield idx, 3)) (hf : gF M.1.cls idx ci k) (ht : tR (tyOf ci k) = true) (hT : T a = some (.inl ci)) {b : Nat} (hF : F a k = some b) (kk : V g M d Q bc bs (pc + 3) L (.ref b :: st) T n I J F) : V g M d Q bc bs pc L (.ref a :: st) T n I J F := V.getf hd hf hT (by rw [mval_R ht, hF]; exact kk)
theorem V.getN {idx ci k a : Nat} (hd : decode M.2.1 pc = .ok (.getfield idx, 3)) (hf : gF M.1.cls idx ci k) (ht : tR (tyOf ci k) = true) (hT : T a = some (.inl ci)) (hF : F a k = none) (kk : V g M d Q bc bs (pc + 3) L (.null :: st) T n I J F) : V g M d Q bc bs pc L (.ref a :: st) T n I J F := V.getf hd hf hT (by rw [mval_R ht, hF]; exact kk)
theorem tyOf_ok : ∀ (ci : Nat) (r : vw_C), vwCl[ci]? = some r → ∀ k, k < r.2.2 → parseFieldDescriptor (r.2.1 k).2.2.1 = some (tyOf ci k) := by
  intro ci r h
  match ci, h with
  | 0, h => cases h; exact tyX0_ok
  | 1, h => cases h; exact tyX1_ok
  | 2, h => cases h; exact tyX2_ok
  | 3, h => cases h; exact tyX3_ok
  | 4, h => cases h; exact tyX4_ok
  | 5, h => cases h; exact tyX6_ok
  | 6, h => cases h; exact tyX7_ok
  | 7, h => cases h; exact tyX8_ok
  | 8, h => cases h; exact tyX9_ok
  | 9, h => cases h; exact tyX10_ok
  | 10, h => cases h; exact tyX11_ok
  | 11, h => cases h; exact tyX12_ok
  | ci + 12, h => simp [vwCl] at h
theorem nm_ok : ∀ (ci : Nat) (r : vw_C), vwCl[ci]? = some r → ∀ a, a < r.2.2 → ∀ b, b < r.2.2 → a ≠ b → (r.2.1 a).2.1 ≠ (r.2.1 b).2.1 := by
  intro ci r h
  match ci, h with
  | 0, h => cases h; exact nmX0
  | 1, h => cases h; exact nmX1
  | 2, h => cases h; exact nmX2
  | 3, h => cases h; exact nmX3
  | 4, h => cases h; exact nmX4
  | 5, h => cases h; exact nmX6
  | 6, h => cases h; exact nmX7
  | 7, h => cases h; exact nmX8
  | 8, h => cases h; exact nmX9
  | 9, h => cases h; exact nmX10
  | 10, h => cases h; exact nmX11
  | 11, h => cases h; exact nmX12
  | ci + 12, h => simp [vwCl] at h
theorem Glob.apart {s : State} (G : Glob g) (hW : (gs g).WarmedH s.vm) {ci : Nat} {r : vw_C} (hr : vwCl[ci]? = some r) : ∀ x y, x < r.2.2 → y < r.2.2 → x ≠ y → ((gD g).2 ci) x ≠ ((gD g).2 ci) y := by
  intro x y hx hy hne
  obtain ⟨hS, -⟩ := G.kn hW hr
  obtain ⟨_, _, _, fa, hia, ea⟩ := hS x hx
  obtain ⟨_, _, _, fb, hib, eb⟩ := hS y hy
  rw [← ea, ← eb]
  refine u_apart (u_lays (G.lay hW hr #[]) (fun _ h => h) hx) (u_lays (G.lay hW hr #[]) (fun _ h => h) hy) hia hib ?_
  rw [(State.fieldFound?_type hia (tyOf_ok ci r hr x hx)).1, (State.fieldFound?_type hib (tyOf_ok ci r hr y hy)).1]
  exact nm_ok ci r hr x hx y hy hne
/-- a store into a field that isn't final, or into a final one in its class's constructor -/
theorem V.putf {idx ci k a : Nat} {v : Value} {I' : mI} {J' : mJ} {F' : mF} (hd : decode M.2.1 pc = .ok (.putfield idx, 3)) (hf : gF M.1.cls idx ci k) (hfin : ∀ r : vw_C, vwCl[ci]? = some r → (r.2.1 k).2.2.2 = false ∨ ((r.2.1 k).1 = M.1.cls ∧ M.1.name = "<init>")) (hn : narrow (tyOf ci k) v = v) (hfit : fits (tyOf ci k) v = true) (hT : T a = some (.inl ci))
    (hm : ∀ ty b j, ¬ (b = a ∧ j = k) → mval ty I' J' F' b j = mval ty I J F b j) (hv : mval (tyOf ci k) I' J' F' a k = v)
    (kk : V g M d Q bc bs (pc + 3) L st T n I' J' F') : V g M d Q bc bs pc L (v :: .ref a :: st) T n I J F := by
  intro p e R s m args below meth c H locs cells slots ls X
  obtain ⟨r, ref, hr, hk, hl, hs⟩ := hf
  have hfin := hfin r hr
  obtain ⟨r', hr', cell, q1, q2, q3, q4⟩ := (X.hp.2.2.2 a _ hT).2
  have e1 : r' = r := Option.some.inj (hr'.symm.trans hr)
  subst e1
  have hap := X.gl.apart X.wm hr
  obtain ⟨hS, hfc, kC, hkC, hkind⟩ := X.gl.kn X.wm hr
  obtain ⟨cf, kf, fi, f, hi, hsl⟩ := hS k hk
  have hlay := X.gl.lay X.wm hr args _ (u_in_lay hk)
  have hlays := u_lays (X.gl.lay X.wm hr args) (fun _ h => h) hk
  have hst := (u_facts hfc hkC hlays hi).1
  have hfd := gF.same (own := "") X.gl X.wm hs _ hi
  have hend : ∀ H' : Heap, H'[a]? = some (cell.setSlot f.slot v) → H'.size = H.size → (∀ q, q ≠ a → H'[q]? = H[q]?) → W p (gl g) e R s m args below meth c H' (locs ++ [⟨a, f.slot⟩]) cells slots (MQ below (mQc g Q) args s R.cells R.slots (mA g)) (F0 m (pc + 3) ls st) := by
    intro H' h1 h2 h3
    rw [hsl] at h1
    refine kk p e R s m args below meth c H' _ cells slots ls (X.setM X.rm (X.sk.put' h2 h3 (X.hp.2.2.2 a _ hT).1) ?_)
    exact X.hp.obj (N := 0) (v := v) hT hr h2 h3 ⟨_, h1, q2, q3, t_set q4 hap hk v⟩ hm hv
  by_cases hfl : (r'.2.1 k).2.2.2 = true
  · have hfin2 : (r'.2.1 k).1 = M.1.cls ∧ M.1.name = "<init>" := by
      rcases hfin with h | h
      · rw [h] at hfl; cases hfl
      · exact h
    unfold u_lay at hlay
    rw [if_pos hfl] at hlay
    have hcf : m.cls = cf := by
      obtain ⟨_, _, c', _, _, _, -, -, hf', -, -, -, hown2, -⟩ := Cond.laysFinal_spec hlay
      have e1 : c' = cf := by have := hi.symm.trans hf'; simp at this; exact this.1.symm
      rw [hfin2.1] at hown2
      rw [← e1]; exact Option.some.inj (X.own.symm.trans hown2)
    have h6 := u_fits hfc hkC hkind (Or.inr hlay) hi (tyOf_ok ci r' hr k hk) hn hfit
    rcases hl with hl | ⟨host, hl⟩
    · refine W.putFinK X.ex X.cd X.own (X.w hl rfl args) hfd hst hcf (X.nm.trans hfin2.2) (by rw [q2]; exact h6) q1 q3 (by rw [hsl]; exact k2_hasslot (q4 k hk)) rfl rfl hd hend
    · have hw : (Cond.fieldLinkNest M.1.cls idx ref (r'.2.1 k).2.1 (r'.2.1 k).2.2.1 host).before args s = true := va_Nw.use rfl (va_Nw.warmF X.wm (va_Nw.of rfl (X.gl.1 _ hl)))
      have ha : a < H.size := (Array.getElem?_eq_some_iff.mp q1).1
      refine va_Wputf X.ex X.cd X.own hw hfd hst (Or.inr ⟨hcf, X.nm.trans hfin2.2⟩) q1 (by rw [q3]; exact fun h => by cases h) (by rw [hsl]; exact k2_hasslot (q4 k hk)) h6.1 (by rw [q2, q3]; exact h6.2) rfl rfl hd (hend _ ?_ ?_ ?_)
      · simp [Array.getElem?_setIfInBounds, ha]
      · simp
      · intro q hq
        simp [Array.getElem?_setIfInBounds, Ne.symm hq]
  · unfold u_lay at hlay
    rw [if_neg hfl] at hlay
    have h6 := u_store hfc hkC hkind hlay hi (tyOf_ok ci r' hr k hk) hn hfit
    rcases hl with hl | ⟨host, hl⟩
    · exact W.putK X.ex X.cd (f := f) ⟨X.own, X.w hl rfl args, ⟨_, _, _, hfd⟩, hst⟩ (by rw [q2]; exact h6) q1 q3 (by rw [hsl]; exact k2_hasslot (q4 k hk)) rfl rfl hd hend
    · have hw : (Cond.fieldLinkNest M.1.cls idx ref (r'.2.1 k).2.1 (r'.2.1 k).2.2.1 host).before args s = true := va_Nw.use rfl (va_Nw.warmF X.wm (va_Nw.of rfl (X.gl.1 _ hl)))
      exact va_WputK X.ex X.cd (f := f) X.own hw hfd hst (by rw [q2]; exact h6) q1 q3 (by rw [hsl]; exact k2_hasslot (q4 k hk)) rfl rfl hd hend
end VM
