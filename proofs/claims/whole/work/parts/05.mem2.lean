theorem ty_i : FieldType.int ∈ mTys := by decide
theorem ty_l : FieldType.long ∈ mTys := by decide
theorem ty_z : FieldType.boolean ∈ mTys := by decide
theorem ty_H : FieldType.object "WheelYear$Hand" ∈ mTys := by decide
theorem ty_W : FieldType.object "WheelYear$Law" ∈ mTys := by decide
theorem ty_S : FieldType.object "WheelYear$State" ∈ mTys := by decide
section VM2
variable {g : gG} {M : mD} {d : Nat} {Q : mQ} {bc bs pc : Nat} {L : List (Option Value)} {st : List Value} {T : mT} {n : Nat} {I : mI} {J : mJ} {F : mF}
def nf (ci k : Nat) (M : mD) : Prop := ∀ r : vw_C, vwCl[ci]? = some r → (r.2.1 k).2.2.2 = false ∨ ((r.2.1 k).1 = M.1.cls ∧ M.1.name = "<init>")
theorem V.putI {idx ci k a : Nat} {x : Int32} (hd : decode M.2.1 pc = .ok (.putfield idx, 3)) (hf : gF M.1.cls idx ci k) (hfin : nf ci k M) (ht : tyOf ci k = .int) (hT : T a = some (.inl ci)) (kk : V g M d Q bc bs (pc + 3) L st T n (up2 I a k x) J F) : V g M d Q bc bs pc L (.int x :: .ref a :: st) T n I J F :=
  V.putf hd hf hfin (by rw [ht]; rfl) (by rw [ht]; rfl) hT (fun ty b j h => mval_upI h) (by rw [mval_I (by rw [ht]; rfl), up2_same]) kk
theorem V.putZ {idx ci k a : Nat} {x : Int32} (hd : decode M.2.1 pc = .ok (.putfield idx, 3)) (hf : gF M.1.cls idx ci k) (hfin : nf ci k M) (ht : tyOf ci k = .boolean) (hx : x = 0 ∨ x = 1) (hT : T a = some (.inl ci)) (kk : V g M d Q bc bs (pc + 3) L st T n (up2 I a k x) J F) : V g M d Q bc bs pc L (.int x :: .ref a :: st) T n I J F :=
  V.putf hd hf hfin (by rw [ht]; rcases hx with rfl | rfl <;> decide) (by rw [ht]; rcases hx with rfl | rfl <;> decide) hT (fun ty b j h => mval_upI h) (by rw [mval_I (by rw [ht]; rfl), up2_same]) kk
theorem V.putJ {idx ci k a : Nat} {x : Int64} (hd : decode M.2.1 pc = .ok (.putfield idx, 3)) (hf : gF M.1.cls idx ci k) (hfin : nf ci k M) (ht : tyOf ci k = .long) (hT : T a = some (.inl ci)) (kk : V g M d Q bc bs (pc + 3) L st T n I (up2 J a k x) F) : V g M d Q bc bs pc L (.long x :: .ref a :: st) T n I J F :=
  V.putf hd hf hfin (by rw [ht]; rfl) (by rw [ht]; rfl) hT (fun ty b j h => mval_upJ h) (by rw [ht]; show Value.long _ = _; rw [up2_same]) kk
theorem fits_R {ty : FieldType} (h : tR ty = true) (b : Option Nat) : narrow ty (va_rf b) = va_rf b ∧ fits ty (va_rf b) = true := by
  cases ty <;> first | (cases h; done) | (cases b <;> exact ⟨rfl, rfl⟩)
theorem V.putR {idx ci k a : Nat} {b : Option Nat} (hd : decode M.2.1 pc = .ok (.putfield idx, 3)) (hf : gF M.1.cls idx ci k) (hfin : nf ci k M) (ht : tR (tyOf ci k) = true) (hT : T a = some (.inl ci)) (kk : V g M d Q bc bs (pc + 3) L st T n I J (up2 F a k b)) : V g M d Q bc bs pc L (va_rf b :: .ref a :: st) T n I J F :=
  V.putf hd hf hfin (fits_R ht b).1 (fits_R ht b).2 hT (fun ty b j h => mval_upF h) (by rw [mval_R ht, up2_same]) kk
-- arrays
theorem Vx.arr {p : Program} {R : Room} {s : State} {m : MethodId} {meth : Method} {c : Code} {H : Heap} {locs : List Loc} {cells slots : Nat} {ls : Array Slot} (X : Vx g M d bc bs L T n I J F p R s m meth c H locs cells slots ls) {a : Nat} {q : FieldType × Nat} (hT : T a = some (.inr q)) : H[a]? = some (arrV (gA g q.1) q.2 (fun k => mval q.1 I J F a k)) := (X.hp.2.2.2 a _ hT).2
theorem V.alen {a N : Nat} {ty : FieldType} {v : Int32} (hd : decode M.2.1 pc = .ok (.arraylength, 1)) (hT : T a = some (.inr (ty, N))) (hty : ty ∈ mTys) (hv : Int32.ofNat N = v) (kk : V g M d Q bc bs (pc + 1) L (.int v :: st) T n I J F) : V g M d Q bc bs pc L (.ref a :: st) T n I J F := fun p e R s m args below meth c H locs cells slots ls X =>
  W.alen X.ex X.cd (X.arr hT) ((X.gl.ar X.wm hty).1 N _) (by rw [arrV_size]; exact hv) rfl rfl hd (kk p e R s m args below meth c H locs cells slots ls X)
theorem V.iald {a N : Nat} {i : Int32} (hd : decode M.2.1 pc = .ok (.iaload, 1)) (hT : T a = some (.inr (.int, N))) (hin : vp_in i N) (kk : V g M d Q bc bs (pc + 1) L (.int (I a i.toNatClampNeg) :: st) T n I J F) : V g M d Q bc bs pc L (.int i :: .ref a :: st) T n I J F := fun p e R s m args below meth c H locs cells slots ls X =>
  W.iald (v := .int (I a i.toNatClampNeg)) X.ex X.cd (X.arr hT) ((X.gl.ar X.wm ty_i).1 N _) (fun q => by cases q) (by rw [arrV_size]; exact hin) (by rw [arrV_read _ _ (Nat.not_le.mp fun q => hin (Or.inr q))]; rfl) rfl rfl hd (kk p e R s m args below meth c H locs cells slots ls X)
theorem V.zald {a N : Nat} {i : Int32} (hd : decode M.2.1 pc = .ok (.baload, 1)) (hT : T a = some (.inr (.boolean, N))) (hin : vp_in i N) (kk : V g M d Q bc bs (pc + 1) L (.int (I a i.toNatClampNeg) :: st) T n I J F) : V g M d Q bc bs pc L (.int i :: .ref a :: st) T n I J F := fun p e R s m args below meth c H locs cells slots ls X =>
  W.zald (v := .int (I a i.toNatClampNeg)) X.ex X.cd (X.arr hT) ((X.gl.ar X.wm ty_z).1 N _) (fun q => by cases q) (by rw [arrV_size]; exact hin) (by rw [arrV_read _ _ (Nat.not_le.mp fun q => hin (Or.inr q))]; rfl) rfl rfl hd (kk p e R s m args below meth c H locs cells slots ls X)
theorem V.lald {a N : Nat} {i : Int32} (hd : decode M.2.1 pc = .ok (.laload, 1)) (hT : T a = some (.inr (.long, N))) (hin : vp_in i N) (kk : V g M d Q bc bs (pc + 1) L (.long (J a i.toNatClampNeg) :: st) T n I J F) : V g M d Q bc bs pc L (.int i :: .ref a :: st) T n I J F := fun p e R s m args below meth c H locs cells slots ls X =>
  W.lald (v := .long (J a i.toNatClampNeg)) X.ex X.cd (X.arr hT) ((X.gl.ar X.wm ty_l).1 N _) (fun q => by cases q) (by rw [arrV_size]; exact hin) (by rw [arrV_read _ _ (Nat.not_le.mp fun q => hin (Or.inr q))]; rfl) rfl rfl hd (kk p e R s m args below meth c H locs cells slots ls X)
theorem V.aald {a N : Nat} {C : String} {i : Int32} (hd : decode M.2.1 pc = .ok (.aaload, 1)) (hT : T a = some (.inr (.object C, N))) (hty : FieldType.object C ∈ mTys) (hin : vp_in i N) (kk : V g M d Q bc bs (pc + 1) L (va_rf (F a i.toNatClampNeg) :: st) T n I J F) : V g M d Q bc bs pc L (.int i :: .ref a :: st) T n I J F := fun p e R s m args below meth c H locs cells slots ls X =>
  W.aald (v := va_rf (F a i.toNatClampNeg)) X.ex X.cd (X.arr hT) ((X.gl.ar X.wm hty).1 N _) rfl (fun q => by cases q) (by rw [arrV_size]; exact hin) (by rw [arrV_read _ _ (Nat.not_le.mp fun q => hin (Or.inr q))]; rfl) rfl rfl hd (kk p e R s m args below meth c H locs cells slots ls X)
theorem V.iast {a N : Nat} {i x : Int32} (hd : decode M.2.1 pc = .ok (.iastore, 1)) (hT : T a = some (.inr (.int, N))) (hin : vp_in i N) (kk : V g M d Q bc bs (pc + 1) L st T n (up2 I a i.toNatClampNeg x) J F) : V g M d Q bc bs pc L (.int x :: .int i :: .ref a :: st) T n I J F := fun p e R s m args below meth c H locs cells slots ls X =>
  W.iast X.ex X.cd (X.arr hT) ((X.gl.ar X.wm ty_i).1 N _) (fun q => by cases q) (by rw [arrV_size]; exact hin) rfl rfl hd fun H1 e1 z oq =>
    kk p e R s m args below meth c H1 _ cells slots ls (X.setM X.rm (X.sk.put' z oq (X.hp.2.2.2 a _ hT).1) (X.hp.arr (v := .int x) hT z oq e1 (fun ty b j h => mval_upI h) (by rw [mval_I rfl, up2_same])))
theorem V.zast {a N : Nat} {i x : Int32} (hd : decode M.2.1 pc = .ok (.bastore, 1)) (hT : T a = some (.inr (.boolean, N))) (hin : vp_in i N) (hx : x = 0 ∨ x = 1) (kk : V g M d Q bc bs (pc + 1) L st T n (up2 I a i.toNatClampNeg x) J F) : V g M d Q bc bs pc L (.int x :: .int i :: .ref a :: st) T n I J F := fun p e R s m args below meth c H locs cells slots ls X =>
  W.zast X.ex X.cd (X.arr hT) ((X.gl.ar X.wm ty_z).1 N _) (fun q => by cases q) (by rw [arrV_size]; exact hin) rfl rfl hd fun H1 e1 z oq =>
    kk p e R s m args below meth c H1 _ cells slots ls (X.setM X.rm (X.sk.put' z oq (X.hp.2.2.2 a _ hT).1) (X.hp.arr (v := .int x) hT z oq (by rw [e1]; congr 2; rcases hx with rfl | rfl <;> decide) (fun ty b j h => mval_upI h) (by rw [mval_I rfl, up2_same])))
theorem V.last {a N : Nat} {i : Int32} {x : Int64} (hd : decode M.2.1 pc = .ok (.lastore, 1)) (hT : T a = some (.inr (.long, N))) (hin : vp_in i N) (kk : V g M d Q bc bs (pc + 1) L st T n I (up2 J a i.toNatClampNeg x) F) : V g M d Q bc bs pc L (.long x :: .int i :: .ref a :: st) T n I J F := fun p e R s m args below meth c H locs cells slots ls X =>
  W.last X.ex X.cd (X.arr hT) ((X.gl.ar X.wm ty_l).1 N _) (fun q => by cases q) (by rw [arrV_size]; exact hin) rfl rfl hd fun H1 e1 z oq =>
    kk p e R s m args below meth c H1 _ cells slots ls (X.setM X.rm (X.sk.put' z oq (X.hp.2.2.2 a _ hT).1) (X.hp.arr (v := .long x) hT z oq e1 (fun ty b j h => mval_upJ h) (by show Value.long _ = _; rw [up2_same])))
theorem V.aast {a N ci b : Nat} {r : vw_C} {i : Int32} (hd : decode M.2.1 pc = .ok (.aastore, 1)) (hT : T a = some (.inr (.object r.1, N))) (hty : FieldType.object r.1 ∈ mTys) (hb : T b = some (.inl ci)) (hr : vwCl[ci]? = some r) (hin : vp_in i N) (kk : V g M d Q bc bs (pc + 1) L st T n I J (up2 F a i.toNatClampNeg (some b))) : V g M d Q bc bs pc L (.ref b :: .int i :: .ref a :: st) T n I J F := by
  intro p e R s m args below meth c H locs cells slots ls X
  have hlt : i.toNatClampNeg < N := Nat.not_le.mp fun q => hin (Or.inr q)
  have h0 : ¬ i < 0 := fun q => hin (Or.inl q)
  obtain ⟨r', hr', cellV, g1, g2, g3, -⟩ := (X.hp.2.2.2 b _ hb).2
  have hcls := (X.gl.kn X.wm hr).2
  obtain ⟨kA, comp, k1, k2, k3, -⟩ := (X.gl.ar X.wm hty).2
  have hcomp : comp = (gD g).1 ci := Option.some.inj (k3.symm.trans hcls.1)
  subst hcomp
  obtain ⟨kC, hkC, -⟩ := hcls.2
  refine W.aast X.ex X.cd (X.arr hT) (fun q h => by cases h) (fun h => by cases h) k1 k2 rfl hkC ⟨h0, by rw [arrV_size]; exact hlt⟩ g1 (fun q h => by rw [g3] at h; cases h) (by rw [g2]; exact hkC) (by rw [g2]; exact va_assign hcls) rfl rfl hd fun H1 e1 z oq => ?_
  exact kk p e R s m args below meth c H1 _ cells slots ls (X.setM X.rm (X.sk.put' z oq (X.hp.2.2.2 a _ hT).1) (X.hp.arr (v := .ref b) hT z oq e1 (fun ty b j h => mval_upF h) (by show va_rf _ = _; rw [up2_same]; rfl)))
theorem V.aastN {a N : Nat} {C : String} {i : Int32} (hd : decode M.2.1 pc = .ok (.aastore, 1)) (hT : T a = some (.inr (.object C, N))) (hty : FieldType.object C ∈ mTys) (hin : vp_in i N) (kk : V g M d Q bc bs (pc + 1) L st T n I J (up2 F a i.toNatClampNeg none)) : V g M d Q bc bs pc L (.null :: .int i :: .ref a :: st) T n I J F := by
  intro p e R s m args below meth c H locs cells slots ls X
  have hlt : i.toNatClampNeg < N := Nat.not_le.mp fun q => hin (Or.inr q)
  have h0 : ¬ i < 0 := fun q => hin (Or.inl q)
  obtain ⟨kA, comp, k1, k2, k3, -⟩ := (X.gl.ar X.wm hty).2
  refine va_WaastN X.ex X.cd (X.arr hT) ((X.gl.ar X.wm hty).1 N _) (fun h => by cases h) (by rw [arrV_size]; exact hin) rfl rfl hd fun H1 e1 z oq => ?_
  exact kk p e R s m args below meth c H1 _ cells slots ls (X.setM X.rm (X.sk.put' z oq (X.hp.2.2.2 a _ hT).1) (X.hp.arr (v := .null) hT z oq e1 (fun ty b j h => mval_upF h) (by show va_rf _ = _; rw [up2_same]; rfl)))
-- returns
theorem V.fin {p : Program} {R : Room} {s : State} {m : MethodId} {args : Array Value} {meth : Method} {c : Code} {H : Heap} {locs : List Loc} {cells slots : Nat} {ls : Array Slot} (X : Vx g M d bc bs L T n I J F p R s m meth c H locs cells slots ls) {r : Option Value} (hq : Q r T n I J F) : ∀ t : State, t.heap = H → s.WarmedH t.vm → mQc g Q args s (.returned r) t := fun t ht hW => ⟨⟨r, T, n, I, J, F, rfl, hq, by rw [ht]; exact X.hp, State.WarmedH.trans X.wm hW⟩, X.sk.F ht⟩
theorem V.iret {v : Int32} (hd : decode M.2.1 pc = .ok (.ireturn, 1)) (hr : M.2.2.2 = some .int) (hq : Q (some (.int v)) T n I J F) : V g M d Q bc bs pc L [.int v] T n I J F := fun p e R s m args below meth c H locs cells slots ls X =>
  W.widen (Nat.le_trans (Nat.le_add_right _ _) X.rm.1) (Nat.le_trans (Nat.le_add_right _ _) X.rm.2) (W.iret X.ex X.cd (X.rt.trans hr) (V.fin X hq) X.sk.2.2 hd X.lk)
theorem V.zret {v : Int32} (hd : decode M.2.1 pc = .ok (.ireturn, 1)) (hr : M.2.2.2 = some .boolean) (hx : v = 0 ∨ v = 1) (hq : Q (some (.int v)) T n I J F) : V g M d Q bc bs pc L [.int v] T n I J F := fun p e R s m args below meth c H locs cells slots ls X =>
  W.widen (Nat.le_trans (Nat.le_add_right _ _) X.rm.1) (Nat.le_trans (Nat.le_add_right _ _) X.rm.2) (W.zret X.ex X.cd (X.rt.trans hr) (by rcases hx with rfl | rfl <;> decide) (V.fin X hq) X.sk.2.2 hd X.lk)
theorem V.lret {v : Int64} (hd : decode M.2.1 pc = .ok (.lreturn, 1)) (hr : M.2.2.2 = some .long) (hq : Q (some (.long v)) T n I J F) : V g M d Q bc bs pc L [.long v] T n I J F := fun p e R s m args below meth c H locs cells slots ls X =>
  W.widen (Nat.le_trans (Nat.le_add_right _ _) X.rm.1) (Nat.le_trans (Nat.le_add_right _ _) X.rm.2) (W.lret X.ex X.cd (X.rt.trans hr) (V.fin X hq) X.sk.2.2 hd X.lk)
theorem V.vret (hd : decode M.2.1 pc = .ok (.return_, 1)) (hr : M.2.2.2 = none) (hq : Q none T n I J F) : V g M d Q bc bs pc L [] T n I J F := fun p e R s m args below meth c H locs cells slots ls X =>
  W.widen (Nat.le_trans (Nat.le_add_right _ _) X.rm.1) (Nat.le_trans (Nat.le_add_right _ _) X.rm.2) (W.vret X.ex X.cd (X.rt.trans hr) (V.fin X hq) X.sk.2.2 hd X.lk)
theorem V.aret {b : Option Nat} {C : String} (hd : decode M.2.1 pc = .ok (.areturn, 1)) (hr : M.2.2.2 = some (.object C)) (hq : Q (some (va_rf b)) T n I J F) : V g M d Q bc bs pc L [va_rf b] T n I J F := fun p e R s m args below meth c H locs cells slots ls X =>
  W.widen (Nat.le_trans (Nat.le_add_right _ _) X.rm.1) (Nat.le_trans (Nat.le_add_right _ _) X.rm.2) (W.aret X.ex X.cd (X.rt.trans hr) (Or.inl ⟨C, rfl⟩) (by cases b with | none => exact Or.inl rfl | some a => exact Or.inr ⟨a, rfl⟩) (V.fin X hq) X.sk.2.2 hd X.lk)
-- entry
def entL : List Value → List (Option Value)
  | [] => []
  | v :: t => if v.category = 2 then some v :: none :: entL t else some v :: entL t
theorem entL_mem {j : Nat} {v : Value} : ∀ (vs : List Value) (i k : Nat), (entL vs ++ List.replicate k none)[j]? = some (some v) → (i + j, v) ∈ lv_args i vs := by
  intro vs
  induction vs generalizing j with
  | nil =>
    intro i k h
    rw [entL, List.nil_append, List.getElem?_replicate] at h
    split at h <;> cases h
  | cons w t ih =>
    intro i k h
    rw [entL] at h
    rw [lv_args]
    by_cases hc : w.category = 2
    · rw [if_pos hc] at h ⊢
      match j, h with
      | 0, h => simp at h; subst h; exact List.mem_cons_self
      | 1, h => simp at h
      | j + 2, h =>
        have := ih (i + 2) k h
        rw [show i + 2 + j = i + (j + 2) by omega] at this
        exact List.mem_cons_of_mem _ this
    · rw [if_neg hc] at h ⊢
      match j, h with
      | 0, h => simp at h; subst h; exact List.mem_cons_self
      | j + 1, h =>
        have := ih (i + 1) k h
        rw [show i + 1 + j = i + (j + 1) by omega] at this
        exact List.mem_cons_of_mem _ this
theorem Ct.ofV {as : List Value} {mc ms k : Nat} (hy : plainName M.1.cls = true) (hn : (lg_sl as).length ≤ M.2.2.1) (body : V g M d Q mc ms 0 (entL as ++ List.replicate k none) [] T n I J F) : Ct g M d as mc ms T n I J F Q := by
  intro G
  refine Met.ofW (cc := M.2.1) (maxL := M.2.2.1) (ret := M.2.2.2) hy rfl ?_
  intro p e s m args below meth c s₁ B hml hv
  obtain ⟨rfl, hW, hH⟩ := hv
  have hl := lv_entry as (n := M.2.2.1) hn
  rw [lg_entry_eq]
  refine body p e _ s m _ below meth c s.heap [] 0 0 _ ⟨B.exec, B.bytes, G, hml, B.returns, B.notSynchronized, (name_of_methodNamed B.named B.method).1, findClass_of_methodNamed B.named, hW, rfl, rfl, ⟨Nat.le_of_eq (Nat.zero_add _), Nat.le_of_eq (Nat.zero_add _)⟩, va_S.rf, hH, hl.1, hl.2.1, fun i v h => ?_⟩
  have h2 := entL_mem as 0 k h
  rw [Nat.zero_add] at h2
  exact hl.2.2 (i, v) h2
end VM2
