/-! MY LAYER: the heap by fields (I: ints, J: longs, F: references, each by address and place; T: what lies at an address), and a judgement V over it that hides the machine. -/
abbrev mI : Type := Nat → Nat → Int32
abbrev mJ : Type := Nat → Nat → Int64
abbrev mF : Type := Nat → Nat → Option Nat
abbrev mSh : Type := Nat ⊕ (FieldType × Nat)
abbrev mT : Type := Nat → Option mSh
abbrev mQ : Type := Option Value → mT → Nat → mI → mJ → mF → Prop
abbrev gG : Type := Launch × State × Array Value × va_G × (FieldType → ClassId)
abbrev mD : Type := MethodName × ByteArray × Nat × Option FieldType
abbrev gl (g : gG) : Launch := g.1
abbrev gs (g : gG) : State := g.2.1
abbrev ga (g : gG) : Array Value := g.2.2.1
abbrev gD (g : gG) : va_G := g.2.2.2.1
abbrev gA (g : gG) : FieldType → ClassId := g.2.2.2.2
def up2 {α : Type} (f : Nat → Nat → α) (a k : Nat) (v : α) : Nat → Nat → α := fun b j => if b = a ∧ j = k then v else f b j
def clr {α : Type} (f : Nat → Nat → α) (a : Nat) (v : α) : Nat → Nat → α := fun b j => if b = a then v else f b j
def upT (T : mT) (a : Nat) (sh : mSh) : mT := fun b => if b = a then some sh else T b
def tyOf : Nat → Nat → FieldType := fun ci => match ci with
  | 0 => tyX0
  | 1 => tyX1
  | 2 => tyX2
  | 3 => tyX3
  | 4 => tyX4
  | 5 => tyX6
  | 6 => tyX7
  | 7 => tyX8
  | 8 => tyX9
  | 9 => tyX10
  | 10 => tyX11
  | _ => tyX12
def mval (ty : FieldType) (I : mI) (J : mJ) (F : mF) (a k : Nat) : Value := match ty with
  | .long => .long (J a k)
  | .object _ => va_rf (F a k)
  | .array _ => va_rf (F a k)
  | _ => .int (I a k)
def mcell (g : gG) (I : mI) (J : mJ) (F : mF) (H : Heap) (a : Nat) (sh : mSh) : Prop := match sh with
  | .inl ci => ∃ r : vw_C, vwCl[ci]? = some r ∧ t_OB a ((gD g).1 ci) r.2.2 ((gD g).2 ci) H (fun k => mval (tyOf ci k) I J F a k)
  | .inr q => H[a]? = some (arrV (gA g q.1) q.2 (fun k => mval q.1 I J F a k))
def mA (g : gG) : Nat → Prop := fun q => (gs g).heap.size ≤ q
def Hok (g : gG) (T : mT) (n : Nat) (I : mI) (J : mJ) (F : mF) (H : Heap) : Prop :=
  H.size = n ∧ (gs g).heap.size ≤ n ∧ (∀ q : Nat, q < (gs g).heap.size → H[q]? = (gs g).heap[q]?) ∧ ∀ (a : Nat) (sh : mSh), T a = some sh → mA g a ∧ mcell g I J F H a sh
def mTys : List FieldType := [.int, .long, .boolean, .object "WheelYear$Hand", .object "WheelYear$Law", .object "WheelYear$State"]
def Glob (g : gG) : Prop := (∀ w ∈ lw_tbl, w.before (ga g) (gs g) = true) ∧ (∀ (c : Nat) (q : vw_C), vwCl[c]? = some q → u_Kn (gs g) q.1 q.2.1 q.2.2 ((gD g).1 c) ((gD g).2 c)) ∧ (∀ ty ∈ mTys, ArrOfT (gs g) (gA g ty) ty ∧ va_RA (gs g) (gA g ty) ty) ∧ (Jvm.Cond.and given_1 narrow_1).before (ga g) (gs g) = true
def mQc (g : gG) (Q : mQ) : Array Value → State → Outcome → State → Prop := fun _ st oc t =>
  (∃ (r : Option Value) (T : mT) (n : Nat) (I : mI) (J : mJ) (F : mF), oc = .returned r ∧ Q r T n I J F ∧ Hok g T n I J F t.heap ∧ (gs g).WarmedH t.vm) ∧ va_F (mA g) st t
def mRm (d mc ms : Nat) : Room := { frames := d, cells := mc, slots := ms, locals := 64 * d }
/-- a contract: method M at depth d from args and memory: it returns with Q; it makes at most mc cells of ms slots -/
def Ct (g : gG) (M : mD) (d : Nat) (as : List Value) (mc ms : Nat) (T : mT) (n : Nat) (I : mI) (J : mJ) (F : mF) (Q : mQ) : Prop :=
  Glob g → Met (gl g) M.1 [.code M.1 M.2.1 M.2.2.1 M.2.2.2] (mRm d mc ms) (va_Pc as (fun U => (gs g).WarmedH U.vm ∧ Hok g T n I J F U.heap)) (mQc g Q) mc ms (mA g)
def lok (ls : Array Slot) (nL : Nat) (L : List (Option Value)) : Prop := ls.size = nL ∧ lv_wf ls ∧ ∀ (i : Nat) (v : Value), L[i]? = some (some v) → ls[i]? = some (.val v)
def Vx (g : gG) (M : mD) (d bc bs : Nat) (L : List (Option Value)) (T : mT) (n : Nat) (I : mI) (J : mJ) (F : mF) (p : Program) (R : Room) (s : State) (m : MethodId) (meth : Method) (c : Code) (H : Heap) (locs : List Loc) (cells slots : Nat) (ls : Array Slot) : Prop :=
  p.tables.exec = Jvm.exec ∧ c.code = M.2.1 ∧ Glob g ∧ c.maxLocals = M.2.2.1 ∧ meth.sig.returnType = M.2.2.2 ∧ meth.locks = false ∧ meth.name = M.1.name ∧ s.vm.findClass M.1.cls = some m.cls ∧ (gs g).WarmedH s.vm ∧ R.frames = d ∧ R.locals = 64 * d ∧ (cells + bc ≤ R.cells ∧ slots + bs ≤ R.slots) ∧ va_S (mA g) s.heap H locs ∧ Hok g T n I J F H ∧ lok ls M.2.2.1 L
/-- the machine in method M, depth d, at pc with locals L and stack st over the memory (T, n, I, J, F), with room for bc cells of bs slots, comes to its return, with Q -/
def V (g : gG) (M : mD) (d : Nat) (Q : mQ) (bc bs pc : Nat) (L : List (Option Value)) (st : List Value) (T : mT) (n : Nat) (I : mI) (J : mJ) (F : mF) : Prop :=
  ∀ (p : Program) (e : Env) (R : Room) (s : State) (m : MethodId) (args : Array Value) (below : List Frame) (meth : Method) (c : Code) (H : Heap) (locs : List Loc) (cells slots : Nat) (ls : Array Slot),
    Vx g M d bc bs L T n I J F p R s m meth c H locs cells slots ls →
    W p (gl g) e R s m args below meth c H locs cells slots (MQ below (mQc g Q) args s R.cells R.slots (mA g)) (F0 m pc ls st)
-- words
theorem gw {g : gG} (G : Glob g) {s : State} (hW : (gs g).WarmedH s.vm) {w : Cond} (hm : w ∈ lw_tbl) (hg : goodWord w = true) (args : Array Value) : w.before args s = true := word_at hW (good_of_word hg) (G.1 w hm)
theorem gwT {w : Cond} (i : Nat) (h : tables_1[i]? = some w) : w ∈ lw_tbl := List.mem_append_right _ (List.mem_of_getElem? h)
theorem gwP {w : Cond} (i : Nat) (h : (k2_sels lw_privs)[i]? = some w) : w ∈ lw_tbl := List.mem_append_left _ (List.mem_of_getElem? h)
theorem lv_ok {ls : Array Slot} {nL : Nat} {L : List (Option Value)} (h : lok ls nL L) {i : Nat} {v : Value} (hi : L[i]? = some (some v)) : ls[i]? = some (.val v) := h.2.2 i v hi
theorem lays_all : ∀ (ci : Nat) (r : vw_C), vwCl[ci]? = some r → ∀ w ∈ u_ws r.1 r.2.1 r.2.2, w ∈ lw_tbl ∧ goodWord w = true := by
  intro ci r h
  have hm := List.mem_of_getElem? h
  revert hm
  have key : vwCl.all (fun r => (u_ws r.1 r.2.1 r.2.2).all (fun w => goodWord w)) = true := by decide +kernel
  have key2 : ∀ r ∈ vwCl, ∀ w ∈ u_ws r.1 r.2.1 r.2.2, w ∈ lw_tbl := by decide +kernel
  intro hm w hw
  exact ⟨key2 r hm w hw, List.all_eq_true.mp (List.all_eq_true.mp key r hm) w hw⟩
