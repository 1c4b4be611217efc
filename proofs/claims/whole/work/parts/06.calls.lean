-- making
def okT : FieldType → Bool
  | .float => false
  | .double => false
  | _ => true
theorem clr_same {α : Type} {f : Nat → Nat → α} {a j : Nat} {v : α} : clr f a v a j = v := if_pos rfl
theorem clr_ne {α : Type} {f : Nat → Nat → α} {a b j : Nat} {v : α} (h : b ≠ a) : clr f a v b j = f b j := if_neg h
theorem mval_clr {ty : FieldType} (h : okT ty = true) (I : mI) (J : mJ) (F : mF) (a k : Nat) : mval ty (clr I a 0) (clr J a 0) (clr F a none) a k = defaultValue ty := by
  cases ty <;> first | (cases h; done) | (simp [mval, clr_same, defaultValue, va_rf])
theorem mval_clr_ne {ty : FieldType} {I : mI} {J : mJ} {F : mF} {a b k : Nat} (h : b ≠ a) : mval ty (clr I a 0) (clr J a 0) (clr F a none) b k = mval ty I J F b k := by
  cases ty <;> simp [mval, clr_ne h]
theorem okT_all : ∀ (ci : Nat) (r : vw_C), vwCl[ci]? = some r → ∀ k, k < r.2.2 → okT (tyOf ci k) = true := by
  intro ci r h
  match ci, h with
  | 0, h => cases h; exact (by decide +kernel : ∀ k, k < 6 → okT (tyX0 k) = true)
  | 1, h => cases h; exact (by decide +kernel : ∀ k, k < 7 → okT (tyX1 k) = true)
  | 2, h => cases h; exact (by decide +kernel : ∀ k, k < 2 → okT (tyX2 k) = true)
  | 3, h => cases h; exact (by decide +kernel : ∀ k, k < 7 → okT (tyX3 k) = true)
  | 4, h => cases h; exact (by decide +kernel : ∀ k, k < 11 → okT (tyX4 k) = true)
  | 5, h => cases h; exact (by decide +kernel : ∀ k, k < 9 → okT (tyX6 k) = true)
  | 6, h => cases h; exact (by decide +kernel : ∀ k, k < 9 → okT (tyX7 k) = true)
  | 7, h => cases h; exact (by decide +kernel : ∀ k, k < 15 → okT (tyX8 k) = true)
  | 8, h => cases h; exact (by decide +kernel : ∀ k, k < 4 → okT (tyX9 k) = true)
  | 9, h => cases h; exact (by decide +kernel : ∀ k, k < 7 → okT (tyX10 k) = true)
  | 10, h => cases h; exact (by decide +kernel : ∀ k, k < 15 → okT (tyX11 k) = true)
  | 11, h => cases h; exact (by decide +kernel : ∀ k, k < 44 → okT (tyX12 k) = true)
  | ci + 12, h => simp [vwCl] at h
theorem Hok.push {g : gG} {T : mT} {n : Nat} {I : mI} {J : mJ} {F : mF} {H H' : Heap} {sh : mSh} (h : Hok g T n I J F H) (hs : H'.size = n + 1) (ho : ∀ q, q < n → H'[q]? = H[q]?) (hc : mcell g (clr I n 0) (clr J n 0) (clr F n none) H' n sh) : Hok g (upT T n sh) (n + 1) (clr I n 0) (clr J n 0) (clr F n none) H' := by
  obtain ⟨h1, h2, h3, h4⟩ := h
  refine ⟨hs, by omega, fun q hq => ?_, fun b sb hb => ?_⟩
  · rw [ho q (by omega)]; exact h3 q hq
  · by_cases e : b = n
    · subst e
      rw [upT, if_pos rfl] at hb
      cases hb
      exact ⟨h2, hc⟩
    · rw [upT, if_neg e] at hb
      have hl : b < n := by have := (h4 b sb hb).2.lt; omega
      exact ⟨(h4 b sb hb).1, (h4 b sb hb).2.kept (ho b hl) (fun ty j => mval_clr_ne e)⟩
theorem va_S.push' {g : gG} {H0 H H' : Heap} {locs : List Loc} {n : Nat} (h : va_S (mA g) H0 H locs) (hn : H.size = n) (hs : H'.size = n + 1) (ho : ∀ q, q < n → H'[q]? = H[q]?) : va_S (mA g) H0 H' locs :=
  ⟨Nat.le_trans h.1 (by omega), fun x h1 h2 => (ho x (by have := h.1; omega)).trans (h.2.1 x h1 h2), h.2.2⟩
section VC
variable {g : gG} {M : mD} {d : Nat} {Q : mQ} {bc bs pc : Nat} {L : List (Option Value)} {st : List Value} {T : mT} {n : Nat} {I : mI} {J : mJ} {F : mF}
theorem V.new {idx ci N : Nat} (r : vw_C) (hd : decode M.2.1 pc = .ok (.new idx, 3)) (hr : vwCl[ci]? = some r) (hN : r.2.2 = N) (h1 : Cond.classLink M.1.cls idx r.1 ∈ lw_tbl) (h2 : Cond.instantiable r.1 N ∈ lw_tbl) (h3 : Cond.initialized r.1 ∈ lw_tbl)
    (kk : V g M d Q bc bs (pc + 3) L (.ref n :: st) (upT T n (.inl ci)) (n + 1) (clr I n 0) (clr J n 0) (clr F n none)) : V g M d Q (bc + 1) (bs + N) pc L st T n I J F := by
  intro p e R s m args below meth c H locs cells slots ls X
  subst hN
  have hKn := X.gl.kn X.wm hr
  have hrm := X.rm
  refine W.newcK X.ex X.cd X.own (X.w h1 rfl args) (X.w h2 rfl args) (X.w h3 rfl args) rfl hd (by omega) (by omega) hKn.2.1 X.hp.1 fun H1 kC hkC e1 z1 o1 => ?_
  refine kk p e R s m args below meth c H1 locs (cells + 1) (slots + r.2.2) ls (X.setM ⟨by omega, by omega⟩ (X.sk.push' X.hp.1 z1 o1) (X.hp.push z1 o1 ⟨r, hr, ?_⟩))
  exact (u_born (tyOf ci) (X.gl.lay X.wm hr args) (fun _ h => h) hKn hkC e1 (tyOf_ok ci r hr)).to (fun k hk => (mval_clr (okT_all ci r hr k hk) I J F n k).symm)
theorem V.newa {at_ : ArrayType} {ty : FieldType} {x : Int32} {N : Nat} (hd : decode M.2.1 pc = .ok (.newarray at_, 2)) (hty : newarray.typeOf at_ = ty) (hw : Cond.arrayClass ty ∈ lw_tbl) (htm : ty ∈ mTys) (hprim : tR ty = false) (hok : okT ty = true) (h0 : ¬ x < 0) (hN : x.toNatClampNeg = N) (hB : N * componentBytes ty ≤ 536870912)
    (kk : V g M d Q bc bs (pc + 2) L (.ref n :: st) (upT T n (.inr (ty, N))) (n + 1) (clr I n 0) (clr J n 0) (clr F n none)) : V g M d Q (bc + 1) (bs + N) pc L (.int x :: st) T n I J F := by
  intro p e R s m args below meth c H locs cells slots ls X
  subst hty
  have hrm := X.rm
  refine va_newaK X.ex X.cd (X.w hw rfl args) rfl hd rfl h0 hN hB (by omega) (by omega) X.hp.1 fun H1 cA e1 z1 o1 hAr hNm => ?_
  have hc : cA = gA g (newarray.typeOf at_) := by
    have h2 := (X.gl.ar X.wm htm).2
    have h3 : s.vm.findClass ("[" ++ (newarray.typeOf at_).toString) = some (gA g (newarray.typeOf at_)) := by cases at_ <;> exact h2
    exact Option.some.inj (hNm.symm.trans h3)
  subst hc
  refine kk p e R s m args below meth c H1 locs (cells + 1) (slots + N) ls (X.setM ⟨by omega, by omega⟩ (X.sk.push' X.hp.1 z1 o1) (X.hp.push z1 o1 ?_))
  show H1[n]? = some (arrV _ _ _)
  rw [e1]
  congr 2
  funext k
  exact (mval_clr hok I J F n k).symm
theorem V.anew {idx : Nat} {C : String} {x : Int32} {N : Nat} (hd : decode M.2.1 pc = .ok (.anewarray idx, 3)) (h1 : Cond.classLink M.1.cls idx C ∈ lw_tbl) (h2 : Cond.arrayOver (.object C) ∈ lw_tbl) (htm : FieldType.object C ∈ mTys) (h0 : ¬ x < 0) (hN : x.toNatClampNeg = N) (hB : N * 4 ≤ 536870912)
    (kk : V g M d Q bc bs (pc + 3) L (.ref n :: st) (upT T n (.inr (.object C, N))) (n + 1) (clr I n 0) (clr J n 0) (clr F n none)) : V g M d Q (bc + 1) (bs + N) pc L (.int x :: st) T n I J F := by
  intro p e R s m args below meth c H locs cells slots ls X
  subst hN
  have hrm := X.rm
  have hAO : va_AO C s := va_AO.moved X.wm.alike (show (Cond.arrayOver (.object C)).before #[] (gs g) = true from X.gl.1 _ h2)
  refine W.anew X.ex X.cd X.own (X.w h1 rfl args) (va_AO.use hAO) rfl hd rfl h0 hB (by omega) (by omega) fun cA kA comp f1 f2 f3 f4 => ?_
  obtain ⟨kA', comp', -, -, -, g4⟩ := (X.gl.ar X.wm htm).2
  have hc : cA = gA g (.object C) := Option.some.inj (f1.symm.trans g4)
  subst hc
  have hn := X.hp.1
  rw [hn]
  generalize hH1 : H.push ({ cls := gA g (.object C), slots := Array.replicate x.toNatClampNeg .null, vm := .none } : Cell) = H1
  have z1 : H1.size = n + 1 := by rw [← hH1, Array.size_push, hn]
  have e1 : H1[n]? = some (arrV (gA g (.object C)) x.toNatClampNeg (fun _ => .null)) := by rw [← hH1, ← hn, Array.getElem?_push_size, ← arrV_new]
  have o1 : ∀ q : Nat, q < n → H1[q]? = H[q]? := fun q hq => by rw [← hH1, Array.getElem?_push, if_neg (by omega)]
  refine kk p e R s m args below meth c H1 locs (cells + 1) (slots + x.toNatClampNeg) ls (X.setM ⟨by omega, by omega⟩ (X.sk.push' X.hp.1 z1 o1) (X.hp.push z1 o1 ?_))
  show H1[n]? = some (arrV _ _ _)
  rw [e1]
  congr 2
  funext k
  exact (mval_clr (ty := .object C) rfl I J F n k).symm
-- calls
def cB (M' : mD) (k : Nat) : Prop := Cond.code M'.1 M'.2.1 M'.2.2.1 M'.2.2.2 ∈ lw_tbl ∧ Cond.initialized M'.1.cls ∈ lw_tbl ∧ (M'.1.cls ≠ "java/lang/invoke/MethodHandle" ∧ M'.1.cls ≠ "java/lang/invoke/VarHandle" ∧ (parseMethodDescriptor M'.1.desc).map (fun d => d.parameters.length) = some k) ∧ M'.2.2.1 ≤ 40
def cL (own : String) (idx : Nat) (M' : mD) : Prop := Cond.methodLink own idx M'.1 ∈ lw_tbl ∨ ∃ host, Cond.methodLinkNest own idx M'.1 host ∈ lw_tbl
theorem cL.own {own : String} {idx : Nat} {M' : mD} (h : Cond.methodLink own idx M'.1 ∈ lw_tbl) : cL own idx M' := Or.inl h
theorem cL.nest {own host : String} {idx : Nat} {M' : mD} (h : Cond.methodLinkNest own idx M'.1 host ∈ lw_tbl) : cL own idx M' := Or.inr ⟨host, h⟩
theorem V.ofRun {p : Program} {e : Env} {R : Room} {s : State} {m : MethodId} {args a : Array Value} {below : List Frame} {meth : Method} {c : Code} {H : Heap} {locs : List Loc} {cells slots mc ms bc' bs' : Nat} {ls : Array Slot} {rest st0 : List Value} {Q1 : mQ} (X : Vx g M d bc bs L T n I J F p R s m meth c H locs cells slots ls)
    (hr : va_Run p (gl g) e R s m args below meth c H locs cells slots mc ms (F0 m pc ls st0) rest (mQc g Q1 a) (mA g)) (hb : bc = bc' + mc ∧ bs = bs' + ms)
    (kk : ∀ (r : Option Value) (T' : mT) (n' : Nat) (I' : mI) (J' : mJ) (F' : mF), Q1 r T' n' I' J' F' → V g M d Q bc' bs' (pc + 3) L (r.toList ++ rest) T' n' I' J' F') :
    W p (gl g) e R s m args below meth c H locs cells slots (MQ below (mQc g Q) args s R.cells R.slots (mA g)) (F0 m pc ls st0) := by
  intro Tt hT XX
  obtain ⟨v, st₀, t, T', L1, h0, X', hL, e1, e2, ⟨⟨r, T1, n1, I1, J1, F1, hv, hq, hH, hW⟩, hz, hk⟩, st⟩ := hr Tt hT XX
  cases hv
  rw [h0] at hz hk
  have hrm := X.rm
  have hS := X.sk
  obtain ⟨t2, a1, b1⟩ := kk v T1 n1 I1 J1 F1 hq p e R s m args below meth c T'.heap (locs ++ L1) (cells + mc) (slots + ms) ls
    (X.setM ⟨by omega, by omega⟩ ⟨Nat.le_trans hS.1 (by rw [e1]; exact hz), fun q h1 h2 => by rw [e1, hk q (Nat.lt_of_lt_of_le h1 hS.1) h2]; exact hS.2.1 q h1 h2, fun q hq => by
      rcases List.mem_append.mp hq with h | h
      · exact hS.2.2 q h
      · exact hL q h⟩ (by rw [e1]; exact hH)) T' rfl X'
  exact ⟨t2, st t2 a1, b1⟩
theorem blind {as : List Value} : FrameBlind (va_Pc as (fun U => (gs g).WarmedH U.vm ∧ Hok g T n I J F U.heap)) := fun _ _ _ _ q => q
theorem pre_in {p : Program} {R : Room} {s : State} {m : MethodId} {meth : Method} {c : Code} {H : Heap} {locs : List Loc} {cells slots : Nat} {ls : Array Slot} (X : Vx g M d bc bs L T n I J F p R s m meth c H locs cells slots ls) (as : List Value) : ∀ U : State, U.heap = H → s.WarmedH U.vm → va_Pc as (fun U => (gs g).WarmedH U.vm ∧ Hok g T n I J F U.heap) as.toArray U := fun U hU hW => ⟨rfl, State.WarmedH.trans X.wm hW, by rw [hU]; exact X.hp⟩
theorem words_in {p : Program} {R : Room} {s : State} {m : MethodId} {meth : Method} {c : Code} {H : Heap} {locs : List Loc} {cells slots : Nat} {ls : Array Slot} (X : Vx g M d bc bs L T n I J F p R s m meth c H locs cells slots ls) {M' : mD} {k : Nat} (hb : cB M' k) : ∀ w ∈ [Cond.code M'.1 M'.2.1 M'.2.2.1 M'.2.2.2], ∀ (a' : Array Value) (U : State), s.WarmedH U.vm → w.before a' U = true := by
  intro w hw a' U hW
  rw [List.mem_singleton] at hw
  subst hw
  exact gw X.gl (State.WarmedH.trans X.wm hW) hb.1 rfl a'
theorem nest_in {p : Program} {R : Room} {s : State} {m : MethodId} {meth : Method} {c : Code} {H : Heap} {locs : List Loc} {cells slots : Nat} {ls : Array Slot} (X : Vx g M d bc bs L T n I J F p R s m meth c H locs cells slots ls) {own host : String} {idx : Nat} {y : MethodName} (h : Cond.methodLinkNest own idx y host ∈ lw_tbl) (args : Array Value) : (Cond.methodLinkNest own idx y host).before args s = true := va_Nw.use rfl (va_Nw.warmM X.wm (va_Nw.of rfl (X.gl.1 _ h)))
theorem sig_in {y : MethodName} {k : Nat} (h : (parseMethodDescriptor y.desc).map (fun d => d.parameters.length) = some k) : ∀ sig, parseMethodDescriptor y.desc = some sig → k = sig.parameters.length := by
  intro sig h2
  rw [h2] at h
  exact (Option.some.inj h).symm
theorem V.invS {M' : mD} {idx d' mc ms : Nat} {as stk : List Value} {Q1 : mQ} (hd : decode M.2.1 pc = .ok (.invokestatic idx, 3)) (hl : cL M.1.cls idx M') (hb : cB M' as.length) (hs : Cond.static M'.1 ∈ lw_tbl) (hC : Ct g M' d' as mc ms T n I J F Q1) (hdd : d' + 1 ≤ d) (hst : stk = as.reverse ++ st) (h8 : (st.map fun v => v.category).sum ≤ 8)
    (kk : ∀ (r : Option Value) (T' : mT) (n' : Nat) (I' : mI) (J' : mJ) (F' : mF), Q1 r T' n' I' J' F' → V g M d Q bc bs (pc + 3) L (r.toList ++ st) T' n' I' J' F') : V g M d Q (bc + mc) (bs + ms) pc L stk T n I J F := by
  intro p e R s m args below meth c H locs cells slots ls X
  have hrm := X.rm
  have hR : (mRm d' mc ms).frames + 1 ≤ R.frames ∧ 8 + (M'.2.2.1 + 11) + (mRm d' mc ms).locals ≤ R.locals := by
    rw [X.fr, X.lo]
    have := hb.2.2.2
    exact ⟨hdd, by show 8 + (M'.2.2.1 + 11) + 64 * d' ≤ 64 * d; omega⟩
  refine V.ofRun (a := as.toArray) (mc := mc) (ms := ms) X ?_ ⟨rfl, rfl⟩ kk
  rcases hl with hl | ⟨host, hl⟩
  · exact va_runS (nL := M.2.2.1) (Ts := []) ⟨X.ex, X.cd, X.ml, X.own, fun _ h => absurd h List.not_mem_nil⟩ (hC X.gl) ⟨⟨rfl, rfl, hR.1, hR.2, words_in X hb, List.mem_cons_self, X.w hb.1 rfl args, X.w hb.2.1 rfl args, ⟨hb.2.2.1.1, hb.2.2.1.2.1⟩, sig_in hb.2.2.1.2.2, X.w hl rfl args⟩, X.w hs rfl args⟩ ⟨blind, pre_in X as⟩ rfl rfl X.lc.1 hst (lv_room h8) hd ⟨by omega, by omega⟩
  · exact va_runSN (nL := M.2.2.1) (Ts := []) ⟨X.ex, X.cd, X.ml, X.own, fun _ h => absurd h List.not_mem_nil⟩ (hC X.gl) ⟨⟨⟨rfl, rfl, hR.1, hR.2, words_in X hb, List.mem_cons_self⟩, X.w hb.1 rfl args, X.w hb.2.1 rfl args, ⟨hb.2.2.1.1, hb.2.2.1.2.1⟩, sig_in hb.2.2.1.2.2, nest_in X hl args⟩, X.w hs rfl args, trivial⟩ ⟨blind, pre_in X as⟩ rfl rfl X.lc.1 hst (lv_room h8) hd ⟨by omega, by omega⟩
theorem V.invI {M' : mD} {idx d' mc ms b : Nat} {as stk : List Value} {Q1 : mQ} (hd : decode M.2.1 pc = .ok (.invokespecial idx, 3)) (hl : cL M.1.cls idx M') (hb : cB M' as.length) (hin : Cond.instanceMethod M'.1 ∈ lw_tbl) (hnm : M'.1.name = "<init>") (hrt : M'.2.2.2 = none) (hC : Ct g M' d' (.ref b :: as) mc ms T n I J F Q1) (hdd : d' + 1 ≤ d) (hst : stk = as.reverse ++ .ref b :: st) (h8 : (st.map fun v => v.category).sum ≤ 8)
    (kk : ∀ (r : Option Value) (T' : mT) (n' : Nat) (I' : mI) (J' : mJ) (F' : mF), Q1 r T' n' I' J' F' → V g M d Q bc bs (pc + 3) L (r.toList ++ st) T' n' I' J' F') : V g M d Q (bc + mc) (bs + ms) pc L stk T n I J F := by
  intro p e R s m args below meth c H locs cells slots ls X
  have hrm := X.rm
  obtain ⟨y, by_, mL, rt⟩ := M'
  dsimp only at hrt hnm
  subst hrt
  have hR : (mRm d' mc ms).frames + 1 ≤ R.frames ∧ 8 + (mL + 11) + (mRm d' mc ms).locals ≤ R.locals := by
    rw [X.fr, X.lo]
    have := hb.2.2.2
    exact ⟨hdd, by show 8 + (mL + 11) + 64 * d' ≤ 64 * d; dsimp only at this; omega⟩
  refine V.ofRun (a := (Value.ref b :: as).toArray) (mc := mc) (ms := ms) X ?_ ⟨rfl, rfl⟩ kk
  rcases hl with hl | ⟨host, hl⟩
  · exact va_runI (nL := M.2.2.1) (Ts := []) ⟨X.ex, X.cd, X.ml, X.own, fun _ h => absurd h List.not_mem_nil⟩ (hC X.gl) ⟨⟨rfl, rfl, hR.1, hR.2, words_in X hb, List.mem_cons_self, X.w hb.1 rfl args, X.w hb.2.1 rfl args, ⟨hb.2.2.1.1, hb.2.2.1.2.1⟩, sig_in hb.2.2.1.2.2, X.w hl rfl args⟩, hnm, X.w hin rfl args⟩ ⟨blind, pre_in X (.ref b :: as)⟩ rfl rfl X.lc.1 hst (lv_room h8) hd ⟨by omega, by omega⟩
  · exact va_runIN (nL := M.2.2.1) (Ts := []) ⟨X.ex, X.cd, X.ml, X.own, fun _ h => absurd h List.not_mem_nil⟩ (hC X.gl) ⟨⟨⟨rfl, rfl, hR.1, hR.2, words_in X hb, List.mem_cons_self⟩, X.w hb.1 rfl args, X.w hb.2.1 rfl args, ⟨hb.2.2.1.1, hb.2.2.1.2.1⟩, sig_in hb.2.2.1.2.2, nest_in X hl args⟩, hnm, X.w hin rfl args⟩ ⟨blind, pre_in X (.ref b :: as)⟩ rfl rfl X.lc.1 hst (lv_room h8) hd ⟨by omega, by omega⟩
theorem Vx.recv {p : Program} {R : Room} {s : State} {m : MethodId} {meth : Method} {c : Code} {H : Heap} {locs : List Loc} {cells slots : Nat} {ls : Array Slot} (X : Vx g M d bc bs L T n I J F p R s m meth c H locs cells slots ls) {b ci : Nat} {r : vw_C} (hT : T b = some (.inl ci)) (hr : vwCl[ci]? = some r) : ∃ cellB : Cell, H[b]? = some cellB ∧ cellB.vm.isStatics = false ∧ s.vm.findClass r.1 = some cellB.cls := by
  obtain ⟨r', hr', cell, q1, q2, q3, q4⟩ := (X.hp.2.2.2 b _ hT).2
  exact ⟨cell, q1, by rw [q3]; rfl, by rw [q2]; exact (X.gl.kn X.wm hr).2.1⟩
theorem V.invV {M' : mD} {idx d' mc ms b ci : Nat} {r : vw_C} {as stk : List Value} {Q1 : mQ} (hd : decode M.2.1 pc = .ok (.invokevirtual idx, 3)) (hl : cL M.1.cls idx M') (hb : cB M' as.length) (hin : Cond.instanceMethod M'.1 ∈ lw_tbl) (hr : vwCl[ci]? = some r) (hsl : Cond.selects r.1 M'.1 M'.1 ∈ lw_tbl) (hT : T b = some (.inl ci)) (hC : Ct g M' d' (.ref b :: as) mc ms T n I J F Q1) (hdd : d' + 1 ≤ d) (hst : stk = as.reverse ++ .ref b :: st) (h8 : (st.map fun v => v.category).sum ≤ 8)
    (kk : ∀ (r : Option Value) (T' : mT) (n' : Nat) (I' : mI) (J' : mJ) (F' : mF), Q1 r T' n' I' J' F' → V g M d Q bc bs (pc + 3) L (r.toList ++ st) T' n' I' J' F') : V g M d Q (bc + mc) (bs + ms) pc L stk T n I J F := by
  intro p e R s m args below meth c H locs cells slots ls X
  have hrm := X.rm
  have hR : (mRm d' mc ms).frames + 1 ≤ R.frames ∧ 8 + (M'.2.2.1 + 11) + (mRm d' mc ms).locals ≤ R.locals := by
    rw [X.fr, X.lo]
    have := hb.2.2.2
    exact ⟨hdd, by show 8 + (M'.2.2.1 + 11) + 64 * d' ≤ 64 * d; omega⟩
  refine V.ofRun (a := (Value.ref b :: as).toArray) (mc := mc) (ms := ms) X ?_ ⟨rfl, rfl⟩ kk
  rcases hl with hl | ⟨host, hl⟩
  · exact va_runV (nL := M.2.2.1) (Ts := []) (C := r.1) ⟨X.ex, X.cd, X.ml, X.own, fun _ h => absurd h List.not_mem_nil⟩ (hC X.gl) ⟨⟨rfl, rfl, hR.1, hR.2, words_in X hb, List.mem_cons_self, X.w hb.1 rfl args, X.w hb.2.1 rfl args, ⟨hb.2.2.1.1, hb.2.2.1.2.1⟩, sig_in hb.2.2.1.2.2, X.w hl rfl args⟩, X.w hin rfl args, X.w hsl rfl args⟩ ⟨blind, X.recv hT hr, pre_in X (.ref b :: as)⟩ rfl rfl X.lc.1 hst (lv_room h8) hd ⟨by omega, by omega⟩
  · exact va_runVN (nL := M.2.2.1) (Ts := []) (C := r.1) ⟨X.ex, X.cd, X.ml, X.own, fun _ h => absurd h List.not_mem_nil⟩ (hC X.gl) ⟨⟨⟨rfl, rfl, hR.1, hR.2, words_in X hb, List.mem_cons_self⟩, X.w hb.1 rfl args, X.w hb.2.1 rfl args, ⟨hb.2.2.1.1, hb.2.2.1.2.1⟩, sig_in hb.2.2.1.2.2, nest_in X hl args⟩, X.w hin rfl args, X.w hsl rfl args⟩ ⟨blind, X.recv hT hr, pre_in X (.ref b :: as)⟩ rfl rfl X.lc.1 hst (lv_room h8) hd ⟨by omega, by omega⟩
end VC
