-- calls of methods that are inherited, abstract, or private in the class above
theorem sel_priv {y : MethodName} {C : String} {s : State} {args : Array Value} {n : Nat} (hins : (Cond.instantiable C n).before args s = true) (hsame : (Cond.sameMethod y.cls y.cls y.name y.desc).before args s = true) (hpriv : (Cond.privateMethod y).before args s = true) (hinst : (Cond.instanceMethod y).before args s = true) : (Cond.selects C y y).before args s = true := by
  obtain ⟨c, k, hc, hk, -⟩ := Cond.instantiable_spec hins
  obtain ⟨cn, ck, r1, hcn, hck, hni, hf, hn1⟩ := Cond.sameMethod_found hsame
  obtain ⟨mk, methM, hnamed, hmethM, -, -⟩ := Cond.instanceMethod_spec hinst
  have e1 : mk = r1 := Option.some.inj (hnamed.symm.trans hn1)
  subst e1
  have hcls : mk.cls = cn := Option.some.inj ((findClass_of_methodNamed hnamed).symm.trans hcn)
  have hsel : selectMethod {} s.vm c mk = .method mk := selectMethod_private hmethM (Cond.privateMethod_at hpriv mk methM hnamed hmethM)
  simp only [Cond.before, Cond.holds, Cond.value, hc, hf, hnamed, hsel, hcls, hck]
  simp; exact hni
def cU (own : String) (idx : Nat) (C : String) (M' : mD) : Prop := ∃ (x : MethodName) (owner : String), Cond.methodLink own idx x ∈ lw_tbl ∧ Cond.sameMethod x.cls owner x.name x.desc ∈ lw_tbl ∧ (owner ≠ "java/lang/invoke/MethodHandle" ∧ owner ≠ "java/lang/invoke/VarHandle") ∧ x.desc = M'.1.desc ∧ (Cond.declares ⟨owner, x.name, x.desc⟩ ∈ lw_tbl ∨ M'.1 = ⟨owner, x.name, x.desc⟩) ∧ (Cond.selects C x M'.1 ∈ lw_tbl ∨ (x = M'.1 ∧ owner = M'.1.cls ∧ Cond.privateMethod M'.1 ∈ lw_tbl ∧ ∃ n, Cond.instantiable C n ∈ lw_tbl))
section VU
variable {g : gG} {M : mD} {d : Nat} {Q : mQ} {bc bs pc : Nat} {L : List (Option Value)} {st : List Value} {T : mT} {n : Nat} {I : mI} {J : mJ} {F : mF}
theorem V.invU {M' : mD} {idx d' mc ms b ci : Nat} {r : vw_C} {as stk : List Value} {Q1 : mQ} (hd : decode M.2.1 pc = .ok (.invokevirtual idx, 3)) (hr : vwCl[ci]? = some r) (hu : cU M.1.cls idx r.1 M') (hb : cB M' as.length) (hin : Cond.instanceMethod M'.1 ∈ lw_tbl) (hT : T b = some (.inl ci)) (hC : Ct g M' d' (.ref b :: as) mc ms T n I J F Q1) (hdd : d' + 1 ≤ d) (hst : stk = as.reverse ++ .ref b :: st) (h8 : (st.map fun v => v.category).sum ≤ 8)
    (kk : ∀ (r : Option Value) (T' : mT) (n' : Nat) (I' : mI) (J' : mJ) (F' : mF), Q1 r T' n' I' J' F' → V g M d Q bc bs (pc + 3) L (r.toList ++ st) T' n' I' J' F') : V g M d Q (bc + mc) (bs + ms) pc L stk T n I J F := by
  obtain ⟨x, owner, hl, hsm, how, hds, hdc, hsl⟩ := hu
  intro p e R s m args below meth c H locs cells slots ls X
  have hrm := X.rm
  have hR : (mRm d' mc ms).frames + 1 ≤ R.frames ∧ 8 + (M'.2.2.1 + 11) + (mRm d' mc ms).locals ≤ R.locals := by
    rw [X.fr, X.lo]
    have := hb.2.2.2
    exact ⟨hdd, by show 8 + (M'.2.2.1 + 11) + 64 * d' ≤ 64 * d; omega⟩
  refine V.ofRun (a := (Value.ref b :: as).toArray) (mc := mc) (ms := ms) X ?_ ⟨rfl, rfl⟩ kk
  refine va_runU (nL := M.2.2.1) (Ts := []) (C := r.1) (x := x) (owner := owner) ⟨X.ex, X.cd, X.ml, X.own, fun _ h => absurd h List.not_mem_nil⟩ (hC X.gl) ⟨⟨rfl, rfl, hR.1, hR.2, words_in X hb, List.mem_cons_self⟩, X.w hb.1 rfl args, X.w hb.2.1 rfl args, how, (by rw [hds]; exact sig_in hb.2.2.1.2.2), X.w hl rfl args, X.w hsm rfl args, ?_, ?_, X.w hin rfl args⟩ ⟨blind, X.recv hT hr, pre_in X (.ref b :: as)⟩ rfl rfl X.lc.1 hst (lv_room h8) hd ⟨by omega, by omega⟩
  · rcases hdc with h | h
    · exact va_Decl.abs (va_Nw.warmD X.wm (va_Nw.of rfl (X.gl.1 _ h)))
    · rw [← h]; exact va_Decl.of (X.w hin rfl args) (X.w hb.1 rfl args)
  · rcases hsl with h | ⟨h1, h2, h3, k, h4⟩
    · exact X.w h rfl args
    · subst h1
      subst h2
      exact word_at X.wm (good_of_word rfl) (sel_priv (X.gl.1 _ h4) (X.gl.1 _ hsm) (X.gl.1 _ h3) (X.gl.1 _ hin))
theorem V.invU0 {M' : mD} {idx d' b ci : Nat} {r : vw_C} {as stk : List Value} {Q1 : mQ} (hd : decode M.2.1 pc = .ok (.invokevirtual idx, 3)) (hr : vwCl[ci]? = some r) (hu : cU M.1.cls idx r.1 M') (hb : cB M' as.length) (hin : Cond.instanceMethod M'.1 ∈ lw_tbl) (hT : T b = some (.inl ci)) (hC : Ct g M' d' (.ref b :: as) 0 0 T n I J F Q1) (hdd : d' + 1 ≤ d) (hst : stk = as.reverse ++ .ref b :: st) (h8 : (st.map fun v => v.category).sum ≤ 8)
    (kk : ∀ (r : Option Value) (T' : mT) (n' : Nat) (I' : mI) (J' : mJ) (F' : mF), Q1 r T' n' I' J' F' → V g M d Q bc bs (pc + 3) L (r.toList ++ st) T' n' I' J' F') : V g M d Q bc bs pc L stk T n I J F := V.invU (mc := 0) (ms := 0) hd hr hu hb hin hT hC hdd hst h8 kk
theorem V.pU {M' : mD} {idx d' b ci : Nat} {r : vw_C} {as stk : List Value} {v : Value} (hd : decode M.2.1 pc = .ok (.invokevirtual idx, 3)) (hr : vwCl[ci]? = some r) (hu : cU M.1.cls idx r.1 M') (hb : cB M' as.length) (hin : Cond.instanceMethod M'.1 ∈ lw_tbl) (hT : T b = some (.inl ci)) (hC : Ct g M' d' (.ref b :: as) 0 0 T n I J F (pureQ T n I J F (some v))) (hdd : d' + 1 ≤ d) (hst : stk = as.reverse ++ .ref b :: st) (h8 : (st.map fun v => v.category).sum ≤ 8)
    (kk : V g M d Q bc bs (pc + 3) L (v :: st) T n I J F) : V g M d Q bc bs pc L stk T n I J F := V.invU0 hd hr hu hb hin hT hC hdd hst h8 (by rintro r T' n' I' J' F' ⟨rfl, rfl, rfl, rfl, rfl, rfl⟩; exact kk)
end VU
theorem uX11_221_X3 : cU RX11 221 RX3 mX5_bestWheel := ⟨⟨"WheelYear$NearSearch", "bestWheel", "(I)I"⟩, "WheelYear$Search", (gw4 159 (by decide +kernel)), (gw4 160 (by decide +kernel)), ⟨by decide, by decide⟩, rfl, Or.inl (gw4 161 (by decide +kernel)), Or.inl (gw4 162 (by decide +kernel))⟩
theorem uX11_250_X7 : cU RX11 250 RX7 mX5_bestWheel := ⟨⟨"WheelYear$SightSearch", "bestWheel", "(I)I"⟩, "WheelYear$Search", (gw4 216 (by decide +kernel)), (gw4 217 (by decide +kernel)), ⟨by decide, by decide⟩, rfl, Or.inl (gw4 161 (by decide +kernel)), Or.inl (gw4 218 (by decide +kernel))⟩
theorem uX3_22_X3 : cU RX3 22 RX3 mX5_goThrough := ⟨⟨"WheelYear$NearSearch", "goThrough", "(LWheelYear$State;)V"⟩, "WheelYear$Search", (gw4 115 (by decide +kernel)), (gw4 116 (by decide +kernel)), ⟨by decide, by decide⟩, rfl, Or.inl (gw4 117 (by decide +kernel)), Or.inl (gw4 118 (by decide +kernel))⟩
theorem uX3_36_X3 : cU RX3 36 RX3 mX5_keepTried := ⟨⟨"WheelYear$NearSearch", "keepTried", "(I)V"⟩, "WheelYear$Search", (gw4 129 (by decide +kernel)), (gw4 130 (by decide +kernel)), ⟨by decide, by decide⟩, rfl, Or.inl (gw4 131 (by decide +kernel)), Or.inl (gw4 132 (by decide +kernel))⟩
theorem uX5_31_X3 : cU RX5 31 RX3 mX3_weigh := ⟨⟨"WheelYear$Search", "weigh", "(JJII)V"⟩, "WheelYear$Search", (gw4 122 (by decide +kernel)), (gw4 124 (by decide +kernel)), ⟨by decide, by decide⟩, rfl, Or.inl (gw4 123 (by decide +kernel)), Or.inl (gw4 125 (by decide +kernel))⟩
theorem uX5_31_X7 : cU RX5 31 RX7 mX7_weigh := ⟨⟨"WheelYear$Search", "weigh", "(JJII)V"⟩, "WheelYear$Search", (gw4 122 (by decide +kernel)), (gw4 124 (by decide +kernel)), ⟨by decide, by decide⟩, rfl, Or.inl (gw4 123 (by decide +kernel)), Or.inl (gw4 136 (by decide +kernel))⟩
theorem uX5_35_X3 : cU RX5 35 RX3 mX5_goThroughSecondPairs := ⟨⟨"WheelYear$Search", "goThroughSecondPairs", "(LWheelYear$State;II)V"⟩, "WheelYear$Search", (gw4 155 (by decide +kernel)), (gw8 38 (by decide +kernel)), ⟨by decide, by decide⟩, rfl, Or.inr rfl, Or.inr ⟨rfl, rfl, (gw4 156 (by decide +kernel)), 7, (gw1 232 (by decide +kernel))⟩⟩
theorem uX5_35_X7 : cU RX5 35 RX7 mX5_goThroughSecondPairs := ⟨⟨"WheelYear$Search", "goThroughSecondPairs", "(LWheelYear$State;II)V"⟩, "WheelYear$Search", (gw4 155 (by decide +kernel)), (gw8 38 (by decide +kernel)), ⟨by decide, by decide⟩, rfl, Or.inr rfl, Or.inr ⟨rfl, rfl, (gw4 156 (by decide +kernel)), 9, (gw2 31 (by decide +kernel))⟩⟩
theorem uX7_46_X7 : cU RX7 46 RX7 mX5_goThrough := ⟨⟨"WheelYear$SightSearch", "goThrough", "(LWheelYear$State;)V"⟩, "WheelYear$Search", (gw4 213 (by decide +kernel)), (gw4 214 (by decide +kernel)), ⟨by decide, by decide⟩, rfl, Or.inl (gw4 117 (by decide +kernel)), Or.inl (gw4 215 (by decide +kernel))⟩
theorem uX7_72_X7 : cU RX7 72 RX7 mX5_keepTried := ⟨⟨"WheelYear$SightSearch", "keepTried", "(I)V"⟩, "WheelYear$Search", (gw4 143 (by decide +kernel)), (gw4 144 (by decide +kernel)), ⟨by decide, by decide⟩, rfl, Or.inl (gw4 131 (by decide +kernel)), Or.inl (gw4 145 (by decide +kernel))⟩
