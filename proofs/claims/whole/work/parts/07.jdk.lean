-- members of the JDK: Math, System.arraycopy, Object.<init>
theorem w_maxS : Cond.static Lib.Math.max.name ∈ lw_tbl := by decide +kernel
theorem w_maxC : Cond.code Lib.Math.max.name Lib.Math.max.code 2 (some .int) ∈ lw_tbl := by decide +kernel
theorem w_minS : Cond.static Lib.Math.min.name ∈ lw_tbl := by decide +kernel
theorem w_minC : Cond.code Lib.Math.min.name Lib.Math.min.code 2 (some .int) ∈ lw_tbl := by decide +kernel
theorem w_mathI : Cond.initialized "java/lang/Math" ∈ lw_tbl := by decide +kernel
theorem w_absS : Cond.static Lib.MathLoose.abs_long.x ∈ lw_tbl := by decide +kernel
theorem w_absC : Cond.code Lib.MathLoose.abs_long.x Lib.MathLoose.abs_long.code 2 (some .long) ∈ lw_tbl := by decide +kernel
theorem w_mnlS : Cond.static Lib.MathLoose.min_long.x ∈ lw_tbl := by decide +kernel
theorem w_mnlC : Cond.code Lib.MathLoose.min_long.x Lib.MathLoose.min_long.code 4 (some .long) ∈ lw_tbl := by decide +kernel
theorem w_cpyN : Cond.native arraycopyName ∈ lw_tbl := by decide +kernel
theorem w_cpyS : Cond.static arraycopyName ∈ lw_tbl := by decide +kernel
theorem w_sysI : Cond.initialized "java/lang/System" ∈ lw_tbl := by decide +kernel
theorem w_objN : Cond.instanceMethod Lib.objectInit ∈ lw_tbl := by decide +kernel
theorem w_objC : Cond.code Lib.objectInit ⟨#[0xb1]⟩ 1 none ∈ lw_tbl := by decide +kernel
section VJ
variable {g : gG} {M : mD} {d : Nat} {Q : mQ} {bc bs pc : Nat} {L : List (Option Value)} {st : List Value} {T : mT} {n : Nat} {I : mI} {J : mJ} {F : mF}
theorem V.mmax {idx : Nat} {x y : Int32} (hd : decode M.2.1 pc = .ok (.invokestatic idx, 3)) (hl : Cond.methodLink M.1.cls idx Lib.Math.max.name ∈ lw_tbl) (hdd : 1 ≤ d) (h8 : (st.map fun v => v.category).sum ≤ 8) (kk : V g M d Q bc bs (pc + 3) L (.int (if x < y then y else x) :: st) T n I J F) : V g M d Q bc bs pc L (.int y :: .int x :: st) T n I J F := fun p e R s m args below meth c H locs cells slots ls X =>
  va_mmax X.ex X.cd (X.ml.trans X.lc.1.symm) X.own (X.w hl rfl args) (X.w w_maxS rfl args) (X.w w_mathI rfl args) (X.w w_maxC rfl args) (by rw [X.fr]; exact hdd) (by rw [X.lo]; omega) (by have := X.rm; omega) (by have := X.rm; omega) hd (kk p e R s m args below meth c H locs cells slots ls X)
theorem V.mmin {idx : Nat} {x y : Int32} (hd : decode M.2.1 pc = .ok (.invokestatic idx, 3)) (hl : Cond.methodLink M.1.cls idx Lib.Math.min.name ∈ lw_tbl) (hdd : 1 ≤ d) (h8 : (st.map fun v => v.category).sum ≤ 8) (kk : V g M d Q bc bs (pc + 3) L (.int (if y < x then y else x) :: st) T n I J F) : V g M d Q bc bs pc L (.int y :: .int x :: st) T n I J F := fun p e R s m args below meth c H locs cells slots ls X =>
  va_mmin X.ex X.cd (X.ml.trans X.lc.1.symm) X.own (X.w hl rfl args) (X.w w_minS rfl args) (X.w w_mathI rfl args) (X.w w_minC rfl args) (by rw [X.fr]; exact hdd) (by rw [X.lo]; omega) (by have := X.rm; omega) (by have := X.rm; omega) hd (kk p e R s m args below meth c H locs cells slots ls X)
theorem V.mabs {idx : Nat} {x : Int64} (hd : decode M.2.1 pc = .ok (.invokestatic idx, 3)) (hl : Cond.methodLink M.1.cls idx Lib.MathLoose.abs_long.x ∈ lw_tbl) (hdd : 1 ≤ d) (h8 : (st.map fun v => v.category).sum ≤ 8) (kk : V g M d Q bc bs (pc + 3) L (.long (if 0 < x then x else -x) :: st) T n I J F) : V g M d Q bc bs pc L (.long x :: st) T n I J F := fun p e R s m args below meth c H locs cells slots ls X =>
  va_mabs_long X.ex X.cd (X.ml.trans X.lc.1.symm) X.own (X.w hl rfl args) (X.w w_absS rfl args) (X.w w_mathI rfl args) (X.w w_absC rfl args) (by rw [X.fr]; exact hdd) (by rw [X.lo]; omega) (by have := X.rm; omega) (by have := X.rm; omega) hd (kk p e R s m args below meth c H locs cells slots ls X)
theorem V.mminl {idx : Nat} {x y : Int64} (hd : decode M.2.1 pc = .ok (.invokestatic idx, 3)) (hl : Cond.methodLink M.1.cls idx Lib.MathLoose.min_long.x ∈ lw_tbl) (hdd : 1 ≤ d) (h8 : (st.map fun v => v.category).sum ≤ 8) (kk : V g M d Q bc bs (pc + 3) L (.long (if y < x then y else x) :: st) T n I J F) : V g M d Q bc bs pc L (.long y :: .long x :: st) T n I J F := fun p e R s m args below meth c H locs cells slots ls X =>
  va_mmin_long X.ex X.cd (X.ml.trans X.lc.1.symm) X.own (X.w hl rfl args) (X.w w_mnlS rfl args) (X.w w_mathI rfl args) (X.w w_mnlC rfl args) (by rw [X.fr]; exact hdd) (by rw [X.lo]; omega) (by have := X.rm; omega) (by have := X.rm; omega) hd (kk p e R s m args below meth c H locs cells slots ls X)
theorem V.obj {idx a : Nat} (hd : decode M.2.1 pc = .ok (.invokespecial idx, 3)) (hl : Cond.methodLink M.1.cls idx Lib.objectInit ∈ lw_tbl) (hdd : 1 ≤ d) (h8 : (st.map fun v => v.category).sum ≤ 8) (kk : V g M d Q bc bs (pc + 3) L st T n I J F) : V g M d Q bc bs pc L (.ref a :: st) T n I J F := fun p e R s m args below meth c H locs cells slots ls X =>
  W.objInit X.ex X.cd X.own (X.w hl rfl args) (X.w w_objN rfl args) (X.w w_objC rfl args) rfl (X.lc.1.trans X.ml.symm) rfl hd (by rw [X.fr]; exact hdd) (by rw [X.lo]; have := lv_room (m := m) (pc := pc) (ls := ls) (rest := st) h8; show 2 * (F0 m pc ls st).monitorRoom + _ + 12 ≤ _; omega) (kk p e R s m args below meth c H locs cells slots ls X)
/-- an int array's stretch copied: b's from dp on become a's from sp on -/
def cpyI (I : mI) (a b sp dp k : Nat) : mI := fun x j => if x = b ∧ dp ≤ j ∧ j < dp + k then I a (sp + (j - dp)) else I x j
theorem V.copy {idx a b N0 N1 : Nat} {sp dp k : Int32} (hd : decode M.2.1 pc = .ok (.invokestatic idx, 3)) (hl : Cond.methodLink M.1.cls idx arraycopyName ∈ lw_tbl) (hdd : 1 ≤ d) (h8 : (st.map fun v => v.category).sum ≤ 8) (ha : T a = some (.inr (.int, N0))) (hb : T b = some (.inr (.int, N1))) (h1 : ¬ sp < 0) (h2 : ¬ dp < 0) (h3 : ¬ k < 0) (h4 : sp.toNatClampNeg + k.toNatClampNeg ≤ N0) (h5 : dp.toNatClampNeg + k.toNatClampNeg ≤ N1)
    (kk : V g M d Q bc bs (pc + 3) L st T n (cpyI I a b sp.toNatClampNeg dp.toNatClampNeg k.toNatClampNeg) J F) : V g M d Q bc bs pc L (.int k :: .int dp :: .ref b :: .int sp :: .ref a :: st) T n I J F := by
  have nn : ∀ z : Int32, ¬ z < 0 → z.toInt = (z.toNatClampNeg : Int) := by
    intro z hz
    have hz0 : (0 : Int) ≤ z.toInt := by
      have := Int32.not_lt.mp hz
      simpa using Int32.le_iff_toInt_le.mp this
    show z.toInt = ((z.toInt.toNat : Nat) : Int)
    omega
  intro p e R s m args below meth c H locs cells slots ls X Tt hT XX
  have hnw : nativeFrameWords "java/lang/System" "arraycopy" 5 ≤ 40 := by decide
  have hc0 : H[a]? = some (arrV (gA g .int) N0 (fun j => .int (I a j))) := X.arr ha
  have hc1 : H[b]? = some (arrV (gA g .int) N1 (fun j => .int (I b j))) := X.arr hb
  obtain ⟨-, k0, hk0, cm0, hkk0⟩ := (X.gl.ar X.wm ty_i).1 N0 (fun j => .int (I a j))
  obtain ⟨vm', X', step⟩ := XX.arraycopy X.ex X.own (X.w hl rfl args) (X.w w_cpyN rfl args) (X.w w_cpyS rfl args) (X.w w_sysI rfl args) (src := a) (dst := b) (cs := arrV (gA g .int) N0 (fun j => .int (I a j))) (cd := arrV (gA g .int) N1 (fun j => .int (I b j))) (srcPos := sp) (destPos := dp) (n := k) (by rw [hT]; exact hc0) (by rw [hT]; exact hc1)
    (fun _ h => by cases h) (fun _ h => by cases h) (fun h => by cases h) (fun h => by cases h) hk0 hk0 hkk0 hkk0 (by simp [refKind]) h1 h2 h3
    (by rw [nn sp h1, nn k h3, arrV_size]; omega)
    (by rw [nn dp h2, nn k h3, arrV_size]; omega)
    (fun vm₁ _ i hi => by
      have e : (arrV (gA g .int) N0 (fun j => Value.int (I a j))).slots.getD (sp.toNatClampNeg + i) .null = .int (I a (sp.toNatClampNeg + i)) := by
        rw [Array.getD_eq_getD_getElem?, arrV_read _ _ (by omega)]
        rfl
      rw [e]
      exact ⟨rfl, trivial⟩)
    (g := F0 m pc ls (.int k :: .int dp :: .ref b :: .int sp :: .ref a :: st)) rfl (X.lc.1.trans X.ml.symm) (rest := st) rfl (by rw [X.cd]; exact hd) (by rw [X.fr]; exact hdd) (by rw [X.lo]; show 2 * 0 + _ + (nativeFrameWords "java/lang/System" "arraycopy" 5 + 11) ≤ _; omega)
  have e1 : copied (arrV (gA g .int) N0 (fun j => Value.int (I a j))) (arrV (gA g .int) N1 (fun j => Value.int (I b j))) sp dp k = arrV (gA g .int) N1 (fun j => .int (va_cpy (I a) (I b) sp.toNatClampNeg dp.toNatClampNeg k.toNatClampNeg j)) := va_copied (fun z => .int z) _ _ (I a) (I b) h4
  rw [e1] at X' step
  have hlt : b < H.size := (Array.getElem?_eq_some_iff.mp hc1).1
  have hheap : ((Tt.setVm vm').setCell b (arrV (gA g .int) N1 (fun j => .int (va_cpy (I a) (I b) sp.toNatClampNeg dp.toNatClampNeg k.toNatClampNeg j)))).heap = H.setIfInBounds b (arrV (gA g .int) N1 (fun j => .int (va_cpy (I a) (I b) sp.toNatClampNeg dp.toNatClampNeg k.toNatClampNeg j))) := by rw [← hT]; rfl
  generalize hH1 : H.setIfInBounds b (arrV (gA g .int) N1 (fun j => .int (va_cpy (I a) (I b) sp.toNatClampNeg dp.toNatClampNeg k.toNatClampNeg j))) = H1 at hheap
  have z1 : H1.size = H.size := by rw [← hH1]; simp
  have oq : ∀ q : Nat, q ≠ b → H1[q]? = H[q]? := fun q hq => by rw [← hH1]; simp [Array.getElem?_setIfInBounds, Ne.symm hq]
  have eb : H1[b]? = some (arrV (gA g .int) N1 (fun j => .int (va_cpy (I a) (I b) sp.toNatClampNeg dp.toNatClampNeg k.toNatClampNeg j))) := by rw [← hH1]; simp [Array.getElem?_setIfInBounds, hlt]
  have hbA := (X.hp.2.2.2 b _ hb).1
  have hS := X.sk
  have hH : Hok g T n (cpyI I a b sp.toNatClampNeg dp.toNatClampNeg k.toNatClampNeg) J F H1 := by
    refine X.hp.store (v := .null) hb z1 oq (fun ty x j hx => ?_) ?_
    · have : cpyI I a b sp.toNatClampNeg dp.toNatClampNeg k.toNatClampNeg x j = I x j := if_neg (fun q => hx q.1)
      cases ty <;> simp [mval, this]
    · show H1[b]? = some (arrV _ _ _)
      rw [eb]
      congr 2
      funext j
      show Value.int _ = Value.int _
      congr 1
      by_cases q : dp.toNatClampNeg ≤ j ∧ j < dp.toNatClampNeg + k.toNatClampNeg
      · rw [va_cpy, if_pos q, cpyI, if_pos ⟨rfl, q.1, q.2⟩]
      · rw [va_cpy, if_neg q, cpyI, if_neg (fun z => q z.2)]
  obtain ⟨t, a1, b1⟩ := kk p e R s m args below meth c H1 _ cells slots ls (X.setM X.rm ⟨by rw [z1]; exact hS.1, fun q g1 g2 => by
      rw [oq q (fun e => g2 (by rw [e]; exact hbA))]
      exact hS.2.1 q g1 g2, fun q hq => by
      rcases List.mem_append.mp hq with h | h
      · exact hS.2.2 q h
      · obtain ⟨z, -, hz⟩ := List.mem_map.mp h
        rw [← hz]
        exact hbA⟩ hH) _ hheap X'
  exact ⟨t, step t a1, b1⟩
end VJ
