-- the law: its script
abbrev mL_law : mD := (yL_law, cL_law, 4, ret)
section VS
variable {g : gG} {M : mD} {d : Nat} {Q : mQ} {bc bs pc : Nat} {L : List (Option Value)} {st : List Value} {T : mT} {n : Nat} {I : mI} {J : mJ} {F : mF}
theorem V.sld {b N k : Nat} {xs : Nat → Int32} {i : Int32} (hX : va_X b N xs (gs g) (gs g).heap) (hb : b < (gs g).heap.size) (hd : decode M.2.1 pc = .ok (.iaload, 1)) (hi : i = nI k) (hk : k < N) (hN : N < 2 ^ 31) (kk : V g M d Q bc bs (pc + 1) L (.int (xs k) :: st) T n I J F) : V g M d Q bc bs pc L (.int i :: .ref b :: st) T n I J F := fun p e R s m args below meth c H locs cells slots ls X => by
  obtain ⟨scr, h1, h2, h3, h4, h5⟩ := hX
  subst hi
  have hc : H[b]? = some scr := by rw [X.hp.2.2.1 b hb]; exact h1
  have ha : s.isArrayOf scr .int := State.isArrayOf_alike X.wm.alike h2
  exact W.iald (v := .int (xs k)) X.ex X.cd hc ha h3 (by rw [h4]; exact vp_in_nI hk hN) (by rw [nI_clamp (by omega)]; exact h5 k hk) rfl rfl hd (kk p e R s m args below meth c H locs cells slots ls X)
theorem V.slen {b N : Nat} {xs : Nat → Int32} (hX : va_X b N xs (gs g) (gs g).heap) (hb : b < (gs g).heap.size) (hd : decode M.2.1 pc = .ok (.arraylength, 1)) (kk : V g M d Q bc bs (pc + 1) L (.int (nI N) :: st) T n I J F) : V g M d Q bc bs pc L (.ref b :: st) T n I J F := fun p e R s m args below meth c H locs cells slots ls X => by
  obtain ⟨scr, h1, h2, h3, h4, h5⟩ := hX
  have hc : H[b]? = some scr := by rw [X.hp.2.2.1 b hb]; exact h1
  have ha : s.isArrayOf scr .int := State.isArrayOf_alike X.wm.alike h2
  exact W.alen (n := nI N) X.ex X.cd hc ha (by rw [h4]; rfl) rfl rfl hd (kk p e R s m args below meth c H locs cells slots ls X)
end VS
theorem setSz_le {A : Ab} {x m1 z m2 dd w : Int} (hA : AbOK A) : setSz A x m1 z m2 dd w ≤ 160000 := by
  unfold setSz
  split
  · rename_i y1 y2 e1 e2
    split
    · have h1 := (hA.1.2.1 y1 (List.mem_of_getElem? (hdAt_some e1).2)).2.1
      have h2 := (hA.1.2.1 y2 (List.mem_of_getElem? (hdAt_some e2).2)).2.1
      exact Nat.le_trans (Nat.mul_le_mul h1 h2) (by decide)
    · exact Nat.zero_le _
  · exact Nat.zero_le _
theorem SetS.uni {A : Ab} {x m1 z m2 dd w r1 r2 : Int} (h1 : SetS A x m1 z m2 dd w r1) (h2 : SetS A x m1 z m2 dd w r2) : r1 = r2 := by
  unfold SetS at h1 h2
  split at h1
  · rename_i y1 y2 e1 e2
    simp only [e1, e2] at h2
    split at h1
    · rename_i q
      rw [if_pos q] at h2
      exact SetR.uni h1 h2
    · rename_i q
      rw [if_neg q] at h2
      rw [h1, h2]
  · rename_i hn
    split at h2
    · rename_i y1 y2 e1 e2
      exact absurd e2 (hn y1 y2 e1)
    · rw [h1, h2]
