-- offsetBy
def obD (u l mk : Nat) (s : Sg) : Nat := if s.2.2 < mkN s.2.1 u l mk 0 then s.2.2 + mk - mkN s.2.1 u l mk 0 else s.2.2 - mkN s.2.1 u l mk 0
def obS (h u l mk : Nat) (o : Int) (s : Sg) : Int := if s.1 = h then (if o = (mk : Int) ∨ o = (obD u l mk s : Int) then (obD u l mk s : Int) else -1) else o
def obF (h u l mk : Nat) (ss : List Sg) : Int := ss.foldl (obS h u l mk) (mk : Int)
theorem obS_m1 {h u l mk : Nat} : ∀ ss : List Sg, 0 < mk → ss.foldl (obS h u l mk) (-1) = -1
  | [], _ => rfl
  | s :: ss, hm => by
    have e : obS h u l mk (-1) s = -1 := by
      unfold obS
      split
      · rw [if_neg (by omega)]
      · rfl
    rw [List.foldl_cons, e]
    exact obS_m1 ss hm
theorem obD_lt {u l mk : Nat} {s : Sg} (hm : 0 < mk) (hs : s.2.2 < mk) : obD u l mk s < mk := by
  have := Nat.mod_lt (s.2.1 * u * mk / l + 0) hm
  unfold obD mkN
  split <;> omega
theorem obF_bd {h u l mk : Nat} (hm : 0 < mk) : ∀ (ss : List Sg) (o : Int), (∀ s ∈ ss, s.1 = h → s.2.2 < mk) → -1 ≤ o ∧ o ≤ mk → -1 ≤ ss.foldl (obS h u l mk) o ∧ ss.foldl (obS h u l mk) o ≤ mk
  | [], _, _, ho => ho
  | s :: ss, o, hs, ho => by
    rw [List.foldl_cons]
    refine obF_bd hm ss _ (fun t ht => hs t (List.mem_cons_of_mem _ ht)) ?_
    unfold obS
    split
    · rename_i z
      have := obD_lt (u := u) (l := l) hm (hs s (List.mem_cons_self ..) z)
      split <;> omega
    · exact ho
theorem obF_take {h u l mk j : Nat} {ss : List Sg} {s : Sg} (h1 : ss[j]? = some s) : obF h u l mk (ss.take (j + 1)) = obS h u l mk (obF h u l mk (ss.take j)) s := by
  unfold obF
  rw [List.take_succ, h1, List.foldl_append]
  rfl
theorem obF_stop {h u l mk j : Nat} {ss : List Sg} (hm : 0 < mk) (h1 : obF h u l mk (ss.take j) = -1) : obF h u l mk ss = -1 := by
  have e : ss = ss.take j ++ ss.drop j := (List.take_append_drop j ss).symm
  unfold obF at h1 ⊢
  rw [e, List.foldl_append, h1]
  exact obS_m1 _ hm
