-- the law that a text is
section RRN
variable {T : mT} {F : mF} {u n : Nat} {sh : mSh}
theorem RrS.txt {v : Option Nat} (h : RrS T F u) : RrS T (up2 F (u + 1) 4 v) u := by
  obtain ⟨h1, h2, ⟨a, ⟨b1, b2⟩, ⟨c1, c2⟩, d1, d2⟩, ⟨e1, e2⟩, f1, f2⟩ := h
  exact ⟨h1, by rw [up2_ne (by omega)]; exact h2, ⟨a, ⟨by rw [up2_ne (by omega)]; exact b1, b2⟩, ⟨by rw [up2_ne (by omega)]; exact c1, c2⟩, by rw [up2_ne (by omega)]; exact d1, d2⟩, ⟨by rw [up2_ne (by omega)]; exact e1, e2⟩, by rw [up2_ne (by omega)]; exact f1, f2⟩
theorem nI_minl {s k : Nat} (h : s ≤ k) (hk : k < 2147483648) : (if Int32.ofNat k < Int32.ofNat s then Int32.ofNat k else Int32.ofNat s) = nI s := if_neg (fun z => absurd (show nI k < nI s from z) (nI_nlt h hk))
theorem upT_lt {a : Nat} (h : a < n) : upT T n sh a = T a := if_neg (by omega)
theorem upT_at : upT T n sh n = some sh := if_pos rfl
theorem RrS.new {v : Option Nat} (h : RrS T F u) (hd : u + 6 < n) : RrS (upT T n sh) (clr F n v) u := by
  obtain ⟨h1, h2, ⟨a, ⟨b1, b2⟩, ⟨c1, c2⟩, d1, d2⟩, ⟨e1, e2⟩, f1, f2⟩ := h
  exact ⟨by rw [upT_lt (by omega)]; exact h1, by rw [clr_ne (by omega)]; exact h2, ⟨by rw [upT_lt (by omega)]; exact a, ⟨by rw [clr_ne (by omega)]; exact b1, by rw [upT_lt (by omega)]; exact b2⟩, ⟨by rw [clr_ne (by omega)]; exact c1, by rw [upT_lt (by omega)]; exact c2⟩, by rw [clr_ne (by omega)]; exact d1, by rw [upT_lt (by omega)]; exact d2⟩, ⟨by rw [clr_ne (by omega)]; exact e1, by rw [upT_lt (by omega)]; exact e2⟩, by rw [clr_ne (by omega)]; exact f1, by rw [upT_lt (by omega)]; exact f2⟩
theorem clr_off {α : Type} {f : Nat → Nat → α} {a b : Nat} {v : α} (h : b ≠ a) : clr f a v b = f b := by funext j; exact clr_ne h
end RRN
def QLo (T : mT) (n : Nat) (I : mI) (J : mJ) (F : mF) (u a N : Nat) (tt : Nat → Nat) (res : Nat × Option (List ClA)) : mQ := fun r' T' n' I' J' F' => (∀ b, b < n → b < u ∨ u + 6 < b → I' b = I b) ∧ (∀ b, b < n → J' b = J b) ∧ (∀ b, b < n → b ≠ u + 1 → F' b = F b) ∧ (∀ t, t ≠ 4 → F' (u + 1) t = F (u + 1) t) ∧ (∀ j, res = (j, none) → r' = some .null ∧ T' = T ∧ n' = n ∧ I' u 10 = nI (frT tt N j)) ∧ ∀ j l, res = (j, some l) → r' = some (.ref (n + 2)) ∧ n' = n + 3 ∧ I' u 10 = -1 ∧ ∃ s : Nat, T' = upT (upT (upT T n (.inr (.int, s))) (n + 1) (.inr (.int, l.length + 1))) (n + 2) (.inl 2) ∧ F' (n + 2) 0 = some n ∧ F' (n + 2) 1 = some (n + 1) ∧ LwXs s (l.length + 1) (fun i => (I' n i).toInt) (fun i => (I' (n + 1) i).toInt) (lawSem l)
theorem LwXs.of {tt : Nat → Nat} {N u j q s : Nat} {c st : Nat → Nat} {I I' : mI} {l : List ClA} {f g : Nat → Int} (hX : XrM tt N I u j q s c) (hN : TtM tt N) (h12 : l.length ≤ 12) (hl : LwS I' u c st s l) (hf : ∀ i, i < s → f i = (c i : Int)) (hg : ∀ i, i < l.length → g i = (st i : Int)) (hg2 : g l.length = (s : Int)) : LwXs s (l.length + 1) f g (lawSem l) := by
  obtain ⟨-, -, ⟨-, d2⟩, -, e, e2, e3, e4⟩ := hX
  have h4 := hN.end.1
  refine ⟨l, c, st, rfl, h12, rfl, by omega, by omega, fun i hi => ⟨hf i hi, (d2 i hi).2⟩, fun i hi => ?_, fun i x hx => ?_⟩
  · by_cases z : i = l.length
    · rw [z, hg2, hl.2.1]; exact ⟨rfl, Nat.le_refl _⟩
    · have hi2 : i < l.length := by omega
      refine ⟨hg i hi2, ?_⟩
      cases i with
      | zero =>
        cases hq : l[0]? with
        | none => rw [List.getElem?_eq_none_iff] at hq; omega
        | some x =>
          obtain ⟨b, b1, b2, -⟩ := hl.2.2.2 0 x hq
          have := hl.2.2.1 0 hi2
          omega
      | succ i => exact hl.2.2.1 i (by omega)
  · obtain ⟨b, b1, b2, b3, b4⟩ := hl.2.2.2 i x hx
    exact ⟨b, b1, b2, b3, b4⟩
theorem x_lawInit {g : gG} {d : Nat} {T : mT} {n : Nat} {I : mI} {J : mJ} {F : mF} {a p q : Nat} (hLw0 : T a = some (.inl 2)) : Ct g mX2_init (d + 1) [.ref a, .ref p, .ref q] 0 0 T n I J F (fun r' T' n' I' J' F' => r' = none ∧ T' = T ∧ n' = n ∧ I' = I ∧ J' = J ∧ F' = up2 (up2 F a 0 (some p)) a 1 (some q)) := by
  refine Ct.ofV (k := 0) (by decide) (Nat.le_of_ble_eq_true rfl) ?_
  show V g mX2_init (d + 1) _ 0 0 0 [some (.ref a), some (.ref p), some (.ref q)] [] T n I J F
  have hLw : T a = some (.inl 2) ∧ True := ⟨hLw0, trivial⟩
  refine V.aload_n (pc := 0) dX2_init_0 rfl ?_
  refine V.obj (pc := 1) dX2_init_1 lX2_3 (by omega) (Nat.le_of_ble_eq_true rfl) ?_
  refine V.aload_n (pc := 4) dX2_init_4 rfl ?_
  refine V.aload_n (pc := 5) dX2_init_5 rfl ?_
  refine V.putR (b := (some _)) (pc := 6) dX2_init_6 fX2_9_2 (fun r h => by cases h; exact Or.inr ⟨rfl, rfl⟩) rfl hLw.1 ?_
  refine V.aload_n (pc := 9) dX2_init_9 rfl ?_
  refine V.aload_n (pc := 10) dX2_init_10 rfl ?_
  refine V.putR (b := (some _)) (pc := 11) dX2_init_11 fX2_15_2 (fun r h => by cases h; exact Or.inr ⟨rfl, rfl⟩) rfl hLw.1 ?_
  exact V.vret (pc := 14) dX2_init_14 rfl ⟨rfl, rfl, rfl, rfl, rfl, rfl⟩
set_option maxHeartbeats 2000000 in
theorem x_lawOf {g : gG} {d : Nat} {T : mT} {n : Nat} {I : mI} {J : mJ} {F : mF} {u a N : Nat} {tt : Nat → Nat} {aK aV : Nat → Nat} (x : Int32) (hd : 32 ≤ d) (hRd : RrS T F u) (hN : TtM tt N) (hst : StrG g aK aV) (ha : T a = some (.inr (.int, 400))) (hak : a < u + 1 ∨ u + 1 + 3 < a) (hI : ∀ i, i < N → I a i = nI (tt i)) (hxN : x = nI N) : Ct g mX4_lawOf (d + 12) [.ref u, .ref a, .int x] 3 420 T n I J F (QLo T n I J F u a N tt (dClauses (kdT tt N) (nmT tt N) 12 0 0 [])) := by
  refine Ct.ofV (k := 2) (by decide) (Nat.le_of_ble_eq_true rfl) ?_
  show V g mX4_lawOf (d + 12) _ 3 420 0 [some (.ref u), some (.ref a), some (.int x), none, none] [] T n I J F
  subst hxN
  have hTo := hRd.tk.o
  have hE4 := hN.end.1
  refine V.aload_n (pc := 0) dX4_lawOf_0 rfl ?_
  refine V.getR (pc := 1) dX4_lawOf_1 fX4_12_4 rfl hRd.o hRd.f0 ?_
  refine V.aload_n (pc := 4) dX4_lawOf_4 rfl ?_
  refine V.iload_n (pc := 5) dX4_lawOf_5 rfl ?_
  refine V.invV0 (as := [_, _]) (pc := 6) dX4_lawOf_6 lX4_50 bX10_takeAll nX10_takeAll (ci := 9) rfl eX10_takeAll (by assumption) (x_takeAll (d := d + 3) (k := u + 1) (a := a) (N := N) (tt := tt) _ hRd.tk hst ha hak hN.1 hN.2 hI rfl) (by omega) rfl (Nat.le_of_ble_eq_true rfl) ?_
  rintro _ _ _ I1 _ _ ⟨rfl, rfl, rfl, rfl, rfl, f1, k1⟩
  replace hRd := hRd.txt (v := some a)
  refine V.aload_n (pc := 9) dX4_lawOf_9 rfl ?_
  refine V.iconst (v := (-1)) (pc := 10) dX4_lawOf_10 (by decide) ?_
  refine V.putI (pc := 11) dX4_lawOf_11 fX4_18_4 (fun r h => by cases h; exact Or.inl rfl) rfl hRd.o ?_
  refine V.aload_n (pc := 14) dX4_lawOf_14 rfl ?_
  refine V.invV0 (as := []) (pc := 15) dX4_lawOf_15 lX4_54 bX4_nextToken nX4_nextToken (ci := 4) rfl eX4_nextToken hRd.o (x_nextToken (d := d + 10) (N := N) (tt := tt) (i := 0) hRd (TkX.keep k1 (fun b h1 h2 => up2_off (by omega))) (Nat.zero_le _) hE4 (by rw [up2_same]; rfl)) (by omega) rfl (Nat.le_of_ble_eq_true rfl) ?_
  rintro _ _ _ I2 _ _ ⟨rfl, rfl, rfl, rfl, rfl, n1, n2, n3⟩
  refine V.aload_n (pc := 18) dX4_lawOf_18 rfl ?_
  refine V.iconst (v := 0) (pc := 19) dX4_lawOf_19 (by decide) ?_
  refine V.putI (pc := 20) dX4_lawOf_20 fX4_31_4 (fun r h => by cases h; exact Or.inl rfl) rfl hRd.o ?_
  refine V.aload_n (pc := 23) dX4_lawOf_23 rfl ?_
  refine V.iconst (v := 0) (pc := 24) dX4_lawOf_24 (by decide) ?_
  refine V.putI (pc := 25) dX4_lawOf_25 fX4_34_4 (fun r h => by cases h; exact Or.inl rfl) rfl hRd.o ?_
  refine V.aload_n (pc := 28) dX4_lawOf_28 rfl ?_
  refine V.iconst (v := 0) (pc := 29) dX4_lawOf_29 (by decide) ?_
  refine V.putI (pc := 30) dX4_lawOf_30 fX4_37_4 (fun r h => by cases h; exact Or.inl rfl) rfl hRd.o ?_
  have hX3 : XrM tt N (up2 (up2 (up2 I2 u 5 0) u 6 0) u 7 0) u 0 0 0 (fun _ => 0) := ⟨⟨by simp (disch := omega) only [up2_off, up2_ne, up2_same]; exact n3.1, by simp (disch := omega) only [up2_off, up2_ne, up2_same]; exact n3.2.1, by simp (disch := omega) only [up2_off, up2_ne, up2_same]; exact n3.2.2.1, by simp (disch := omega) only [up2_off, up2_ne, up2_same]; exact n3.2.2.2⟩, by simp (disch := omega) only [up2_off, up2_ne, up2_same]; rfl, ⟨by rw [up2_same]; rfl, fun j hj => absurd hj (Nat.not_lt_zero j)⟩, TkX.keep k1 (fun b h1 h2 => by rw [up2_off (by omega), up2_off (by omega), up2_off (by omega), n1 b (by omega), up2_off (by omega)]), Nat.zero_le _, Nat.le_refl _, rfl, Nat.zero_le _⟩
  refine V.aload_n (pc := 33) dX4_lawOf_33 rfl ?_
  refine V.invV0 (as := []) (pc := 34) dX4_lawOf_34 lX4_57 bX4_readClauses nX4_readClauses (ci := 4) rfl eX4_readClauses hRd.o (x_clauses (d := d + 0) (N := N) (tt := tt) hd hRd hN hX3 (by rw [up2_ne (by omega), up2_same])) (by omega) rfl (Nat.le_of_ble_eq_true rfl) ?_
  rintro r4 _ _ I4 _ _ ⟨rfl, rfl, rfl, rfl, f4, hy4, hn4⟩
  rcases hp4 : dClauses (kdT tt N) (nmT tt N) 12 0 0 [] with ⟨j4, _ | l4⟩
  · obtain ⟨rfl, p4, s4, c4, hN4⟩ := hn4 j4 hp4
    refine V.if_ne 50 (pc := 37) dX4_lawOf_37 (by decide) (fun h37 => absurd rfl h37) (fun h37 => ?_)
    refine V.aload_n (pc := 40) dX4_lawOf_40 rfl ?_
    refine V.aload_n (pc := 41) dX4_lawOf_41 rfl ?_
    refine V.getI (pc := 42) dX4_lawOf_42 fX4_28_4 rfl hRd.o ?_
    rw [show I4 u 4 = nI (frT tt N j4) from hN4.1.2.2.2]
    refine V.putI (pc := 45) dX4_lawOf_45 fX4_47_4 (fun r h => by cases h; exact Or.inl rfl) rfl hRd.o ?_
    refine V.anull (pc := 48) dX4_lawOf_48 ?_
    exact V.aret (b := none) (pc := 49) dX4_lawOf_49 rfl ⟨fun b hb hb2 => by rw [up2_off (by omega), f4.1 b (by omega) (by omega) (by omega), up2_off (by omega), up2_off (by omega), up2_off (by omega), n1 b (by omega), up2_off (by omega), f1 b (by omega)], fun _ _ => rfl, fun b _ hb => by rw [up2_off hb], fun t ht => by rw [up2_ne (by omega)], fun j e => (by cases e; exact ⟨rfl, rfl, rfl, up2_same⟩), fun j l e => (by cases e)⟩
  · obtain ⟨rfl, g12, g6, q4, s4, c4, st4, x1, x2, x3⟩ := hy4 j4 l4 hp4
    have hs4 : s4 ≤ 400 := by have h1 := x1.2.2.2.2.1; have h2 := x1.2.2.2.2.2.1; omega
    have e7 : I4 u 7 = nI s4 := x1.2.2.1.1
    refine V.if_ne 50 (pc := 37) dX4_lawOf_37 (by decide) (fun h37 => ?_) (fun h37 => absurd h37 (by decide))
    refine V.aload_n (pc := 50) dX4_lawOf_50 rfl ?_
    refine V.iconst (v := (-1)) (pc := 51) dX4_lawOf_51 (by decide) ?_
    refine V.putI (pc := 52) dX4_lawOf_52 fX4_47_4 (fun r h => by cases h; exact Or.inl rfl) rfl hRd.o ?_
    refine V.aload_n (pc := 55) dX4_lawOf_55 rfl ?_
    refine V.getI (pc := 56) dX4_lawOf_56 fX4_37_4 rfl hRd.o ?_
    rw [up2_ne (by omega), e7]
    refine V.iconst (v := 0) (pc := 59) dX4_lawOf_59 (by decide) ?_
    refine V.mmax (pc := 60) dX4_lawOf_60 lX4_61 (by omega) (Nat.le_of_ble_eq_true rfl) ?_
    rw [if_neg (nI_pos (by omega))]
    refine V.dom (fun hdom63 => ?_)
    refine V.room (bc := 2 + 1) (bs := (420 - (s4)) + (s4)) (by decide) (by omega) ?_
    refine V.newa (N := s4) (pc := 63) dX4_lawOf_63 rfl a_int (by decide) rfl rfl (nI_pos (by omega)) (nI_clamp (by omega)) (by show (s4) * 4 ≤ 536870912; omega) ?_
    have hu6 := hdom63 _ _ hRd.t9
    replace hRd := hRd.new (sh := .inr (.int, s4)) (v := none) hu6
    refine V.asn (pc := 65) dX4_lawOf_65 (by decide) (st1_3 rfl) ?_
    refine V.aload_n (pc := 66) dX4_lawOf_66 rfl ?_
    refine V.getR (pc := 67) dX4_lawOf_67 fX4_40_4 rfl hRd.o hRd.f8 ?_
    refine V.iconst (v := 0) (pc := 70) dX4_lawOf_70 (by decide) ?_
    refine V.aload_n (pc := 71) dX4_lawOf_71 rfl ?_
    refine V.iconst (v := 0) (pc := 72) dX4_lawOf_72 (by decide) ?_
    refine V.aload_n (pc := 73) dX4_lawOf_73 rfl ?_
    refine V.alen (pc := 74) dX4_lawOf_74 upT_at ty_i (by rfl) ?_
    refine V.aload_n (pc := 75) dX4_lawOf_75 rfl ?_
    refine V.getR (pc := 76) dX4_lawOf_76 fX4_40_4 rfl hRd.o hRd.f8 ?_
    refine V.alen (pc := 79) dX4_lawOf_79 hRd.t8 ty_i (by rfl) ?_
    refine V.mmin (pc := 80) dX4_lawOf_80 lX4_67 (by omega) (Nat.le_of_ble_eq_true rfl) ?_
    rw [nI_minl hs4 (by omega)]
    refine V.copy0 (K := s4) (pc := 83) dX4_lawOf_83 lX4_70 (by omega) (Nat.le_of_ble_eq_true rfl) hRd.t8 upT_at rfl (by omega) (Nat.le_refl _) (by decide) ?_
    refine V.aload_n (pc := 86) dX4_lawOf_86 rfl ?_
    refine V.getI (pc := 87) dX4_lawOf_87 fX4_34_4 rfl hRd.o ?_
    rw [cpyI_off (by omega), clr_off (by omega), up2_ne (by omega), g6]
    refine V.iconst (v := 0) (pc := 90) dX4_lawOf_90 (by decide) ?_
    refine V.mmax (pc := 91) dX4_lawOf_91 lX4_61 (by omega) (Nat.le_of_ble_eq_true rfl) ?_
    rw [if_neg (nI_pos (by omega))]
    refine V.iconst (v := 1) (pc := 94) dX4_lawOf_94 (by decide) ?_
    refine V.iadd (pc := 95) dX4_lawOf_95 ?_
    rw [nI_1]
    refine V.dom (fun hdom96 => ?_)
    refine V.room (bc := 1 + 1) (bs := ((420 - s4) - (l4.length + 1)) + (l4.length + 1)) (by decide) (by omega) ?_
    refine V.newa (N := l4.length + 1) (pc := 96) dX4_lawOf_96 rfl a_int (by decide) rfl rfl (nI_pos (by omega)) (nI_clamp (by omega)) (by show (l4.length + 1) * 4 ≤ 536870912; omega) ?_
    have hu7 := hdom96 _ _ hRd.t9
    replace hRd := hRd.new (sh := .inr (.int, l4.length + 1)) (v := none) hu7
    refine V.as (pc := 98) dX4_lawOf_98 (by decide) (st1_4 rfl) ?_
    refine V.aload_n (pc := 100) dX4_lawOf_100 rfl ?_
    refine V.getR (pc := 101) dX4_lawOf_101 fX4_44_4 rfl hRd.o hRd.f9 ?_
    refine V.iconst (v := 0) (pc := 104) dX4_lawOf_104 (by decide) ?_
    refine V.aload (pc := 105) dX4_lawOf_105 rfl ?_
    refine V.iconst (v := 0) (pc := 107) dX4_lawOf_107 (by decide) ?_
    refine V.aload (pc := 108) dX4_lawOf_108 rfl ?_
    refine V.alen (pc := 110) dX4_lawOf_110 upT_at ty_i (by rfl) ?_
    refine V.aload_n (pc := 111) dX4_lawOf_111 rfl ?_
    refine V.getR (pc := 112) dX4_lawOf_112 fX4_44_4 rfl hRd.o hRd.f9 ?_
    refine V.alen (pc := 115) dX4_lawOf_115 hRd.t9 ty_i (by rfl) ?_
    refine V.mmin (pc := 116) dX4_lawOf_116 lX4_67 (by omega) (Nat.le_of_ble_eq_true rfl) ?_
    rw [nI_minl (show l4.length + 1 ≤ 13 by omega) (by omega)]
    refine V.copy0 (K := l4.length + 1) (pc := 119) dX4_lawOf_119 lX4_70 (by omega) (Nat.le_of_ble_eq_true rfl) hRd.t9 upT_at rfl (by omega) (Nat.le_refl _) (by decide) ?_
    refine V.room (bc := 0 + 1) (bs := 0 + 2) (by decide) (by omega) ?_
    refine V.new (N := 2) (RX2, TX2, 2) (pc := 122) dX4_lawOf_122 (ci := 2) rfl rfl kX4_76 iX2 jX2 ?_
    refine V.dup (pc := 125) dX4_lawOf_125 rfl ?_
    refine V.aload_n (pc := 126) dX4_lawOf_126 rfl ?_
    refine V.aload (pc := 127) dX4_lawOf_127 rfl ?_
    refine V.invI (mc := 0) (ms := 0) (as := [_, _]) (pc := 129) dX4_lawOf_129 lX4_78 bX2_init nX2_init rfl rfl (x_lawInit (d := d + 10) upT_at) (by omega) rfl (Nat.le_of_ble_eq_true rfl) ?_
    rintro _ _ _ _ _ _ ⟨rfl, rfl, rfl, rfl, rfl, rfl⟩
    exact V.aret (b := some _) (pc := 132) dX4_lawOf_132 rfl ⟨fun b hb hb2 => by rw [clr_off (by omega), cpyI_off (by omega), clr_off (by omega), cpyI_off (by omega), clr_off (by omega), up2_off (by omega), f4.1 b (by omega) (by omega) (by omega), up2_off (by omega), up2_off (by omega), up2_off (by omega), n1 b (by omega), up2_off (by omega), f1 b (by omega)], fun b hb => by rw [clr_off (by omega), clr_off (by omega), clr_off (by omega)], fun b hb hb2 => by rw [up2_off (by omega), up2_off (by omega), clr_off (by omega), clr_off (by omega), clr_off (by omega), up2_off hb2], fun t ht => by rw [up2_off (by omega), up2_off (by omega), clr_off (by omega), clr_off (by omega), clr_off (by omega), up2_ne (by omega)], fun j e => (by cases e), fun j l e => (by
      cases e
      refine ⟨rfl, rfl, by rw [clr_off (by omega), cpyI_off (by omega), clr_off (by omega), cpyI_off (by omega), clr_off (by omega), up2_same], s4, rfl, by rw [up2_ne (by omega), up2_same], up2_same, ?_⟩
      refine LwXs.of (I := I4) (I' := I4) x1 hN g12 x2 (fun i hi => ?_) (fun i hi => ?_) ?_
      · show (_ : Int32).toInt = _
        rw [clr_off (by omega), cpyI_off (by omega), clr_off (by omega), cpyI_in hi, clr_off (by omega), up2_off (by omega), (x1.2.2.1.2 i hi).1, nI_toInt (by have := (x1.2.2.1.2 i hi).2; omega)]
      · have hst4 : st4 i ≤ 400 := by
          cases hq : l4[i]? with
          | none => rw [List.getElem?_eq_none_iff] at hq; omega
          | some x =>
            obtain ⟨b, b1, b2, -⟩ := x2.2.2.2 i x hq
            have := x2.2.2.1 i hi
            omega
        show (_ : Int32).toInt = _
        rw [clr_off (by omega), cpyI_in (by omega), clr_off (by omega), cpyI_off (by omega), clr_off (by omega), up2_off (by omega), x2.1 i hi, nI_toInt (by omega)]
      · show (_ : Int32).toInt = _
        rw [clr_off (by omega), cpyI_in (by omega), clr_off (by omega), cpyI_off (by omega), clr_off (by omega), up2_off (by omega), x3, nI_toInt (by omega)])⟩
