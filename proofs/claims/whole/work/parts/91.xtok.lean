-- the class cuts a text into tokens (k: the Tokens, a: the text's row)
def TkS (T : mT) (F : mF) (k : Nat) : Prop := T k = some (.inl 9) ∧ (F k 0 = some (k + 1) ∧ T (k + 1) = some (.inr (.int, 401))) ∧ (F k 1 = some (k + 2) ∧ T (k + 2) = some (.inr (.int, 401))) ∧ F k 2 = some (k + 3) ∧ T (k + 3) = some (.inr (.int, 401))
section TKS
variable {T : mT} {F : mF} {k x : Nat}
theorem TkS.o (h : TkS T F k) : T k = some (.inl 9) := h.1
theorem TkS.f0 (h : TkS T F k) : F k 0 = some (k + 1) := h.2.1.1
theorem TkS.t0 (h : TkS T F k) : T (k + 1) = some (.inr (.int, 401)) := h.2.1.2
theorem TkS.f1 (h : TkS T F k) : F k 1 = some (k + 2) := h.2.2.1.1
theorem TkS.t1 (h : TkS T F k) : T (k + 2) = some (.inr (.int, 401)) := h.2.2.1.2
theorem TkS.f2 (h : TkS T F k) : F k 2 = some (k + 3) := h.2.2.2.1
theorem TkS.t2 (h : TkS T F k) : T (k + 3) = some (.inr (.int, 401)) := h.2.2.2.2
theorem XS.tk (h : XS T F x) : TkS T F (x + 25) := ⟨h.o25, ⟨h.g25_0, h.u26⟩, ⟨h.g25_1, h.u27⟩, h.g25_2, h.u28⟩
end TKS
/-- the text: N bytes tt in the row at a -/
def TxM (T : mT) (I : mI) (F : mF) (k a N : Nat) (tt : Nat → Nat) : Prop := F k 4 = some a ∧ T a = some (.inr (.int, 400)) ∧ (a < k ∨ k + 3 < a) ∧ I k 5 = nI N ∧ N ≤ 400 ∧ (∀ i, tt i ≤ 255) ∧ ∀ i, i < N → I a i = nI (tt i)
def byN (tt : Nat → Nat) (N p : Nat) : Int32 := if p < N then nI (tt p) else -1
def TkX (I : mI) (k : Nat) (tt : Nat → Nat) (N c : Nat) : Prop := I k 3 = nI c ∧ ∀ j, j < c → I (k + 1) j = iI (kdT tt N j) ∧ I (k + 3) j = nI (nmT tt N j) ∧ I (k + 2) j = nI (frT tt N j)
def TkFr (k : Nat) (I I' : mI) : Prop := (∀ b, b < k ∨ k + 3 < b → I' b = I b) ∧ I' k 5 = I k 5
theorem TkFr.rf {k : Nat} {I : mI} : TkFr k I I := ⟨fun _ _ => rfl, rfl⟩
theorem TkFr.tr {k : Nat} {I I' I'' : mI} (h : TkFr k I I') (h2 : TkFr k I' I'') : TkFr k I I'' := ⟨fun b hb => (h2.1 b hb).trans (h.1 b hb), h2.2.trans h.2⟩
theorem TkFr.up {k b j : Nat} {I I' : mI} {v : Int32} (h : TkFr k I I') (hb : (b = k ∧ j ≠ 5) ∨ (k + 1 ≤ b ∧ b ≤ k + 3)) : TkFr k I (up2 I' b j v) := ⟨fun c hc => by rw [up2_off (by omega)]; exact h.1 c hc, by rw [up2_ne (by omega)]; exact h.2⟩
theorem TkFr.tx {T : mT} {F : mF} {k a N : Nat} {tt : Nat → Nat} {I I' : mI} (h : TkFr k I I') (hx : TxM T I F k a N tt) : TxM T I' F k a N tt := by
  obtain ⟨h1, h2, h3, h4, h5, h6, h7⟩ := hx
  exact ⟨h1, h2, h3, by rw [h.2]; exact h4, h5, h6, fun i hi => by rw [h.1 a h3]; exact h7 i hi⟩
theorem by_sm {tt : Nat → Nat} {N p : Nat} (ht : ∀ i, tt i ≤ 255) : ((97 : Int32) ≤ byN tt N p ∧ byN tt N p ≤ 122) ↔ (p < N ∧ isSm tt p = true) := by
  unfold byN
  by_cases q : p < N
  · rw [if_pos q, sm_iff (ht p)]; exact ⟨fun h => ⟨q, h⟩, fun h => h.2⟩
  · rw [if_neg q]; exact ⟨fun h => absurd h (by decide), fun h => absurd h.1 q⟩
theorem by_dg {tt : Nat → Nat} {N p : Nat} (ht : ∀ i, tt i ≤ 255) : ((48 : Int32) ≤ byN tt N p ∧ byN tt N p ≤ 57) ↔ (p < N ∧ isDg tt p = true) := by
  unfold byN
  by_cases q : p < N
  · rw [if_pos q, dg_iff (ht p)]; exact ⟨fun h => ⟨q, h⟩, fun h => h.2⟩
  · rw [if_neg q]; exact ⟨fun h => absurd h (by decide), fun h => absurd h.1 q⟩
theorem nI_ltx {x y : Int32} : ¬ x < y ↔ y ≤ x := Int32.not_lt
theorem x_isLetter {g : gG} {d : Nat} {T : mT} {n : Nat} {I : mI} {J : mJ} {F : mF} (x : Int32)  : Ct g mX10_isLetter (d + 0) [.int x] 0 0 T n I J F (pureQ T n I J F (some (.int (bi (97 ≤ x ∧ x ≤ 122))))) := by
  refine Ct.ofV (k := 0) (by decide) (Nat.le_of_ble_eq_true rfl) ?_
  show V g mX10_isLetter (d + 0) _ 0 0 0 [some (.int x)] [] T n I J F
  refine V.iload_n (pc := 0) dX10_isLetter_0 rfl ?_
  refine V.bipush (v := 97) (pc := 1) dX10_isLetter_1 (by decide) ?_
  refine V.icmp_lt 16 (pc := 3) dX10_isLetter_3 (by decide) (fun h3 => ?_) (fun h3 => ?_)
  · refine V.iconst (v := 0) (pc := 16) dX10_isLetter_16 (by decide) ?_
    exact V.zret (pc := 17) dX10_isLetter_17 rfl (by first | exact Or.inl rfl | exact Or.inr rfl | exact bi_or | assumption) ⟨by rw [bi_f (fun z => Int32.not_lt.mpr z.1 h3)], rfl, rfl, rfl, rfl, rfl⟩
  · refine V.iload_n (pc := 6) dX10_isLetter_6 rfl ?_
    refine V.bipush (v := 122) (pc := 7) dX10_isLetter_7 (by decide) ?_
    refine V.icmp_gt 16 (pc := 9) dX10_isLetter_9 (by decide) (fun h9 => ?_) (fun h9 => ?_)
    · refine V.iconst (v := 0) (pc := 16) dX10_isLetter_16 (by decide) ?_
      exact V.zret (pc := 17) dX10_isLetter_17 rfl (by first | exact Or.inl rfl | exact Or.inr rfl | exact bi_or | assumption) ⟨by rw [bi_f (fun z => Int32.not_lt.mpr z.2 h9)], rfl, rfl, rfl, rfl, rfl⟩
    · refine V.iconst (v := 1) (pc := 12) dX10_isLetter_12 (by decide) ?_
      refine V.goto 17 (pc := 13) dX10_isLetter_13 (by decide) ?_
      exact V.zret (pc := 17) dX10_isLetter_17 rfl (by first | exact Or.inl rfl | exact Or.inr rfl | exact bi_or | assumption) ⟨by rw [bi_t ⟨Int32.not_lt.mp h3, Int32.not_lt.mp h9⟩], rfl, rfl, rfl, rfl, rfl⟩
theorem x_isDigit {g : gG} {d : Nat} {T : mT} {n : Nat} {I : mI} {J : mJ} {F : mF} (x : Int32)  : Ct g mX10_isDigit (d + 0) [.int x] 0 0 T n I J F (pureQ T n I J F (some (.int (bi (48 ≤ x ∧ x ≤ 57))))) := by
  refine Ct.ofV (k := 0) (by decide) (Nat.le_of_ble_eq_true rfl) ?_
  show V g mX10_isDigit (d + 0) _ 0 0 0 [some (.int x)] [] T n I J F
  refine V.iload_n (pc := 0) dX10_isDigit_0 rfl ?_
  refine V.bipush (v := 48) (pc := 1) dX10_isDigit_1 (by decide) ?_
  refine V.icmp_lt 16 (pc := 3) dX10_isDigit_3 (by decide) (fun h3 => ?_) (fun h3 => ?_)
  · refine V.iconst (v := 0) (pc := 16) dX10_isDigit_16 (by decide) ?_
    exact V.zret (pc := 17) dX10_isDigit_17 rfl (by first | exact Or.inl rfl | exact Or.inr rfl | exact bi_or | assumption) ⟨by rw [bi_f (fun z => Int32.not_lt.mpr z.1 h3)], rfl, rfl, rfl, rfl, rfl⟩
  · refine V.iload_n (pc := 6) dX10_isDigit_6 rfl ?_
    refine V.bipush (v := 57) (pc := 7) dX10_isDigit_7 (by decide) ?_
    refine V.icmp_gt 16 (pc := 9) dX10_isDigit_9 (by decide) (fun h9 => ?_) (fun h9 => ?_)
    · refine V.iconst (v := 0) (pc := 16) dX10_isDigit_16 (by decide) ?_
      exact V.zret (pc := 17) dX10_isDigit_17 rfl (by first | exact Or.inl rfl | exact Or.inr rfl | exact bi_or | assumption) ⟨by rw [bi_f (fun z => Int32.not_lt.mpr z.2 h9)], rfl, rfl, rfl, rfl, rfl⟩
    · refine V.iconst (v := 1) (pc := 12) dX10_isDigit_12 (by decide) ?_
      refine V.goto 17 (pc := 13) dX10_isDigit_13 (by decide) ?_
      exact V.zret (pc := 17) dX10_isDigit_17 rfl (by first | exact Or.inl rfl | exact Or.inr rfl | exact bi_or | assumption) ⟨by rw [bi_t ⟨Int32.not_lt.mp h3, Int32.not_lt.mp h9⟩], rfl, rfl, rfl, rfl, rfl⟩
theorem x_byteAt {g : gG} {d : Nat} {T : mT} {n : Nat} {I : mI} {J : mJ} {F : mF} {k a N : Nat} {tt : Nat → Nat} {p : Nat} (x : Int32) (hTk : TkS T F k) (hx : TxM T I F k a N tt) (hp : x = nI p) (hp2 : p < 2 ^ 31) : Ct g mX10_byteAt (d + 0) [.ref k, .int x] 0 0 T n I J F (pureQ T n I J F (some (.int (byN tt N p)))) := by
  refine Ct.ofV (k := 0) (by decide) (Nat.le_of_ble_eq_true rfl) ?_
  show V g mX10_byteAt (d + 0) _ 0 0 0 [some (.ref k), some (.int x)] [] T n I J F
  subst hp
  have hTo := hTk.o
  obtain ⟨h1, h2, h3, h4, h5, h6, h7⟩ := hx
  refine V.aload_n (pc := 0) dX10_byteAt_0 rfl ?_
  refine V.getR (pc := 1) dX10_byteAt_1 fX10_25_9 rfl (by assumption) h1 ?_
  refine V.ifnull (pc := 4) dX10_byteAt_4 ?_
  refine V.iload_n (pc := 7) dX10_byteAt_7 rfl ?_
  refine V.if_lt 37 (pc := 8) dX10_byteAt_8 (by decide) (fun h8 => absurd h8 (nI_pos hp2)) (fun h8 => ?_)
  refine V.iload_n (pc := 11) dX10_byteAt_11 rfl ?_
  refine V.aload_n (pc := 12) dX10_byteAt_12 rfl ?_
  refine V.getI (pc := 13) dX10_byteAt_13 fX10_28_9 rfl hTk.o ?_
  rw [h4]
  refine V.icmp_ge 37 (pc := 16) dX10_byteAt_16 (by decide) (fun h16 => ?_) (fun h16 => ?_)
  · rw [nI_leI (by omega) (by omega)] at h16
    refine V.iconst (v := (-1)) (pc := 37) dX10_byteAt_37 (by decide) ?_
    exact V.iret (pc := 38) dX10_byteAt_38 rfl ⟨by unfold byN; rw [if_neg (by omega)], rfl, rfl, rfl, rfl, rfl⟩
  · rw [nI_leI (by omega) (by omega)] at h16
    refine V.iload_n (pc := 19) dX10_byteAt_19 rfl ?_
    refine V.aload_n (pc := 20) dX10_byteAt_20 rfl ?_
    refine V.getR (pc := 21) dX10_byteAt_21 fX10_25_9 rfl (by assumption) h1 ?_
    refine V.alen (pc := 24) dX10_byteAt_24 (by assumption) ty_i (by rfl) ?_
    refine V.icmp_ge 37 (pc := 25) dX10_byteAt_25 (by decide) (fun h25 => absurd (show nI 400 ≤ nI p from h25) (nI_ge (by omega) (by omega))) (fun h25 => ?_)
    refine V.aload_n (pc := 28) dX10_byteAt_28 rfl ?_
    refine V.getR (pc := 29) dX10_byteAt_29 fX10_25_9 rfl (by assumption) h1 ?_
    refine V.iload_n (pc := 32) dX10_byteAt_32 rfl ?_
    refine V.iald' (k := p) (pc := 33) dX10_byteAt_33 (by assumption) rfl (by omega) (by decide) ?_
    refine V.goto 38 (pc := 34) dX10_byteAt_34 (by decide) ?_
    exact V.iret (pc := 38) dX10_byteAt_38 rfl ⟨by unfold byN; rw [if_pos (by omega), h7 p (by omega)], rfl, rfl, rfl, rfl, rfl⟩
theorem x_add {g : gG} {d : Nat} {T : mT} {n : Nat} {I : mI} {J : mJ} {F : mF} {k c : Nat} (x y z : Int32) (hTk : TkS T F k) (hc : c ≤ 400) (h3 : I k 3 = nI c) : Ct g mX10_add (d + 0) [.ref k, .int x, .int y, .int z] 0 0 T n I J F (fun r' T' n' I' J' F' => r' = none ∧ T' = T ∧ n' = n ∧ I' = up2 (up2 (up2 (up2 I (k + 1) c x) (k + 3) c y) (k + 2) c z) k 3 (nI (c + 1)) ∧ J' = J ∧ F' = F) := by
  refine Ct.ofV (k := 0) (by decide) (Nat.le_of_ble_eq_true rfl) ?_
  show V g mX10_add (d + 0) _ 0 0 0 [some (.ref k), some (.int x), some (.int y), some (.int z)] [] T n I J F
  refine V.aload_n (pc := 0) dX10_add_0 rfl ?_
  refine V.getI (pc := 1) dX10_add_1 fX10_21_9 rfl hTk.o ?_
  rw [h3]
  refine V.if_lt 57 (pc := 4) dX10_add_4 (by decide) (fun h4 => absurd h4 (nI_pos (by omega))) (fun h4 => ?_)
  refine V.aload_n (pc := 7) dX10_add_7 rfl ?_
  refine V.getI (pc := 8) dX10_add_8 fX10_21_9 rfl hTk.o ?_
  rw [h3]
  refine V.sipush (v := 400) (pc := 11) dX10_add_11 (by decide) ?_
  refine V.icmp_gt 57 (pc := 14) dX10_add_14 (by decide) (fun h14 => absurd (show nI 400 < nI c from h14) (nI_nlt hc (by omega))) (fun h14 => ?_)
  refine V.aload_n (pc := 17) dX10_add_17 rfl ?_
  refine V.getR (pc := 18) dX10_add_18 fX10_9_9 rfl hTk.o hTk.f0 ?_
  refine V.aload_n (pc := 21) dX10_add_21 rfl ?_
  refine V.getI (pc := 22) dX10_add_22 fX10_21_9 rfl hTk.o ?_
  rw [h3]
  refine V.iload_n (pc := 25) dX10_add_25 rfl ?_
  refine V.iast' (k := c) (pc := 26) dX10_add_26 hTk.t0 rfl (by omega) (by decide) ?_
  refine V.aload_n (pc := 27) dX10_add_27 rfl ?_
  refine V.getR (pc := 28) dX10_add_28 fX10_18_9 rfl hTk.o hTk.f2 ?_
  refine V.aload_n (pc := 31) dX10_add_31 rfl ?_
  refine V.getI (pc := 32) dX10_add_32 fX10_21_9 rfl hTk.o ?_
  rw [up2_off (by omega), h3]
  refine V.iload_n (pc := 35) dX10_add_35 rfl ?_
  refine V.iast' (k := c) (pc := 36) dX10_add_36 hTk.t2 rfl (by omega) (by decide) ?_
  refine V.aload_n (pc := 37) dX10_add_37 rfl ?_
  refine V.getR (pc := 38) dX10_add_38 fX10_15_9 rfl hTk.o hTk.f1 ?_
  refine V.aload_n (pc := 41) dX10_add_41 rfl ?_
  refine V.getI (pc := 42) dX10_add_42 fX10_21_9 rfl hTk.o ?_
  rw [up2_off (by omega), up2_off (by omega), h3]
  refine V.iload_n (pc := 45) dX10_add_45 rfl ?_
  refine V.iast' (k := c) (pc := 46) dX10_add_46 hTk.t1 rfl (by omega) (by decide) ?_
  refine V.aload_n (pc := 47) dX10_add_47 rfl ?_
  refine V.dup (pc := 48) dX10_add_48 rfl ?_
  refine V.getI (pc := 49) dX10_add_49 fX10_21_9 rfl hTk.o ?_
  rw [up2_off (by omega), up2_off (by omega), up2_off (by omega), h3]
  refine V.iconst (v := 1) (pc := 52) dX10_add_52 (by decide) ?_
  refine V.iadd (pc := 53) dX10_add_53 ?_
  rw [nI_1]
  refine V.putI (pc := 54) dX10_add_54 fX10_21_9 (fun r h => by cases h; exact Or.inl rfl) rfl hTk.o ?_
  exact V.vret (pc := 57) dX10_add_57 rfl ⟨rfl, rfl, rfl, rfl, rfl, rfl⟩
theorem st_ch : ∀ i, i < 10 → ∀ k, k < stL.getD i 0 → (stN.getD i []).getD k 0 ≤ 255 := by decide +kernel
theorem l_isWord {g : gG} {d : Nat} {T : mT} {n : Nat} {I : mI} {J : mJ} {F : mF} {Q : mQ} {k a N : Nat} {tt : Nat → Nat} {f i : Nat} {aK aV : Nat → Nat} (hTk : TkS T F k) (hx : TxM T I F k a N tt) (hst : StrG g aK aV) (hi : i < 10) (hf : f + stL.getD i 0 ≤ N) (kY : (∀ j, j < stL.getD i 0 → tt (f + j) = (stN.getD i []).getD j 0) → Q (some (.int 1)) T n I J F) (kN : ¬ (∀ j, j < stL.getD i 0 → tt (f + j) = (stN.getD i []).getD j 0) → Q (some (.int 0)) T n I J F) : ∀ (t j : Nat), j + t = stL.getD i 0 → (∀ j', j' < j → tt (f + j') = (stN.getD i []).getD j' 0) → V g mX10_isWord (d + 4) Q 0 0 17 [some (.ref k), some (.ref (aK i)), some (.int (nI f)), some (.int (nI j))] [] T n I J F := by
  have hl7 := st_lens i hi
  have hN4 : N ≤ 400 := hx.2.2.2.2.1
  intro t
  induction t with
  | zero =>
    intro j hj hp
    refine V.iload_n (pc := 17) dX10_isWord_17 rfl ?_
    refine V.aload_n (pc := 18) dX10_isWord_18 rfl ?_
    refine V.pW (as := []) (pc := 19) dX10_isWord_19 ljX10_91 bJ0_length_8abf5 nJ0_length_8abf5 eJ0_length_8abf5 (fun _ => hst.o hi) (j_length (d := d + 2) hst hi) (by omega) rfl (Nat.le_of_ble_eq_true rfl) ?_
    refine V.icmp_ge 48 (pc := 22) dX10_isWord_22 (by decide) (fun h22 => ?_) (fun h22 => absurd (nI_le (by omega) (by omega)) h22)
    refine V.iconst (v := 1) (pc := 48) dX10_isWord_48 (by decide) ?_
    exact V.zret (pc := 49) dX10_isWord_49 rfl (by first | exact Or.inl rfl | exact Or.inr rfl | exact bi_or | assumption) (kY (fun j2 h2 => hp j2 (by omega)))
  | succ t ih =>
    intro j hj hp
    have hch : (stN.getD i []).getD j 0 ≤ 255 := st_ch i hi j (by omega)
    have ht2 := hx.2.2.2.2.2.1 (f + j)
    refine V.iload_n (pc := 17) dX10_isWord_17 rfl ?_
    refine V.aload_n (pc := 18) dX10_isWord_18 rfl ?_
    refine V.pW (as := []) (pc := 19) dX10_isWord_19 ljX10_91 bJ0_length_8abf5 nJ0_length_8abf5 eJ0_length_8abf5 (fun _ => hst.o hi) (j_length (d := d + 2) hst hi) (by omega) rfl (Nat.le_of_ble_eq_true rfl) ?_
    refine V.icmp_ge 48 (pc := 22) dX10_isWord_22 (by decide) (fun h22 => absurd h22 (nI_ge (by omega) (by omega))) (fun h22 => ?_)
    refine V.aload_n (pc := 25) dX10_isWord_25 rfl ?_
    refine V.iload_n (pc := 26) dX10_isWord_26 rfl ?_
    refine V.iload_n (pc := 27) dX10_isWord_27 rfl ?_
    refine V.iadd (pc := 28) dX10_isWord_28 ?_
    rw [nI_add]
    refine V.pV (as := [_]) (pc := 29) dX10_isWord_29 lX10_41 bX10_byteAt nX10_byteAt (ci := 9) rfl eX10_byteAt hTk.o (x_byteAt (d := d + 3) (a := a) (N := N) (tt := tt) (p := f + j) _ hTk hx rfl (by omega)) (by omega) rfl (Nat.le_of_ble_eq_true rfl) ?_
    rw [show byN tt N (f + j) = nI (tt (f + j)) from if_pos (by omega)]
    refine V.aload_n (pc := 32) dX10_isWord_32 rfl ?_
    refine V.iload_n (pc := 33) dX10_isWord_33 rfl ?_
    refine V.pW (as := [_]) (pc := 34) dX10_isWord_34 ljX10_96 bJ0_charAt_5068e nJ0_charAt_5068e eJ0_charAt_5068e (fun _ => hst.o hi) (j_charAt (d := d + 0) (k := j) hst hi (by omega)) (by omega) rfl (Nat.le_of_ble_eq_true rfl) ?_
    refine V.icmp_eq 42 (pc := 37) dX10_isWord_37 (by decide) (fun h37 => ?_) (fun h37 => ?_)
    · rw [nI_eq (by omega) (by omega)] at h37
      refine V.iinc1 (pc := 42) dX10_isWord_42 (by decide) rfl (st1_3 rfl) ?_
      refine V.goto 17 (pc := 45) dX10_isWord_45 (by decide) ?_
      rw [nI_1]
      exact ih (j + 1) (by omega) (fun j2 h2 => by by_cases z : j2 = j; rw [z]; exact h37; exact hp j2 (by omega))
    · rw [nI_eq (by omega) (by omega)] at h37
      refine V.iconst (v := 0) (pc := 40) dX10_isWord_40 (by decide) ?_
      exact V.zret (pc := 41) dX10_isWord_41 rfl (by first | exact Or.inl rfl | exact Or.inr rfl | exact bi_or | assumption) (kN (fun z => h37 (z j (by omega))))

theorem x_isWord {g : gG} {d : Nat} {T : mT} {n : Nat} {I : mI} {J : mJ} {F : mF} {k a N : Nat} {tt : Nat → Nat} {f p i : Nat} {aK aV : Nat → Nat} (x : Int32) (hTk : TkS T F k) (hx : TxM T I F k a N tt) (hst : StrG g aK aV) (hi : i < 10) (h6 : I k 6 = nI p) (hfp : f ≤ p) (hpN : p ≤ N) (hxf : x = nI f) : Ct g mX10_isWord (d + 4) [.ref k, .ref (aK i), .int x] 0 0 T n I J F (pureQ T n I J F (some (.int (bi (p - f = stL.getD i 0 ∧ ∀ j, j < stL.getD i 0 → tt (f + j) = (stN.getD i []).getD j 0))))) := by
  refine Ct.ofV (k := 1) (by decide) (Nat.le_of_ble_eq_true rfl) ?_
  show V g mX10_isWord (d + 4) _ 0 0 0 [some (.ref k), some (.ref (aK i)), some (.int x), none] [] T n I J F
  subst hxf
  have hl7 := st_lens i hi
  have hN4 : N ≤ 400 := hx.2.2.2.2.1
  refine V.aload_n (pc := 0) dX10_isWord_0 rfl ?_
  refine V.getI (pc := 1) dX10_isWord_1 fX10_31_9 rfl hTk.o ?_
  rw [h6]
  refine V.iload_n (pc := 4) dX10_isWord_4 rfl ?_
  refine V.isub (pc := 5) dX10_isWord_5 ?_
  rw [pk_sub hfp]
  refine V.aload_n (pc := 6) dX10_isWord_6 rfl ?_
  refine V.pW (as := []) (pc := 7) dX10_isWord_7 ljX10_91 bJ0_length_8abf5 nJ0_length_8abf5 eJ0_length_8abf5 (fun _ => hst.o hi) (j_length (d := d + 2) hst hi) (by omega) rfl (Nat.le_of_ble_eq_true rfl) ?_
  refine V.icmp_eq 15 (pc := 10) dX10_isWord_10 (by decide) (fun h10 => ?_) (fun h10 => ?_)
  · rw [nI_eq (by omega) (by omega)] at h10
    refine V.iconst (v := 0) (pc := 15) dX10_isWord_15 (by decide) ?_
    refine V.isn (pc := 16) dX10_isWord_16 (by decide) (st1_3 rfl) ?_
    exact l_isWord hTk hx hst hi (by omega) (fun z => ⟨by rw [bi_t ⟨h10, z⟩], rfl, rfl, rfl, rfl, rfl⟩) (fun z => ⟨by rw [bi_f (fun w => z w.2)], rfl, rfl, rfl, rfl, rfl⟩) _ 0 (Nat.zero_add _) (fun j hj => absurd hj (Nat.not_lt_zero j))
  · rw [nI_eq (by omega) (by omega)] at h10
    refine V.iconst (v := 0) (pc := 13) dX10_isWord_13 (by decide) ?_
    exact V.zret (pc := 14) dX10_isWord_14 rfl (by first | exact Or.inl rfl | exact Or.inr rfl | exact bi_or | assumption) ⟨by rw [bi_f (fun z => h10 z.1)], rfl, rfl, rfl, rfl, rfl⟩
theorem x_wordKind {g : gG} {d : Nat} {T : mT} {n : Nat} {I : mI} {J : mJ} {F : mF} {k a N : Nat} {tt : Nat → Nat} {f p : Nat} {aK aV : Nat → Nat} (x : Int32) (hTk : TkS T F k) (hx : TxM T I F k a N tt) (hst : StrG g aK aV) (h6 : I k 6 = nI p) (hfp : f ≤ p) (hpN : p ≤ N) (hxf : x = nI f) : Ct g mX10_wordKind (d + 5) [.ref k, .int x] 0 0 T n I J F (pureQ T n I J F (some (.int (iI (wkd (wlr tt f (p - f))))))) := by
  refine Ct.ofV (k := 0) (by decide) (Nat.le_of_ble_eq_true rfl) ?_
  show V g mX10_wordKind (d + 5) _ 0 0 0 [some (.ref k), some (.int x)] [] T n I J F
  refine V.aload_n (pc := 0) dX10_wordKind_0 rfl ?_
  refine V.ldcS (fun G => StrG.r67 G hst) (pc := 1) dX10_wordKind_1 ?_
  refine V.iload_n (pc := 3) dX10_wordKind_3 rfl ?_
  refine V.pV (as := [_, _]) (pc := 4) dX10_wordKind_4 lX10_69 bX10_isWord nX10_isWord (ci := 9) rfl eX10_isWord hTk.o (x_isWord (d := d + 0) (a := a) (N := N) (tt := tt) (f := f) (p := p) (i := 0) _ hTk hx hst (by decide) h6 hfp hpN hxf) (by omega) rfl (Nat.le_of_ble_eq_true rfl) ?_
  rw [bi_c (wl_0 (t := tt) (f := f) (m := p - f))]
  refine V.if_eq 14 (pc := 7) dX10_wordKind_7 (by decide) (fun h7 => ?_) (fun h7 => ?_)
  · have n0 := bi_eq.mp h7
    refine V.aload_n (pc := 14) dX10_wordKind_14 rfl ?_
    refine V.ldcS (fun G => StrG.r73 G hst) (pc := 15) dX10_wordKind_15 ?_
    refine V.iload_n (pc := 17) dX10_wordKind_17 rfl ?_
    refine V.pV (as := [_, _]) (pc := 18) dX10_wordKind_18 lX10_69 bX10_isWord nX10_isWord (ci := 9) rfl eX10_isWord hTk.o (x_isWord (d := d + 0) (a := a) (N := N) (tt := tt) (f := f) (p := p) (i := 1) _ hTk hx hst (by decide) h6 hfp hpN hxf) (by omega) rfl (Nat.le_of_ble_eq_true rfl) ?_
    rw [bi_c (wl_1 (t := tt) (f := f) (m := p - f))]
    refine V.if_eq 28 (pc := 21) dX10_wordKind_21 (by decide) (fun h21 => ?_) (fun h21 => ?_)
    · have n1 := bi_eq.mp h21
      refine V.aload_n (pc := 28) dX10_wordKind_28 rfl ?_
      refine V.ldcS (fun G => StrG.r75 G hst) (pc := 29) dX10_wordKind_29 ?_
      refine V.iload_n (pc := 31) dX10_wordKind_31 rfl ?_
      refine V.pV (as := [_, _]) (pc := 32) dX10_wordKind_32 lX10_69 bX10_isWord nX10_isWord (ci := 9) rfl eX10_isWord hTk.o (x_isWord (d := d + 0) (a := a) (N := N) (tt := tt) (f := f) (p := p) (i := 2) _ hTk hx hst (by decide) h6 hfp hpN hxf) (by omega) rfl (Nat.le_of_ble_eq_true rfl) ?_
      rw [bi_c (wl_2 (t := tt) (f := f) (m := p - f))]
      refine V.if_eq 42 (pc := 35) dX10_wordKind_35 (by decide) (fun h35 => ?_) (fun h35 => ?_)
      · have n2 := bi_eq.mp h35
        refine V.aload_n (pc := 42) dX10_wordKind_42 rfl ?_
        refine V.ldcS (fun G => StrG.r77 G hst) (pc := 43) dX10_wordKind_43 ?_
        refine V.iload_n (pc := 45) dX10_wordKind_45 rfl ?_
        refine V.pV (as := [_, _]) (pc := 46) dX10_wordKind_46 lX10_69 bX10_isWord nX10_isWord (ci := 9) rfl eX10_isWord hTk.o (x_isWord (d := d + 0) (a := a) (N := N) (tt := tt) (f := f) (p := p) (i := 3) _ hTk hx hst (by decide) h6 hfp hpN hxf) (by omega) rfl (Nat.le_of_ble_eq_true rfl) ?_
        rw [bi_c (wl_3 (t := tt) (f := f) (m := p - f))]
        refine V.if_eq 56 (pc := 49) dX10_wordKind_49 (by decide) (fun h49 => ?_) (fun h49 => ?_)
        · have n3 := bi_eq.mp h49
          refine V.aload_n (pc := 56) dX10_wordKind_56 rfl ?_
          refine V.ldcS (fun G => StrG.r79 G hst) (pc := 57) dX10_wordKind_57 ?_
          refine V.iload_n (pc := 59) dX10_wordKind_59 rfl ?_
          refine V.pV (as := [_, _]) (pc := 60) dX10_wordKind_60 lX10_69 bX10_isWord nX10_isWord (ci := 9) rfl eX10_isWord hTk.o (x_isWord (d := d + 0) (a := a) (N := N) (tt := tt) (f := f) (p := p) (i := 4) _ hTk hx hst (by decide) h6 hfp hpN hxf) (by omega) rfl (Nat.le_of_ble_eq_true rfl) ?_
          rw [bi_c (wl_4 (t := tt) (f := f) (m := p - f))]
          refine V.if_eq 70 (pc := 63) dX10_wordKind_63 (by decide) (fun h63 => ?_) (fun h63 => ?_)
          · have n4 := bi_eq.mp h63
            refine V.aload_n (pc := 70) dX10_wordKind_70 rfl ?_
            refine V.ldcS (fun G => StrG.r81 G hst) (pc := 71) dX10_wordKind_71 ?_
            refine V.iload_n (pc := 73) dX10_wordKind_73 rfl ?_
            refine V.pV (as := [_, _]) (pc := 74) dX10_wordKind_74 lX10_69 bX10_isWord nX10_isWord (ci := 9) rfl eX10_isWord hTk.o (x_isWord (d := d + 0) (a := a) (N := N) (tt := tt) (f := f) (p := p) (i := 5) _ hTk hx hst (by decide) h6 hfp hpN hxf) (by omega) rfl (Nat.le_of_ble_eq_true rfl) ?_
            rw [bi_c (wl_5 (t := tt) (f := f) (m := p - f))]
            refine V.if_eq 84 (pc := 77) dX10_wordKind_77 (by decide) (fun h77 => ?_) (fun h77 => ?_)
            · have n5 := bi_eq.mp h77
              refine V.aload_n (pc := 84) dX10_wordKind_84 rfl ?_
              refine V.ldcS (fun G => StrG.r83 G hst) (pc := 85) dX10_wordKind_85 ?_
              refine V.iload_n (pc := 87) dX10_wordKind_87 rfl ?_
              refine V.pV (as := [_, _]) (pc := 88) dX10_wordKind_88 lX10_69 bX10_isWord nX10_isWord (ci := 9) rfl eX10_isWord hTk.o (x_isWord (d := d + 0) (a := a) (N := N) (tt := tt) (f := f) (p := p) (i := 6) _ hTk hx hst (by decide) h6 hfp hpN hxf) (by omega) rfl (Nat.le_of_ble_eq_true rfl) ?_
              rw [bi_c (wl_6 (t := tt) (f := f) (m := p - f))]
              refine V.if_eq 98 (pc := 91) dX10_wordKind_91 (by decide) (fun h91 => ?_) (fun h91 => ?_)
              · have n6 := bi_eq.mp h91
                refine V.aload_n (pc := 98) dX10_wordKind_98 rfl ?_
                refine V.ldcS (fun G => StrG.r85 G hst) (pc := 99) dX10_wordKind_99 ?_
                refine V.iload_n (pc := 101) dX10_wordKind_101 rfl ?_
                refine V.pV (as := [_, _]) (pc := 102) dX10_wordKind_102 lX10_69 bX10_isWord nX10_isWord (ci := 9) rfl eX10_isWord hTk.o (x_isWord (d := d + 0) (a := a) (N := N) (tt := tt) (f := f) (p := p) (i := 7) _ hTk hx hst (by decide) h6 hfp hpN hxf) (by omega) rfl (Nat.le_of_ble_eq_true rfl) ?_
                rw [bi_c (wl_7 (t := tt) (f := f) (m := p - f))]
                refine V.if_eq 112 (pc := 105) dX10_wordKind_105 (by decide) (fun h105 => ?_) (fun h105 => ?_)
                · have n7 := bi_eq.mp h105
                  refine V.aload_n (pc := 112) dX10_wordKind_112 rfl ?_
                  refine V.ldcS (fun G => StrG.r87 G hst) (pc := 113) dX10_wordKind_113 ?_
                  refine V.iload_n (pc := 115) dX10_wordKind_115 rfl ?_
                  refine V.pV (as := [_, _]) (pc := 116) dX10_wordKind_116 lX10_69 bX10_isWord nX10_isWord (ci := 9) rfl eX10_isWord hTk.o (x_isWord (d := d + 0) (a := a) (N := N) (tt := tt) (f := f) (p := p) (i := 8) _ hTk hx hst (by decide) h6 hfp hpN hxf) (by omega) rfl (Nat.le_of_ble_eq_true rfl) ?_
                  rw [bi_c (wl_8 (t := tt) (f := f) (m := p - f))]
                  refine V.if_eq 126 (pc := 119) dX10_wordKind_119 (by decide) (fun h119 => ?_) (fun h119 => ?_)
                  · have n8 := bi_eq.mp h119
                    refine V.aload_n (pc := 126) dX10_wordKind_126 rfl ?_
                    refine V.ldcS (fun G => StrG.r89 G hst) (pc := 127) dX10_wordKind_127 ?_
                    refine V.iload_n (pc := 129) dX10_wordKind_129 rfl ?_
                    refine V.pV (as := [_, _]) (pc := 130) dX10_wordKind_130 lX10_69 bX10_isWord nX10_isWord (ci := 9) rfl eX10_isWord hTk.o (x_isWord (d := d + 0) (a := a) (N := N) (tt := tt) (f := f) (p := p) (i := 9) _ hTk hx hst (by decide) h6 hfp hpN hxf) (by omega) rfl (Nat.le_of_ble_eq_true rfl) ?_
                    rw [bi_c (wl_9 (t := tt) (f := f) (m := p - f))]
                    refine V.if_eq 140 (pc := 133) dX10_wordKind_133 (by decide) (fun h133 => ?_) (fun h133 => ?_)
                    · have n9 := bi_eq.mp h133
                      refine V.sipush (v := 256) (pc := 140) dX10_wordKind_140 (by decide) ?_
                      exact V.iret (pc := 143) dX10_wordKind_143 rfl ⟨by unfold wkd; rw [if_neg n0, if_neg n1, if_neg n2, if_neg n3, if_neg n4, if_neg n5, if_neg n6, if_neg n7, if_neg n8, if_neg n9]; rfl, rfl, rfl, rfl, rfl, rfl⟩
                    · have n9 := bi_ne.mp h133
                      refine V.sipush (v := 305) (pc := 136) dX10_wordKind_136 (by decide) ?_
                      exact V.iret (pc := 139) dX10_wordKind_139 rfl ⟨by unfold wkd; rw [if_neg n0, if_neg n1, if_neg n2, if_neg n3, if_neg n4, if_neg n5, if_neg n6, if_neg n7, if_neg n8, if_pos n9]; rfl, rfl, rfl, rfl, rfl, rfl⟩
                  · have n8 := bi_ne.mp h119
                    refine V.sipush (v := 304) (pc := 122) dX10_wordKind_122 (by decide) ?_
                    exact V.iret (pc := 125) dX10_wordKind_125 rfl ⟨by unfold wkd; rw [if_neg n0, if_neg n1, if_neg n2, if_neg n3, if_neg n4, if_neg n5, if_neg n6, if_neg n7, if_pos n8]; rfl, rfl, rfl, rfl, rfl, rfl⟩
                · have n7 := bi_ne.mp h105
                  refine V.sipush (v := 303) (pc := 108) dX10_wordKind_108 (by decide) ?_
                  exact V.iret (pc := 111) dX10_wordKind_111 rfl ⟨by unfold wkd; rw [if_neg n0, if_neg n1, if_neg n2, if_neg n3, if_neg n4, if_neg n5, if_neg n6, if_pos n7]; rfl, rfl, rfl, rfl, rfl, rfl⟩
              · have n6 := bi_ne.mp h91
                refine V.sipush (v := 302) (pc := 94) dX10_wordKind_94 (by decide) ?_
                exact V.iret (pc := 97) dX10_wordKind_97 rfl ⟨by unfold wkd; rw [if_neg n0, if_neg n1, if_neg n2, if_neg n3, if_neg n4, if_neg n5, if_pos n6]; rfl, rfl, rfl, rfl, rfl, rfl⟩
            · have n5 := bi_ne.mp h77
              refine V.sipush (v := 301) (pc := 80) dX10_wordKind_80 (by decide) ?_
              exact V.iret (pc := 83) dX10_wordKind_83 rfl ⟨by unfold wkd; rw [if_neg n0, if_neg n1, if_neg n2, if_neg n3, if_neg n4, if_pos n5]; rfl, rfl, rfl, rfl, rfl, rfl⟩
          · have n4 := bi_ne.mp h63
            refine V.sipush (v := 261) (pc := 66) dX10_wordKind_66 (by decide) ?_
            exact V.iret (pc := 69) dX10_wordKind_69 rfl ⟨by unfold wkd; rw [if_neg n0, if_neg n1, if_neg n2, if_neg n3, if_pos n4]; rfl, rfl, rfl, rfl, rfl, rfl⟩
        · have n3 := bi_ne.mp h49
          refine V.sipush (v := 260) (pc := 52) dX10_wordKind_52 (by decide) ?_
          exact V.iret (pc := 55) dX10_wordKind_55 rfl ⟨by unfold wkd; rw [if_neg n0, if_neg n1, if_neg n2, if_pos n3]; rfl, rfl, rfl, rfl, rfl, rfl⟩
      · have n2 := bi_ne.mp h35
        refine V.sipush (v := 259) (pc := 38) dX10_wordKind_38 (by decide) ?_
        exact V.iret (pc := 41) dX10_wordKind_41 rfl ⟨by unfold wkd; rw [if_neg n0, if_neg n1, if_pos n2]; rfl, rfl, rfl, rfl, rfl, rfl⟩
    · have n1 := bi_ne.mp h21
      refine V.sipush (v := 258) (pc := 24) dX10_wordKind_24 (by decide) ?_
      exact V.iret (pc := 27) dX10_wordKind_27 rfl ⟨by unfold wkd; rw [if_neg n0, if_pos n1]; rfl, rfl, rfl, rfl, rfl, rfl⟩
  · have n0 := bi_ne.mp h7
    refine V.sipush (v := 257) (pc := 10) dX10_wordKind_10 (by decide) ?_
    exact V.iret (pc := 13) dX10_wordKind_13 rfl ⟨by unfold wkd; rw [if_pos n0]; rfl, rfl, rfl, rfl, rfl, rfl⟩
