-- one step of the class's reckoning
def so32 (b : Bool) : Int32 := if b = true then 1 else 0
set_option maxHeartbeats 1000000 in
theorem h_num {g : gG} {d : Nat} {T : mT} {n : Nat} {I' : mI} {J' : mJ} {F : mF} {Q : mQ} {k a c s lc ls E p v : Nat} {vi : Int32} {b dd h sp : Nat} {y : Hd} (hAk : AkS T F k) (hLw : LaS T F a c s lc ls) (hl : lc ≤ 400) (hpE : p < E) (hE : E ≤ lc) (hst : I' c p = nI v) (hv : v < 1048576) (hq : v % 32 ≤ 5) (h4 : F k 4 = some b) (hN : HN T F b) (hW : HdX I' J' b y) (hY : HdOK y) (h5 : I' k 5 = nI dd) (h3 : I' k 3 = nI h) (hd : dd ≤ 1000000) (hh : h < 6) (h1 : I' k 1 = nI sp) (hs : sp < 64) (kk : V g mX0_holds (d + 3) Q 0 0 25 [some (.ref k), some (.ref a), some (.int vi), some (.int (nI E)), some (.int (nI (p + 1))), none, none, none] [] T n (up2 I' k 1 (nI (sp + 1))) (up2 J' (k + 1) sp (lI (if v % 32 = 0 then ((v / 32 : Nat) : Int) else envN h y dd (v % 32)))) F) : V g mX0_holds (d + 3) Q 0 0 25 [some (.ref k), some (.ref a), some (.int vi), some (.int (nI E)), some (.int (nI (p))), none, none, none] [] T n I' J' F := by
  have hTa := hLw.o
  refine V.iload (pc := 25) dX0_holds_25 rfl ?_
  refine V.iload_n (pc := 27) dX0_holds_27 rfl ?_
  refine V.icmp_ge 166 (pc := 28) dX0_holds_28 (by decide) (fun h28 => absurd h28 (nI_ge (by omega) (by omega))) (fun h28 => ?_)
  refine V.aload_n (pc := 31) dX0_holds_31 rfl ?_
  refine V.iload (pc := 32) dX0_holds_32 rfl ?_
  refine V.pV (as := [_]) (pc := 34) dX0_holds_34 lX0_48 bX2_stepAt nX2_stepAt (ci := 2) rfl eX2_stepAt (by assumption) (x_lstep (d := d + 2) (i := p) _ hLw rfl (by omega) hl) (by omega) rfl (Nat.le_of_ble_eq_true rfl) ?_
  rw [hst]
  refine V.is (pc := 37) dX0_holds_37 (by decide) (st1_5 rfl) ?_
  refine V.iload (pc := 39) dX0_holds_39 rfl ?_
  refine V.bipush (v := 31) (pc := 41) dX0_holds_41 (by decide) ?_
  refine V.iand (pc := 43) dX0_holds_43 ?_
  rw [nI_and5 (by omega)]
  refine V.is (pc := 44) dX0_holds_44 (by decide) (st1_6 rfl) ?_
  refine V.iload (pc := 46) dX0_holds_46 rfl ?_
  refine V.iconst (v := 5) (pc := 48) dX0_holds_48 (by decide) ?_
  refine V.ishr (pc := 49) dX0_holds_49 ?_
  rw [nI_shr5 (by omega)]
  refine V.is (pc := 50) dX0_holds_50 (by decide) (st1_7 rfl) ?_
  refine V.iload (pc := 52) dX0_holds_52 rfl ?_
  refine V.bipush (v := 16) (pc := 54) dX0_holds_54 (by decide) ?_
  refine V.icmp_eq 66 (pc := 56) dX0_holds_56 (by decide) (fun h56 => absurd h56 (by rw [show (16 : Int32) = nI 16 from rfl, nI_eq (by omega) (by omega)]; omega)) (fun h56 => ?_)
  refine V.iload (pc := 59) dX0_holds_59 rfl ?_
  refine V.bipush (v := 15) (pc := 61) dX0_holds_61 (by decide) ?_
  refine V.icmp_ne 99 (pc := 63) dX0_holds_63 (by decide) (fun h63 => ?_) (fun h63 => absurd h63 (by rw [show (15 : Int32) = nI 15 from rfl, nI_eq (by omega) (by omega)]; omega))
  refine V.iload (pc := 99) dX0_holds_99 rfl ?_
  refine V.bipush (v := 14) (pc := 101) dX0_holds_101 (by decide) ?_
  refine V.icmp_ne 125 (pc := 103) dX0_holds_103 (by decide) (fun h103 => ?_) (fun h103 => absurd h103 (by rw [show (14 : Int32) = nI 14 from rfl, nI_eq (by omega) (by omega)]; omega))
  refine V.iload (pc := 125) dX0_holds_125 rfl ?_
  refine V.bipush (v := 6) (pc := 127) dX0_holds_127 (by decide) ?_
  refine V.icmp_lt 143 (pc := 129) dX0_holds_129 (by decide) (fun h129 => ?_) (fun h129 => absurd (by rw [lt32, nI_toInt (by omega)]; show _ < (6 : Int); omega) h129)
  refine V.aload_n (pc := 143) dX0_holds_143 rfl ?_
  refine V.aload_n (pc := 144) dX0_holds_144 rfl ?_
  refine V.iload (pc := 145) dX0_holds_145 rfl ?_
  refine V.iload (pc := 147) dX0_holds_147 rfl ?_
  refine V.pV (as := [_, _]) (pc := 149) dX0_holds_149 lX0_61 bX0_numberFor nX0_numberFor (ci := 0) rfl eX0_numberFor hAk.o (x_number (d := d + 0) (q := v % 32) (dd := dd) (h := h) (y := y) _ _ hAk h4 hN hW hY h5 h3 hd hh rfl hq) (by omega) rfl (Nat.le_of_ble_eq_true rfl) ?_
  rw [nI_toInt (by omega)]
  refine V.invV0 (as := [_]) (pc := 152) dX0_holds_152 lX0_65 bX0_openNumber nX0_openNumber (ci := 0) rfl eX0_openNumber hAk.o (x_open (d := d + 2) (s := sp) _ hAk h1 hs) (by omega) rfl (Nat.le_of_ble_eq_true rfl) ?_
  rintro _ _ _ _ _ _ ⟨rfl, rfl, rfl, rfl, rfl, rfl⟩
  refine V.if_ne 160 (pc := 155) dX0_holds_155 (by decide) (fun h155 => ?_) (fun h155 => absurd h155 (by decide))
  refine V.iinc1 (pc := 160) dX0_holds_160 (by decide) rfl (st1_4 rfl) ?_
  refine V.goto 25 (pc := 163) dX0_holds_163 (by decide) ?_
  refine V.weak wk_5 ?_
  refine V.weak wk_6 ?_
  refine V.weak wk_7 ?_
  rw [nI_1]
  exact kk
set_option maxHeartbeats 1000000 in
theorem h_cmp {g : gG} {d : Nat} {T : mT} {n : Nat} {I' : mI} {J' : mJ} {F : mF} {Q : mQ} {k a c s lc ls E p v : Nat} {vi : Int32} {sp : Nat} {x y : Int} (hAk : AkS T F k) (hLw : LaS T F a c s lc ls) (hl : lc ≤ 400) (hpE : p < E) (hE : E ≤ lc) (hst : I' c p = nI v) (hv : v < 1048576) (hq : 6 ≤ v % 32) (hq2 : v % 32 ≤ 13) (h1 : I' k 1 = nI (sp + 2)) (hs : sp + 2 ≤ 64) (hA : J' (k + 1) sp = lI x) (hB : J' (k + 1) (sp + 1) = lI y) (ha : Bd x) (hb : Bd y) (h11 : 11 ≤ v % 32) (kk : ∀ I2 : mI, (∀ c, c ≠ k → I2 c = I' c) → (∀ t, t ≠ 1 → t ≠ 2 → I2 k t = I' k t) → I2 k 1 = nI sp → I2 k 2 = so32 (cmpZ (cmX (v % 32)) x y) → V g mX0_holds (d + 3) Q 0 0 25 [some (.ref k), some (.ref a), some (.int vi), some (.int (nI E)), some (.int (nI (p + 1))), none, none, none] [] T n I2 J' F) : V g mX0_holds (d + 3) Q 0 0 25 [some (.ref k), some (.ref a), some (.int vi), some (.int (nI E)), some (.int (nI (p))), none, none, none] [] T n I' J' F := by
  have hTa := hLw.o
  refine V.iload (pc := 25) dX0_holds_25 rfl ?_
  refine V.iload_n (pc := 27) dX0_holds_27 rfl ?_
  refine V.icmp_ge 166 (pc := 28) dX0_holds_28 (by decide) (fun h28 => absurd h28 (nI_ge (by omega) (by omega))) (fun h28 => ?_)
  refine V.aload_n (pc := 31) dX0_holds_31 rfl ?_
  refine V.iload (pc := 32) dX0_holds_32 rfl ?_
  refine V.pV (as := [_]) (pc := 34) dX0_holds_34 lX0_48 bX2_stepAt nX2_stepAt (ci := 2) rfl eX2_stepAt (by assumption) (x_lstep (d := d + 2) (i := p) _ hLw rfl (by omega) hl) (by omega) rfl (Nat.le_of_ble_eq_true rfl) ?_
  rw [hst]
  refine V.is (pc := 37) dX0_holds_37 (by decide) (st1_5 rfl) ?_
  refine V.iload (pc := 39) dX0_holds_39 rfl ?_
  refine V.bipush (v := 31) (pc := 41) dX0_holds_41 (by decide) ?_
  refine V.iand (pc := 43) dX0_holds_43 ?_
  rw [nI_and5 (by omega)]
  refine V.is (pc := 44) dX0_holds_44 (by decide) (st1_6 rfl) ?_
  refine V.iload (pc := 46) dX0_holds_46 rfl ?_
  refine V.iconst (v := 5) (pc := 48) dX0_holds_48 (by decide) ?_
  refine V.ishr (pc := 49) dX0_holds_49 ?_
  rw [nI_shr5 (by omega)]
  refine V.is (pc := 50) dX0_holds_50 (by decide) (st1_7 rfl) ?_
  refine V.iload (pc := 52) dX0_holds_52 rfl ?_
  refine V.bipush (v := 16) (pc := 54) dX0_holds_54 (by decide) ?_
  refine V.icmp_eq 66 (pc := 56) dX0_holds_56 (by decide) (fun h56 => absurd h56 (by rw [show (16 : Int32) = nI 16 from rfl, nI_eq (by omega) (by omega)]; omega)) (fun h56 => ?_)
  refine V.iload (pc := 59) dX0_holds_59 rfl ?_
  refine V.bipush (v := 15) (pc := 61) dX0_holds_61 (by decide) ?_
  refine V.icmp_ne 99 (pc := 63) dX0_holds_63 (by decide) (fun h63 => ?_) (fun h63 => absurd h63 (by rw [show (15 : Int32) = nI 15 from rfl, nI_eq (by omega) (by omega)]; omega))
  refine V.iload (pc := 99) dX0_holds_99 rfl ?_
  refine V.bipush (v := 14) (pc := 101) dX0_holds_101 (by decide) ?_
  refine V.icmp_ne 125 (pc := 103) dX0_holds_103 (by decide) (fun h103 => ?_) (fun h103 => absurd h103 (by rw [show (14 : Int32) = nI 14 from rfl, nI_eq (by omega) (by omega)]; omega))
  refine V.iload (pc := 125) dX0_holds_125 rfl ?_
  refine V.bipush (v := 6) (pc := 127) dX0_holds_127 (by decide) ?_
  refine V.icmp_lt 143 (pc := 129) dX0_holds_129 (by decide) (fun h129 => absurd h129 (by rw [lt32, nI_toInt (by omega)]; show ¬ _ < (6 : Int); omega)) (fun h129 => ?_)
  refine V.aload_n (pc := 132) dX0_holds_132 rfl ?_
  refine V.iload (pc := 133) dX0_holds_133 rfl ?_
  refine V.invV0 (as := [_]) (pc := 135) dX0_holds_135 lX0_57 bX0_joinLastTwo nX0_joinLastTwo (ci := 0) rfl eX0_joinLastTwo hAk.o (x_join (d := d + 0) (s := sp) (q := v % 32) _ hAk h1 hs hA hB ha hb rfl hq hq2) (by omega) rfl (Nat.le_of_ble_eq_true rfl) ?_
  rintro r2 _ _ I2 J2 _ ⟨rfl, rfl, rfl, j1, j2, j3, jc, jr⟩
  obtain ⟨rfl, c1, c2, rfl⟩ := jc h11
  refine V.if_ne 160 (pc := 138) dX0_holds_138 (by decide) (fun h138 => ?_) (fun h138 => absurd h138 (by decide))
  refine V.iinc1 (pc := 160) dX0_holds_160 (by decide) rfl (st1_4 rfl) ?_
  refine V.goto 25 (pc := 163) dX0_holds_163 (by decide) ?_
  refine V.weak wk_5 ?_
  refine V.weak wk_6 ?_
  refine V.weak wk_7 ?_
  rw [nI_1]
  exact kk _ j1 j2 c1 c2
set_option maxHeartbeats 1000000 in
theorem h_arY {g : gG} {d : Nat} {T : mT} {n : Nat} {I' : mI} {J' : mJ} {F : mF} {Q : mQ} {k a c s lc ls E p v : Nat} {vi : Int32} {sp : Nat} {x y : Int} (hAk : AkS T F k) (hLw : LaS T F a c s lc ls) (hl : lc ≤ 400) (hpE : p < E) (hE : E ≤ lc) (hst : I' c p = nI v) (hv : v < 1048576) (hq : 6 ≤ v % 32) (hq2 : v % 32 ≤ 13) (h1 : I' k 1 = nI (sp + 2)) (hs : sp + 2 ≤ 64) (hA : J' (k + 1) sp = lI x) (hB : J' (k + 1) (sp + 1) = lI y) (ha : Bd x) (hb : Bd y) (h10 : v % 32 ≤ 10) (hok : ¬ ((arX (v % 32) = 22 ∨ arX (v % 32) = 23) ∧ y = 0) ∧ (-1000000000 ≤ rkZ (arX (v % 32)) x y ∧ rkZ (arX (v % 32)) x y ≤ 1000000000)) (kk : ∀ I2 : mI, (∀ c, c ≠ k → I2 c = I' c) → (∀ t, t ≠ 1 → t ≠ 2 → I2 k t = I' k t) → I2 k 1 = nI (sp + 1) → I2 k 2 = I' k 2 → V g mX0_holds (d + 3) Q 0 0 25 [some (.ref k), some (.ref a), some (.int vi), some (.int (nI E)), some (.int (nI (p + 1))), none, none, none] [] T n I2 (up2 J' (k + 1) sp (lI (rkZ (arX (v % 32)) x y))) F) : V g mX0_holds (d + 3) Q 0 0 25 [some (.ref k), some (.ref a), some (.int vi), some (.int (nI E)), some (.int (nI (p))), none, none, none] [] T n I' J' F := by
  have hTa := hLw.o
  refine V.iload (pc := 25) dX0_holds_25 rfl ?_
  refine V.iload_n (pc := 27) dX0_holds_27 rfl ?_
  refine V.icmp_ge 166 (pc := 28) dX0_holds_28 (by decide) (fun h28 => absurd h28 (nI_ge (by omega) (by omega))) (fun h28 => ?_)
  refine V.aload_n (pc := 31) dX0_holds_31 rfl ?_
  refine V.iload (pc := 32) dX0_holds_32 rfl ?_
  refine V.pV (as := [_]) (pc := 34) dX0_holds_34 lX0_48 bX2_stepAt nX2_stepAt (ci := 2) rfl eX2_stepAt (by assumption) (x_lstep (d := d + 2) (i := p) _ hLw rfl (by omega) hl) (by omega) rfl (Nat.le_of_ble_eq_true rfl) ?_
  rw [hst]
  refine V.is (pc := 37) dX0_holds_37 (by decide) (st1_5 rfl) ?_
  refine V.iload (pc := 39) dX0_holds_39 rfl ?_
  refine V.bipush (v := 31) (pc := 41) dX0_holds_41 (by decide) ?_
  refine V.iand (pc := 43) dX0_holds_43 ?_
  rw [nI_and5 (by omega)]
  refine V.is (pc := 44) dX0_holds_44 (by decide) (st1_6 rfl) ?_
  refine V.iload (pc := 46) dX0_holds_46 rfl ?_
  refine V.iconst (v := 5) (pc := 48) dX0_holds_48 (by decide) ?_
  refine V.ishr (pc := 49) dX0_holds_49 ?_
  rw [nI_shr5 (by omega)]
  refine V.is (pc := 50) dX0_holds_50 (by decide) (st1_7 rfl) ?_
  refine V.iload (pc := 52) dX0_holds_52 rfl ?_
  refine V.bipush (v := 16) (pc := 54) dX0_holds_54 (by decide) ?_
  refine V.icmp_eq 66 (pc := 56) dX0_holds_56 (by decide) (fun h56 => absurd h56 (by rw [show (16 : Int32) = nI 16 from rfl, nI_eq (by omega) (by omega)]; omega)) (fun h56 => ?_)
  refine V.iload (pc := 59) dX0_holds_59 rfl ?_
  refine V.bipush (v := 15) (pc := 61) dX0_holds_61 (by decide) ?_
  refine V.icmp_ne 99 (pc := 63) dX0_holds_63 (by decide) (fun h63 => ?_) (fun h63 => absurd h63 (by rw [show (15 : Int32) = nI 15 from rfl, nI_eq (by omega) (by omega)]; omega))
  refine V.iload (pc := 99) dX0_holds_99 rfl ?_
  refine V.bipush (v := 14) (pc := 101) dX0_holds_101 (by decide) ?_
  refine V.icmp_ne 125 (pc := 103) dX0_holds_103 (by decide) (fun h103 => ?_) (fun h103 => absurd h103 (by rw [show (14 : Int32) = nI 14 from rfl, nI_eq (by omega) (by omega)]; omega))
  refine V.iload (pc := 125) dX0_holds_125 rfl ?_
  refine V.bipush (v := 6) (pc := 127) dX0_holds_127 (by decide) ?_
  refine V.icmp_lt 143 (pc := 129) dX0_holds_129 (by decide) (fun h129 => absurd h129 (by rw [lt32, nI_toInt (by omega)]; show ¬ _ < (6 : Int); omega)) (fun h129 => ?_)
  refine V.aload_n (pc := 132) dX0_holds_132 rfl ?_
  refine V.iload (pc := 133) dX0_holds_133 rfl ?_
  refine V.invV0 (as := [_]) (pc := 135) dX0_holds_135 lX0_57 bX0_joinLastTwo nX0_joinLastTwo (ci := 0) rfl eX0_joinLastTwo hAk.o (x_join (d := d + 0) (s := sp) (q := v % 32) _ hAk h1 hs hA hB ha hb rfl hq hq2) (by omega) rfl (Nat.le_of_ble_eq_true rfl) ?_
  rintro r2 _ _ I2 J2 _ ⟨rfl, rfl, rfl, j1, j2, j3, jc, jr⟩
  obtain ⟨rfl, c1, c2, rfl⟩ := (jr h10).1 hok
  refine V.if_ne 160 (pc := 138) dX0_holds_138 (by decide) (fun h138 => ?_) (fun h138 => absurd h138 (by decide))
  refine V.iinc1 (pc := 160) dX0_holds_160 (by decide) rfl (st1_4 rfl) ?_
  refine V.goto 25 (pc := 163) dX0_holds_163 (by decide) ?_
  refine V.weak wk_5 ?_
  refine V.weak wk_6 ?_
  refine V.weak wk_7 ?_
  rw [nI_1]
  exact kk _ j1 j2 c1 c2
set_option maxHeartbeats 1000000 in
theorem h_arN {g : gG} {d : Nat} {T : mT} {n : Nat} {I' : mI} {J' : mJ} {F : mF} {Q : mQ} {k a c s lc ls E p v : Nat} {vi : Int32} {sp : Nat} {x y : Int} (hAk : AkS T F k) (hLw : LaS T F a c s lc ls) (hl : lc ≤ 400) (hpE : p < E) (hE : E ≤ lc) (hst : I' c p = nI v) (hv : v < 1048576) (hq : 6 ≤ v % 32) (hq2 : v % 32 ≤ 13) (h1 : I' k 1 = nI (sp + 2)) (hs : sp + 2 ≤ 64) (hA : J' (k + 1) sp = lI x) (hB : J' (k + 1) (sp + 1) = lI y) (ha : Bd x) (hb : Bd y) (h10 : v % 32 ≤ 10) (hok : ¬ (¬ ((arX (v % 32) = 22 ∨ arX (v % 32) = 23) ∧ y = 0) ∧ (-1000000000 ≤ rkZ (arX (v % 32)) x y ∧ rkZ (arX (v % 32)) x y ≤ 1000000000))) (hQ : ∀ (I2 : mI) (J2 : mJ), (∀ c, c ≠ k → I2 c = I' c) → (∀ t, t ≠ 1 → t ≠ 2 → I2 k t = I' k t) → (∀ c, c ≠ k + 1 → J2 c = J' c) → Q (some (.int 0)) T n I2 J2 F) : V g mX0_holds (d + 3) Q 0 0 25 [some (.ref k), some (.ref a), some (.int vi), some (.int (nI E)), some (.int (nI (p))), none, none, none] [] T n I' J' F := by
  have hTa := hLw.o
  refine V.iload (pc := 25) dX0_holds_25 rfl ?_
  refine V.iload_n (pc := 27) dX0_holds_27 rfl ?_
  refine V.icmp_ge 166 (pc := 28) dX0_holds_28 (by decide) (fun h28 => absurd h28 (nI_ge (by omega) (by omega))) (fun h28 => ?_)
  refine V.aload_n (pc := 31) dX0_holds_31 rfl ?_
  refine V.iload (pc := 32) dX0_holds_32 rfl ?_
  refine V.pV (as := [_]) (pc := 34) dX0_holds_34 lX0_48 bX2_stepAt nX2_stepAt (ci := 2) rfl eX2_stepAt (by assumption) (x_lstep (d := d + 2) (i := p) _ hLw rfl (by omega) hl) (by omega) rfl (Nat.le_of_ble_eq_true rfl) ?_
  rw [hst]
  refine V.is (pc := 37) dX0_holds_37 (by decide) (st1_5 rfl) ?_
  refine V.iload (pc := 39) dX0_holds_39 rfl ?_
  refine V.bipush (v := 31) (pc := 41) dX0_holds_41 (by decide) ?_
  refine V.iand (pc := 43) dX0_holds_43 ?_
  rw [nI_and5 (by omega)]
  refine V.is (pc := 44) dX0_holds_44 (by decide) (st1_6 rfl) ?_
  refine V.iload (pc := 46) dX0_holds_46 rfl ?_
  refine V.iconst (v := 5) (pc := 48) dX0_holds_48 (by decide) ?_
  refine V.ishr (pc := 49) dX0_holds_49 ?_
  rw [nI_shr5 (by omega)]
  refine V.is (pc := 50) dX0_holds_50 (by decide) (st1_7 rfl) ?_
  refine V.iload (pc := 52) dX0_holds_52 rfl ?_
  refine V.bipush (v := 16) (pc := 54) dX0_holds_54 (by decide) ?_
  refine V.icmp_eq 66 (pc := 56) dX0_holds_56 (by decide) (fun h56 => absurd h56 (by rw [show (16 : Int32) = nI 16 from rfl, nI_eq (by omega) (by omega)]; omega)) (fun h56 => ?_)
  refine V.iload (pc := 59) dX0_holds_59 rfl ?_
  refine V.bipush (v := 15) (pc := 61) dX0_holds_61 (by decide) ?_
  refine V.icmp_ne 99 (pc := 63) dX0_holds_63 (by decide) (fun h63 => ?_) (fun h63 => absurd h63 (by rw [show (15 : Int32) = nI 15 from rfl, nI_eq (by omega) (by omega)]; omega))
  refine V.iload (pc := 99) dX0_holds_99 rfl ?_
  refine V.bipush (v := 14) (pc := 101) dX0_holds_101 (by decide) ?_
  refine V.icmp_ne 125 (pc := 103) dX0_holds_103 (by decide) (fun h103 => ?_) (fun h103 => absurd h103 (by rw [show (14 : Int32) = nI 14 from rfl, nI_eq (by omega) (by omega)]; omega))
  refine V.iload (pc := 125) dX0_holds_125 rfl ?_
  refine V.bipush (v := 6) (pc := 127) dX0_holds_127 (by decide) ?_
  refine V.icmp_lt 143 (pc := 129) dX0_holds_129 (by decide) (fun h129 => absurd h129 (by rw [lt32, nI_toInt (by omega)]; show ¬ _ < (6 : Int); omega)) (fun h129 => ?_)
  refine V.aload_n (pc := 132) dX0_holds_132 rfl ?_
  refine V.iload (pc := 133) dX0_holds_133 rfl ?_
  refine V.invV0 (as := [_]) (pc := 135) dX0_holds_135 lX0_57 bX0_joinLastTwo nX0_joinLastTwo (ci := 0) rfl eX0_joinLastTwo hAk.o (x_join (d := d + 0) (s := sp) (q := v % 32) _ hAk h1 hs hA hB ha hb rfl hq hq2) (by omega) rfl (Nat.le_of_ble_eq_true rfl) ?_
  rintro r2 _ _ I2 J2 _ ⟨rfl, rfl, rfl, j1, j2, j3, jc, jr⟩
  obtain rfl := (jr h10).2 hok
  refine V.if_ne 160 (pc := 138) dX0_holds_138 (by decide) (fun h138 => absurd rfl h138) (fun h138 => ?_)
  refine V.iconst (v := 0) (pc := 141) dX0_holds_141 (by decide) ?_
  exact V.zret (pc := 142) dX0_holds_142 rfl (by first | exact Or.inl rfl | exact Or.inr rfl | exact bi_or | assumption) (hQ _ _ j1 j2 j3)
set_option maxHeartbeats 1000000 in
theorem h_not0 {g : gG} {d : Nat} {T : mT} {n : Nat} {I' : mI} {J' : mJ} {F : mF} {Q : mQ} {k a c s lc ls E p v : Nat} {vi : Int32}  (hAk : AkS T F k) (hLw : LaS T F a c s lc ls) (hl : lc ≤ 400) (hpE : p < E) (hE : E ≤ lc) (hst : I' c p = nI v) (hv : v < 1048576) (hq : v % 32 = 14) (h2 : I' k 2 = 0) (kk : V g mX0_holds (d + 3) Q 0 0 25 [some (.ref k), some (.ref a), some (.int vi), some (.int (nI E)), some (.int (nI (p + 1))), none, none, none] [] T n (up2 I' k 2 1) J' F) : V g mX0_holds (d + 3) Q 0 0 25 [some (.ref k), some (.ref a), some (.int vi), some (.int (nI E)), some (.int (nI (p))), none, none, none] [] T n I' J' F := by
  have hTa := hLw.o
  refine V.iload (pc := 25) dX0_holds_25 rfl ?_
  refine V.iload_n (pc := 27) dX0_holds_27 rfl ?_
  refine V.icmp_ge 166 (pc := 28) dX0_holds_28 (by decide) (fun h28 => absurd h28 (nI_ge (by omega) (by omega))) (fun h28 => ?_)
  refine V.aload_n (pc := 31) dX0_holds_31 rfl ?_
  refine V.iload (pc := 32) dX0_holds_32 rfl ?_
  refine V.pV (as := [_]) (pc := 34) dX0_holds_34 lX0_48 bX2_stepAt nX2_stepAt (ci := 2) rfl eX2_stepAt (by assumption) (x_lstep (d := d + 2) (i := p) _ hLw rfl (by omega) hl) (by omega) rfl (Nat.le_of_ble_eq_true rfl) ?_
  rw [hst]
  refine V.is (pc := 37) dX0_holds_37 (by decide) (st1_5 rfl) ?_
  refine V.iload (pc := 39) dX0_holds_39 rfl ?_
  refine V.bipush (v := 31) (pc := 41) dX0_holds_41 (by decide) ?_
  refine V.iand (pc := 43) dX0_holds_43 ?_
  rw [nI_and5 (by omega)]
  refine V.is (pc := 44) dX0_holds_44 (by decide) (st1_6 rfl) ?_
  refine V.iload (pc := 46) dX0_holds_46 rfl ?_
  refine V.iconst (v := 5) (pc := 48) dX0_holds_48 (by decide) ?_
  refine V.ishr (pc := 49) dX0_holds_49 ?_
  rw [nI_shr5 (by omega)]
  refine V.is (pc := 50) dX0_holds_50 (by decide) (st1_7 rfl) ?_
  refine V.iload (pc := 52) dX0_holds_52 rfl ?_
  refine V.bipush (v := 16) (pc := 54) dX0_holds_54 (by decide) ?_
  refine V.icmp_eq 66 (pc := 56) dX0_holds_56 (by decide) (fun h56 => absurd h56 (by rw [show (16 : Int32) = nI 16 from rfl, nI_eq (by omega) (by omega)]; omega)) (fun h56 => ?_)
  refine V.iload (pc := 59) dX0_holds_59 rfl ?_
  refine V.bipush (v := 15) (pc := 61) dX0_holds_61 (by decide) ?_
  refine V.icmp_ne 99 (pc := 63) dX0_holds_63 (by decide) (fun h63 => ?_) (fun h63 => absurd h63 (by rw [show (15 : Int32) = nI 15 from rfl, nI_eq (by omega) (by omega)]; omega))
  refine V.iload (pc := 99) dX0_holds_99 rfl ?_
  refine V.bipush (v := 14) (pc := 101) dX0_holds_101 (by decide) ?_
  refine V.icmp_ne 125 (pc := 103) dX0_holds_103 (by decide) (fun h103 => absurd (by rw [hq]; rfl) h103) (fun h103 => ?_)
  refine V.aload_n (pc := 106) dX0_holds_106 rfl ?_
  refine V.aload_n (pc := 107) dX0_holds_107 rfl ?_
  refine V.getI (pc := 108) dX0_holds_108 fX0_19_0 rfl hAk.o ?_
  rw [h2]
  refine V.if_ne 118 (pc := 111) dX0_holds_111 (by decide) (fun h111 => absurd rfl h111) (fun h111 => ?_)
  refine V.iconst (v := 1) (pc := 114) dX0_holds_114 (by decide) ?_
  refine V.goto 119 (pc := 115) dX0_holds_115 (by decide) ?_
  refine V.putZ (pc := 119) dX0_holds_119 fX0_19_0 (fun r h => by cases h; exact Or.inl rfl) rfl (by first | exact Or.inl rfl | exact Or.inr rfl | assumption) hAk.o ?_
  refine V.goto 160 (pc := 122) dX0_holds_122 (by decide) ?_
  refine V.iinc1 (pc := 160) dX0_holds_160 (by decide) rfl (st1_4 rfl) ?_
  refine V.goto 25 (pc := 163) dX0_holds_163 (by decide) ?_
  refine V.weak wk_5 ?_
  refine V.weak wk_6 ?_
  refine V.weak wk_7 ?_
  rw [nI_1]
  exact kk
set_option maxHeartbeats 1000000 in
theorem h_not1 {g : gG} {d : Nat} {T : mT} {n : Nat} {I' : mI} {J' : mJ} {F : mF} {Q : mQ} {k a c s lc ls E p v : Nat} {vi : Int32}  (hAk : AkS T F k) (hLw : LaS T F a c s lc ls) (hl : lc ≤ 400) (hpE : p < E) (hE : E ≤ lc) (hst : I' c p = nI v) (hv : v < 1048576) (hq : v % 32 = 14) (h2 : I' k 2 = 1) (kk : V g mX0_holds (d + 3) Q 0 0 25 [some (.ref k), some (.ref a), some (.int vi), some (.int (nI E)), some (.int (nI (p + 1))), none, none, none] [] T n (up2 I' k 2 0) J' F) : V g mX0_holds (d + 3) Q 0 0 25 [some (.ref k), some (.ref a), some (.int vi), some (.int (nI E)), some (.int (nI (p))), none, none, none] [] T n I' J' F := by
  have hTa := hLw.o
  refine V.iload (pc := 25) dX0_holds_25 rfl ?_
  refine V.iload_n (pc := 27) dX0_holds_27 rfl ?_
  refine V.icmp_ge 166 (pc := 28) dX0_holds_28 (by decide) (fun h28 => absurd h28 (nI_ge (by omega) (by omega))) (fun h28 => ?_)
  refine V.aload_n (pc := 31) dX0_holds_31 rfl ?_
  refine V.iload (pc := 32) dX0_holds_32 rfl ?_
  refine V.pV (as := [_]) (pc := 34) dX0_holds_34 lX0_48 bX2_stepAt nX2_stepAt (ci := 2) rfl eX2_stepAt (by assumption) (x_lstep (d := d + 2) (i := p) _ hLw rfl (by omega) hl) (by omega) rfl (Nat.le_of_ble_eq_true rfl) ?_
  rw [hst]
  refine V.is (pc := 37) dX0_holds_37 (by decide) (st1_5 rfl) ?_
  refine V.iload (pc := 39) dX0_holds_39 rfl ?_
  refine V.bipush (v := 31) (pc := 41) dX0_holds_41 (by decide) ?_
  refine V.iand (pc := 43) dX0_holds_43 ?_
  rw [nI_and5 (by omega)]
  refine V.is (pc := 44) dX0_holds_44 (by decide) (st1_6 rfl) ?_
  refine V.iload (pc := 46) dX0_holds_46 rfl ?_
  refine V.iconst (v := 5) (pc := 48) dX0_holds_48 (by decide) ?_
  refine V.ishr (pc := 49) dX0_holds_49 ?_
  rw [nI_shr5 (by omega)]
  refine V.is (pc := 50) dX0_holds_50 (by decide) (st1_7 rfl) ?_
  refine V.iload (pc := 52) dX0_holds_52 rfl ?_
  refine V.bipush (v := 16) (pc := 54) dX0_holds_54 (by decide) ?_
  refine V.icmp_eq 66 (pc := 56) dX0_holds_56 (by decide) (fun h56 => absurd h56 (by rw [show (16 : Int32) = nI 16 from rfl, nI_eq (by omega) (by omega)]; omega)) (fun h56 => ?_)
  refine V.iload (pc := 59) dX0_holds_59 rfl ?_
  refine V.bipush (v := 15) (pc := 61) dX0_holds_61 (by decide) ?_
  refine V.icmp_ne 99 (pc := 63) dX0_holds_63 (by decide) (fun h63 => ?_) (fun h63 => absurd h63 (by rw [show (15 : Int32) = nI 15 from rfl, nI_eq (by omega) (by omega)]; omega))
  refine V.iload (pc := 99) dX0_holds_99 rfl ?_
  refine V.bipush (v := 14) (pc := 101) dX0_holds_101 (by decide) ?_
  refine V.icmp_ne 125 (pc := 103) dX0_holds_103 (by decide) (fun h103 => absurd (by rw [hq]; rfl) h103) (fun h103 => ?_)
  refine V.aload_n (pc := 106) dX0_holds_106 rfl ?_
  refine V.aload_n (pc := 107) dX0_holds_107 rfl ?_
  refine V.getI (pc := 108) dX0_holds_108 fX0_19_0 rfl hAk.o ?_
  rw [h2]
  refine V.if_ne 118 (pc := 111) dX0_holds_111 (by decide) (fun h111 => ?_) (fun h111 => absurd h111 (by decide))
  refine V.iconst (v := 0) (pc := 118) dX0_holds_118 (by decide) ?_
  refine V.putZ (pc := 119) dX0_holds_119 fX0_19_0 (fun r h => by cases h; exact Or.inl rfl) rfl (by first | exact Or.inl rfl | exact Or.inr rfl | assumption) hAk.o ?_
  refine V.goto 160 (pc := 122) dX0_holds_122 (by decide) ?_
  refine V.iinc1 (pc := 160) dX0_holds_160 (by decide) rfl (st1_4 rfl) ?_
  refine V.goto 25 (pc := 163) dX0_holds_163 (by decide) ?_
  refine V.weak wk_5 ?_
  refine V.weak wk_6 ?_
  refine V.weak wk_7 ?_
  rw [nI_1]
  exact kk
set_option maxHeartbeats 1000000 in
theorem h_j15_0 {g : gG} {d : Nat} {T : mT} {n : Nat} {I' : mI} {J' : mJ} {F : mF} {Q : mQ} {k a c s lc ls E p v : Nat} {vi : Int32}  (hAk : AkS T F k) (hLw : LaS T F a c s lc ls) (hl : lc ≤ 400) (hpE : p < E) (hE : E ≤ lc) (hst : I' c p = nI v) (hv : v < 1048576) (hq : v % 32 = 15) (h2 : I' k 2 = 0) (hpt : p < v / 32) (kk : V g mX0_holds (d + 3) Q 0 0 25 [some (.ref k), some (.ref a), some (.int vi), some (.int (nI E)), some (.int (nI (v / 32))), none, none, none] [] T n I' J' F) : V g mX0_holds (d + 3) Q 0 0 25 [some (.ref k), some (.ref a), some (.int vi), some (.int (nI E)), some (.int (nI (p))), none, none, none] [] T n I' J' F := by
  have hTa := hLw.o
  refine V.iload (pc := 25) dX0_holds_25 rfl ?_
  refine V.iload_n (pc := 27) dX0_holds_27 rfl ?_
  refine V.icmp_ge 166 (pc := 28) dX0_holds_28 (by decide) (fun h28 => absurd h28 (nI_ge (by omega) (by omega))) (fun h28 => ?_)
  refine V.aload_n (pc := 31) dX0_holds_31 rfl ?_
  refine V.iload (pc := 32) dX0_holds_32 rfl ?_
  refine V.pV (as := [_]) (pc := 34) dX0_holds_34 lX0_48 bX2_stepAt nX2_stepAt (ci := 2) rfl eX2_stepAt (by assumption) (x_lstep (d := d + 2) (i := p) _ hLw rfl (by omega) hl) (by omega) rfl (Nat.le_of_ble_eq_true rfl) ?_
  rw [hst]
  refine V.is (pc := 37) dX0_holds_37 (by decide) (st1_5 rfl) ?_
  refine V.iload (pc := 39) dX0_holds_39 rfl ?_
  refine V.bipush (v := 31) (pc := 41) dX0_holds_41 (by decide) ?_
  refine V.iand (pc := 43) dX0_holds_43 ?_
  rw [nI_and5 (by omega)]
  refine V.is (pc := 44) dX0_holds_44 (by decide) (st1_6 rfl) ?_
  refine V.iload (pc := 46) dX0_holds_46 rfl ?_
  refine V.iconst (v := 5) (pc := 48) dX0_holds_48 (by decide) ?_
  refine V.ishr (pc := 49) dX0_holds_49 ?_
  rw [nI_shr5 (by omega)]
  refine V.is (pc := 50) dX0_holds_50 (by decide) (st1_7 rfl) ?_
  refine V.iload (pc := 52) dX0_holds_52 rfl ?_
  refine V.bipush (v := 16) (pc := 54) dX0_holds_54 (by decide) ?_
  refine V.icmp_eq 66 (pc := 56) dX0_holds_56 (by decide) (fun h56 => absurd h56 (by rw [show (16 : Int32) = nI 16 from rfl, nI_eq (by omega) (by omega)]; omega)) (fun h56 => ?_)
  refine V.iload (pc := 59) dX0_holds_59 rfl ?_
  refine V.bipush (v := 15) (pc := 61) dX0_holds_61 (by decide) ?_
  refine V.icmp_ne 99 (pc := 63) dX0_holds_63 (by decide) (fun h63 => absurd (by rw [hq]; rfl) h63) (fun h63 => ?_)
  refine V.aload_n (pc := 66) dX0_holds_66 rfl ?_
  refine V.getI (pc := 67) dX0_holds_67 fX0_19_0 rfl hAk.o ?_
  rw [h2]
  refine V.iload (pc := 70) dX0_holds_70 rfl ?_
  refine V.bipush (v := 16) (pc := 72) dX0_holds_72 (by decide) ?_
  refine V.icmp_ne 81 (pc := 74) dX0_holds_74 (by decide) (fun h74 => ?_) (fun h74 => absurd h74 (by rw [show (16 : Int32) = nI 16 from rfl, nI_eq (by omega) (by omega)]; omega))
  refine V.iconst (v := 0) (pc := 81) dX0_holds_81 (by decide) ?_
  refine V.icmp_ne 160 (pc := 82) dX0_holds_82 (by decide) (fun h82 => absurd rfl h82) (fun h82 => ?_)
  refine V.iload (pc := 85) dX0_holds_85 rfl ?_
  refine V.iload (pc := 87) dX0_holds_87 rfl ?_
  refine V.iconst (v := 1) (pc := 89) dX0_holds_89 (by decide) ?_
  refine V.isub (pc := 90) dX0_holds_90 ?_
  rw [L1, pk_sub (by omega)]
  refine V.mmax (pc := 91) dX0_holds_91 lX0_51 (by omega) (Nat.le_of_ble_eq_true rfl) ?_
  rw [nI_max (by omega) (by omega)]
  refine V.is (pc := 94) dX0_holds_94 (by decide) (st1_4 rfl) ?_
  refine V.goto 160 (pc := 96) dX0_holds_96 (by decide) ?_
  refine V.iinc1 (pc := 160) dX0_holds_160 (by decide) rfl (st1_4 rfl) ?_
  refine V.goto 25 (pc := 163) dX0_holds_163 (by decide) ?_
  refine V.weak wk_5 ?_
  refine V.weak wk_6 ?_
  refine V.weak wk_7 ?_
  rw [nI_1, show max p (v / 32 - 1) + 1 = v / 32 by omega]
  exact kk
set_option maxHeartbeats 1000000 in
theorem h_j15_1 {g : gG} {d : Nat} {T : mT} {n : Nat} {I' : mI} {J' : mJ} {F : mF} {Q : mQ} {k a c s lc ls E p v : Nat} {vi : Int32}  (hAk : AkS T F k) (hLw : LaS T F a c s lc ls) (hl : lc ≤ 400) (hpE : p < E) (hE : E ≤ lc) (hst : I' c p = nI v) (hv : v < 1048576) (hq : v % 32 = 15) (h2 : I' k 2 = 1) (kk : V g mX0_holds (d + 3) Q 0 0 25 [some (.ref k), some (.ref a), some (.int vi), some (.int (nI E)), some (.int (nI (p + 1))), none, none, none] [] T n I' J' F) : V g mX0_holds (d + 3) Q 0 0 25 [some (.ref k), some (.ref a), some (.int vi), some (.int (nI E)), some (.int (nI (p))), none, none, none] [] T n I' J' F := by
  have hTa := hLw.o
  refine V.iload (pc := 25) dX0_holds_25 rfl ?_
  refine V.iload_n (pc := 27) dX0_holds_27 rfl ?_
  refine V.icmp_ge 166 (pc := 28) dX0_holds_28 (by decide) (fun h28 => absurd h28 (nI_ge (by omega) (by omega))) (fun h28 => ?_)
  refine V.aload_n (pc := 31) dX0_holds_31 rfl ?_
  refine V.iload (pc := 32) dX0_holds_32 rfl ?_
  refine V.pV (as := [_]) (pc := 34) dX0_holds_34 lX0_48 bX2_stepAt nX2_stepAt (ci := 2) rfl eX2_stepAt (by assumption) (x_lstep (d := d + 2) (i := p) _ hLw rfl (by omega) hl) (by omega) rfl (Nat.le_of_ble_eq_true rfl) ?_
  rw [hst]
  refine V.is (pc := 37) dX0_holds_37 (by decide) (st1_5 rfl) ?_
  refine V.iload (pc := 39) dX0_holds_39 rfl ?_
  refine V.bipush (v := 31) (pc := 41) dX0_holds_41 (by decide) ?_
  refine V.iand (pc := 43) dX0_holds_43 ?_
  rw [nI_and5 (by omega)]
  refine V.is (pc := 44) dX0_holds_44 (by decide) (st1_6 rfl) ?_
  refine V.iload (pc := 46) dX0_holds_46 rfl ?_
  refine V.iconst (v := 5) (pc := 48) dX0_holds_48 (by decide) ?_
  refine V.ishr (pc := 49) dX0_holds_49 ?_
  rw [nI_shr5 (by omega)]
  refine V.is (pc := 50) dX0_holds_50 (by decide) (st1_7 rfl) ?_
  refine V.iload (pc := 52) dX0_holds_52 rfl ?_
  refine V.bipush (v := 16) (pc := 54) dX0_holds_54 (by decide) ?_
  refine V.icmp_eq 66 (pc := 56) dX0_holds_56 (by decide) (fun h56 => absurd h56 (by rw [show (16 : Int32) = nI 16 from rfl, nI_eq (by omega) (by omega)]; omega)) (fun h56 => ?_)
  refine V.iload (pc := 59) dX0_holds_59 rfl ?_
  refine V.bipush (v := 15) (pc := 61) dX0_holds_61 (by decide) ?_
  refine V.icmp_ne 99 (pc := 63) dX0_holds_63 (by decide) (fun h63 => absurd (by rw [hq]; rfl) h63) (fun h63 => ?_)
  refine V.aload_n (pc := 66) dX0_holds_66 rfl ?_
  refine V.getI (pc := 67) dX0_holds_67 fX0_19_0 rfl hAk.o ?_
  rw [h2]
  refine V.iload (pc := 70) dX0_holds_70 rfl ?_
  refine V.bipush (v := 16) (pc := 72) dX0_holds_72 (by decide) ?_
  refine V.icmp_ne 81 (pc := 74) dX0_holds_74 (by decide) (fun h74 => ?_) (fun h74 => absurd h74 (by rw [show (16 : Int32) = nI 16 from rfl, nI_eq (by omega) (by omega)]; omega))
  refine V.iconst (v := 0) (pc := 81) dX0_holds_81 (by decide) ?_
  refine V.icmp_ne 160 (pc := 82) dX0_holds_82 (by decide) (fun h82 => ?_) (fun h82 => absurd h82 (by decide))
  refine V.iinc1 (pc := 160) dX0_holds_160 (by decide) rfl (st1_4 rfl) ?_
  refine V.goto 25 (pc := 163) dX0_holds_163 (by decide) ?_
  refine V.weak wk_5 ?_
  refine V.weak wk_6 ?_
  refine V.weak wk_7 ?_
  rw [nI_1]
  exact kk
set_option maxHeartbeats 1000000 in
theorem h_j16_0 {g : gG} {d : Nat} {T : mT} {n : Nat} {I' : mI} {J' : mJ} {F : mF} {Q : mQ} {k a c s lc ls E p v : Nat} {vi : Int32}  (hAk : AkS T F k) (hLw : LaS T F a c s lc ls) (hl : lc ≤ 400) (hpE : p < E) (hE : E ≤ lc) (hst : I' c p = nI v) (hv : v < 1048576) (hq : v % 32 = 16) (h2 : I' k 2 = 0) (kk : V g mX0_holds (d + 3) Q 0 0 25 [some (.ref k), some (.ref a), some (.int vi), some (.int (nI E)), some (.int (nI (p + 1))), none, none, none] [] T n I' J' F) : V g mX0_holds (d + 3) Q 0 0 25 [some (.ref k), some (.ref a), some (.int vi), some (.int (nI E)), some (.int (nI (p))), none, none, none] [] T n I' J' F := by
  have hTa := hLw.o
  refine V.iload (pc := 25) dX0_holds_25 rfl ?_
  refine V.iload_n (pc := 27) dX0_holds_27 rfl ?_
  refine V.icmp_ge 166 (pc := 28) dX0_holds_28 (by decide) (fun h28 => absurd h28 (nI_ge (by omega) (by omega))) (fun h28 => ?_)
  refine V.aload_n (pc := 31) dX0_holds_31 rfl ?_
  refine V.iload (pc := 32) dX0_holds_32 rfl ?_
  refine V.pV (as := [_]) (pc := 34) dX0_holds_34 lX0_48 bX2_stepAt nX2_stepAt (ci := 2) rfl eX2_stepAt (by assumption) (x_lstep (d := d + 2) (i := p) _ hLw rfl (by omega) hl) (by omega) rfl (Nat.le_of_ble_eq_true rfl) ?_
  rw [hst]
  refine V.is (pc := 37) dX0_holds_37 (by decide) (st1_5 rfl) ?_
  refine V.iload (pc := 39) dX0_holds_39 rfl ?_
  refine V.bipush (v := 31) (pc := 41) dX0_holds_41 (by decide) ?_
  refine V.iand (pc := 43) dX0_holds_43 ?_
  rw [nI_and5 (by omega)]
  refine V.is (pc := 44) dX0_holds_44 (by decide) (st1_6 rfl) ?_
  refine V.iload (pc := 46) dX0_holds_46 rfl ?_
  refine V.iconst (v := 5) (pc := 48) dX0_holds_48 (by decide) ?_
  refine V.ishr (pc := 49) dX0_holds_49 ?_
  rw [nI_shr5 (by omega)]
  refine V.is (pc := 50) dX0_holds_50 (by decide) (st1_7 rfl) ?_
  refine V.iload (pc := 52) dX0_holds_52 rfl ?_
  refine V.bipush (v := 16) (pc := 54) dX0_holds_54 (by decide) ?_
  refine V.icmp_eq 66 (pc := 56) dX0_holds_56 (by decide) (fun h56 => ?_) (fun h56 => absurd (by rw [hq]; rfl) h56)
  refine V.aload_n (pc := 66) dX0_holds_66 rfl ?_
  refine V.getI (pc := 67) dX0_holds_67 fX0_19_0 rfl hAk.o ?_
  rw [h2]
  refine V.iload (pc := 70) dX0_holds_70 rfl ?_
  refine V.bipush (v := 16) (pc := 72) dX0_holds_72 (by decide) ?_
  refine V.icmp_ne 81 (pc := 74) dX0_holds_74 (by decide) (fun h74 => absurd (by rw [hq]; rfl) h74) (fun h74 => ?_)
  refine V.iconst (v := 1) (pc := 77) dX0_holds_77 (by decide) ?_
  refine V.goto 82 (pc := 78) dX0_holds_78 (by decide) ?_
  refine V.icmp_ne 160 (pc := 82) dX0_holds_82 (by decide) (fun h82 => ?_) (fun h82 => absurd h82 (by decide))
  refine V.iinc1 (pc := 160) dX0_holds_160 (by decide) rfl (st1_4 rfl) ?_
  refine V.goto 25 (pc := 163) dX0_holds_163 (by decide) ?_
  refine V.weak wk_5 ?_
  refine V.weak wk_6 ?_
  refine V.weak wk_7 ?_
  rw [nI_1]
  exact kk
set_option maxHeartbeats 1000000 in
theorem h_j16_1 {g : gG} {d : Nat} {T : mT} {n : Nat} {I' : mI} {J' : mJ} {F : mF} {Q : mQ} {k a c s lc ls E p v : Nat} {vi : Int32}  (hAk : AkS T F k) (hLw : LaS T F a c s lc ls) (hl : lc ≤ 400) (hpE : p < E) (hE : E ≤ lc) (hst : I' c p = nI v) (hv : v < 1048576) (hq : v % 32 = 16) (h2 : I' k 2 = 1) (hpt : p < v / 32) (kk : V g mX0_holds (d + 3) Q 0 0 25 [some (.ref k), some (.ref a), some (.int vi), some (.int (nI E)), some (.int (nI (v / 32))), none, none, none] [] T n I' J' F) : V g mX0_holds (d + 3) Q 0 0 25 [some (.ref k), some (.ref a), some (.int vi), some (.int (nI E)), some (.int (nI (p))), none, none, none] [] T n I' J' F := by
  have hTa := hLw.o
  refine V.iload (pc := 25) dX0_holds_25 rfl ?_
  refine V.iload_n (pc := 27) dX0_holds_27 rfl ?_
  refine V.icmp_ge 166 (pc := 28) dX0_holds_28 (by decide) (fun h28 => absurd h28 (nI_ge (by omega) (by omega))) (fun h28 => ?_)
  refine V.aload_n (pc := 31) dX0_holds_31 rfl ?_
  refine V.iload (pc := 32) dX0_holds_32 rfl ?_
  refine V.pV (as := [_]) (pc := 34) dX0_holds_34 lX0_48 bX2_stepAt nX2_stepAt (ci := 2) rfl eX2_stepAt (by assumption) (x_lstep (d := d + 2) (i := p) _ hLw rfl (by omega) hl) (by omega) rfl (Nat.le_of_ble_eq_true rfl) ?_
  rw [hst]
  refine V.is (pc := 37) dX0_holds_37 (by decide) (st1_5 rfl) ?_
  refine V.iload (pc := 39) dX0_holds_39 rfl ?_
  refine V.bipush (v := 31) (pc := 41) dX0_holds_41 (by decide) ?_
  refine V.iand (pc := 43) dX0_holds_43 ?_
  rw [nI_and5 (by omega)]
  refine V.is (pc := 44) dX0_holds_44 (by decide) (st1_6 rfl) ?_
  refine V.iload (pc := 46) dX0_holds_46 rfl ?_
  refine V.iconst (v := 5) (pc := 48) dX0_holds_48 (by decide) ?_
  refine V.ishr (pc := 49) dX0_holds_49 ?_
  rw [nI_shr5 (by omega)]
  refine V.is (pc := 50) dX0_holds_50 (by decide) (st1_7 rfl) ?_
  refine V.iload (pc := 52) dX0_holds_52 rfl ?_
  refine V.bipush (v := 16) (pc := 54) dX0_holds_54 (by decide) ?_
  refine V.icmp_eq 66 (pc := 56) dX0_holds_56 (by decide) (fun h56 => ?_) (fun h56 => absurd (by rw [hq]; rfl) h56)
  refine V.aload_n (pc := 66) dX0_holds_66 rfl ?_
  refine V.getI (pc := 67) dX0_holds_67 fX0_19_0 rfl hAk.o ?_
  rw [h2]
  refine V.iload (pc := 70) dX0_holds_70 rfl ?_
  refine V.bipush (v := 16) (pc := 72) dX0_holds_72 (by decide) ?_
  refine V.icmp_ne 81 (pc := 74) dX0_holds_74 (by decide) (fun h74 => absurd (by rw [hq]; rfl) h74) (fun h74 => ?_)
  refine V.iconst (v := 1) (pc := 77) dX0_holds_77 (by decide) ?_
  refine V.goto 82 (pc := 78) dX0_holds_78 (by decide) ?_
  refine V.icmp_ne 160 (pc := 82) dX0_holds_82 (by decide) (fun h82 => absurd rfl h82) (fun h82 => ?_)
  refine V.iload (pc := 85) dX0_holds_85 rfl ?_
  refine V.iload (pc := 87) dX0_holds_87 rfl ?_
  refine V.iconst (v := 1) (pc := 89) dX0_holds_89 (by decide) ?_
  refine V.isub (pc := 90) dX0_holds_90 ?_
  rw [L1, pk_sub (by omega)]
  refine V.mmax (pc := 91) dX0_holds_91 lX0_51 (by omega) (Nat.le_of_ble_eq_true rfl) ?_
  rw [nI_max (by omega) (by omega)]
  refine V.is (pc := 94) dX0_holds_94 (by decide) (st1_4 rfl) ?_
  refine V.goto 160 (pc := 96) dX0_holds_96 (by decide) ?_
  refine V.iinc1 (pc := 160) dX0_holds_160 (by decide) rfl (st1_4 rfl) ?_
  refine V.goto 25 (pc := 163) dX0_holds_163 (by decide) ?_
  refine V.weak wk_5 ?_
  refine V.weak wk_6 ?_
  refine V.weak wk_7 ?_
  rw [nI_1, show max p (v / 32 - 1) + 1 = v / 32 by omega]
  exact kk
theorem h_end {g : gG} {d : Nat} {T : mT} {n : Nat} {I' : mI} {J' : mJ} {F : mF} {Q : mQ} {k a E p : Nat} {vi : Int32} (hAk : AkS T F k) (hpE : E ≤ p) (hp : p < 2147483648) (hz : I' k 2 = 0 ∨ I' k 2 = 1) (hQ : Q (some (.int (I' k 2))) T n I' J' F) : V g mX0_holds (d + 3) Q 0 0 25 [some (.ref k), some (.ref a), some (.int vi), some (.int (nI E)), some (.int (nI (p))), none, none, none] [] T n I' J' F := by
  refine V.iload (pc := 25) dX0_holds_25 rfl ?_
  refine V.iload_n (pc := 27) dX0_holds_27 rfl ?_
  refine V.icmp_ge 166 (pc := 28) dX0_holds_28 (by decide) (fun h28 => ?_) (fun h28 => absurd (nI_le hpE (by omega)) h28)
  refine V.aload_n (pc := 166) dX0_holds_166 rfl ?_
  refine V.getI (pc := 167) dX0_holds_167 fX0_19_0 rfl hAk.o ?_
  exact V.zret (pc := 170) dX0_holds_170 rfl (by first | exact Or.inl rfl | exact Or.inr rfl | exact bi_or | assumption) hQ
