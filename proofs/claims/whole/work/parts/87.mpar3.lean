theorem c_behindSum {g : gG} {d : Nat} {T : mT} {n : Nat} {I : mI} {J : mJ} {F : mF} {m N : Nat} {tt : Nat → Nat} {r : RS} {test : Bool} (hM : MS T F m) (hT : TpM tt N I m) (hr : RdM tt N r I J m) (hW : WdM J m) (hok : RdOK (tkN tt N) r) (hb : r_b r = false) (hsq : sqp (r_P r)) (hbk : r_o r = brk (r_P r)) : Ct g mX12_behindSum (d + 3) [.ref m, .int (if test = true then 1 else 0)] 0 0 T n I J F (fun r' T' n' I' J' F' => r' = some (.int (nI (fSum (kdT tt N) test r).1)) ∧ T' = T ∧ n' = n ∧ F' = F ∧ PrF m I J I' J' ∧ RdM tt N ((fSum (kdT tt N) test r).2) I' J' m) := by
  refine Ct.ofV (k := 2) (by decide) (Nat.le_of_ble_eq_true rfl) ?_
  show V g mX12_behindSum (d + 3) _ 0 0 0 [some (.ref m), some (.int (if test = true then 1 else 0)), none, none] [] T n I J F
  obtain ⟨i, b, C, v, P, oo⟩ := r
  have hb2 : b = false := hb
  subst hb2
  have h305 := kdT_le (t := tt) (n := N) (fun i _ => hT.2.1 i) i
  have hwb := wrtT_bd (t := tt) (n := N) (i := i) hT.2.1
  have hE : EndT (kdT tt N) (tkN tt N) := EndT.of hT.1
  obtain ⟨hiE, hinv, hv0, ho⟩ := hok
  have hiE : i ≤ tkN tt N := hiE
  have hv0 : v ≤ 50 := hv0
  have hinv : Inv i C P := hinv
  have hpi : P.length ≤ i := hinv.2.1
  have hci := hinv.1
  have hE4 := hE.1
  have h32 : ∀ q ∈ P, q.1 < 32 := fun q hq => (hinv.2.2.1 q hq).1
  have hin32 := inr_lt P h32
  have hk11 : I m 11 = nI (srtT tt N i) := hr.1.2.2.1
  have hk12 : J m 12 = lI (wrtT tt N i) := hr.1.2.2.2
  have hlt : kdT tt N i ≠ -1 → i < 400 := fun z => by have := nxt hE hiE z; omega
  have hsq : sqp P := hsq
  have hbk : oo = brk P := hbk
  by_cases q43 : kdT tt N i = 43
  · have hlt2 : i < 400 := hlt (by omega)
    have ea : aop (kdT tt N i) = 19 := by rw [q43]; rfl
    have eF : fSum (kdT tt N) test (i, false, C, v, P, oo) = (1, (i + 1, false, (stl (bnd 19) P C).2, v, (19, 0) :: (stl (bnd 19) P C).1, oo)) := by rw [fSum]; simp only [r_i, r_P, r_C, r_v, r_o]; rw [ea, if_pos (by decide)]
    rw [eF]
    refine V.aload_n (pc := 0) dX12_behindSum_0 rfl ?_
    refine V.bipush (v := 43) (pc := 1) dX12_behindSum_1 (by decide) ?_
    refine V.pV (as := [_]) (pc := 3) dX12_behindSum_3 lX12_222 bX12_isSign nX12_isSign (ci := 11) rfl eX12_isSign hM.o (c_isSign (d := d + 2) (N := N) (i := i) (tt := tt) (c := 43) _ hM hr.1 hT.2.1 (by decide) rfl) (by omega) rfl (Nat.le_of_ble_eq_true rfl) ?_
    rw [bi_t (show kdT tt N i = ((43 : Nat) : Int) from q43)]
    refine V.if_eq 14 (pc := 6) dX12_behindSum_6 (by decide) (fun h6 => absurd h6 (by decide)) (fun h6 => ?_)
    refine V.bipush (v := 19) (pc := 9) dX12_behindSum_9 (by decide) ?_
    refine V.goto 71 (pc := 11) dX12_behindSum_11 (by decide) ?_
    refine V.isn (pc := 71) dX12_behindSum_71 (by decide) (st1_2 rfl) ?_
    refine V.iload_n (pc := 72) dX12_behindSum_72 rfl ?_
    refine V.iconst (v := (-1)) (pc := 73) dX12_behindSum_73 (by decide) ?_
    refine V.icmp_eq 97 (pc := 74) dX12_behindSum_74 (by decide) (fun h74 => absurd h74 (by decide)) (fun h74 => ?_)
    refine V.aload_n (pc := 77) dX12_behindSum_77 rfl ?_
    refine V.iload_n (pc := 78) dX12_behindSum_78 rfl ?_
    refine V.pS (as := [_]) (pc := 79) dX12_behindSum_79 lX12_194 bX12_binds sX12_binds (c_binds (d := d + 2) (op := 19) _ rfl (by decide)) (by omega) rfl (Nat.le_of_ble_eq_true rfl) ?_
    refine V.invV0 (as := [_]) (pc := 82) dX12_behindSum_82 lX12_243 bX12_settle nX12_settle (ci := 11) rfl eX12_settle hM.o (c_settle (d := d + 1) (N := N) (tt := tt) (L := bnd 19) _ hM hT hr (by show i ≤ 400; omega) hinv rfl (by decide)) (by omega) rfl (Nat.le_of_ble_eq_true rfl) ?_
    rintro _ _ _ I1 J1 _ ⟨rfl, rfl, rfl, rfl, f1, rfl, hr1⟩
    refine V.aload_n (pc := 85) dX12_behindSum_85 rfl ?_
    refine V.iload_n (pc := 86) dX12_behindSum_86 rfl ?_
    refine V.iconst (v := 0) (pc := 87) dX12_behindSum_87 (by decide) ?_
    refine V.invV0 (as := [_, _]) (pc := 88) dX12_behindSum_88 lX12_216 bX12_push nX12_push (ci := 11) rfl eX12_push hM.o (c_push (d := d + 2) (N := N) (tt := tt) (op := 19) (ar := 0) _ _ hM (f1.tp hT) hr1 rfl rfl (by show (stl (bnd 19) P C).1.length < 400; have := (hinv.sd (L := bnd 19) (by omega)).2.1; omega)) (by omega) rfl (Nat.le_of_ble_eq_true rfl) ?_
    rintro _ _ _ I2 J2 _ ⟨rfl, rfl, rfl, rfl, f2, hr2⟩
    refine V.aload_n (pc := 91) dX12_behindSum_91 rfl ?_
    refine V.invV0 (as := []) (pc := 92) dX12_behindSum_92 lX12_155 bX12_next nX12_next (ci := 11) rfl eX12_next hM.o (c_next (d := d + 1) (N := N) (tt := tt) (i := i + 1) hM ((f1.tr f2).tp hT) hr2.1.2.1) (by omega) rfl (Nat.le_of_ble_eq_true rfl) ?_
    rintro _ _ _ I3 J3 _ ⟨rfl, rfl, rfl, rfl, f3, k3⟩
    refine V.iconst (v := 1) (pc := 95) dX12_behindSum_95 (by decide) ?_
    exact V.iret (pc := 96) dX12_behindSum_96 rfl ⟨rfl, rfl, rfl, rfl, (f1.tr f2).tr f3.pr, hr2.nx rfl f3 k3⟩
  · by_cases q45 : kdT tt N i = 45
    · have hlt2 : i < 400 := hlt (by omega)
      have ea : aop (kdT tt N i) = 20 := by rw [q45]; rfl
      have eF : fSum (kdT tt N) test (i, false, C, v, P, oo) = (1, (i + 1, false, (stl (bnd 20) P C).2, v, (20, 0) :: (stl (bnd 20) P C).1, oo)) := by rw [fSum]; simp only [r_i, r_P, r_C, r_v, r_o]; rw [ea, if_pos (by decide)]
      rw [eF]
      refine V.aload_n (pc := 0) dX12_behindSum_0 rfl ?_
      refine V.bipush (v := 43) (pc := 1) dX12_behindSum_1 (by decide) ?_
      refine V.pV (as := [_]) (pc := 3) dX12_behindSum_3 lX12_222 bX12_isSign nX12_isSign (ci := 11) rfl eX12_isSign hM.o (c_isSign (d := d + 2) (N := N) (i := i) (tt := tt) (c := 43) _ hM hr.1 hT.2.1 (by decide) rfl) (by omega) rfl (Nat.le_of_ble_eq_true rfl) ?_
      rw [bi_f (show ¬ kdT tt N i = ((43 : Nat) : Int) from q43)]
      refine V.if_eq 14 (pc := 6) dX12_behindSum_6 (by decide) (fun h6 => ?_) (fun h6 => absurd rfl h6)
      refine V.aload_n (pc := 14) dX12_behindSum_14 rfl ?_
      refine V.bipush (v := 45) (pc := 15) dX12_behindSum_15 (by decide) ?_
      refine V.pV (as := [_]) (pc := 17) dX12_behindSum_17 lX12_222 bX12_isSign nX12_isSign (ci := 11) rfl eX12_isSign hM.o (c_isSign (d := d + 2) (N := N) (i := i) (tt := tt) (c := 45) _ hM hr.1 hT.2.1 (by decide) rfl) (by omega) rfl (Nat.le_of_ble_eq_true rfl) ?_
      rw [bi_t (show kdT tt N i = ((45 : Nat) : Int) from q45)]
      refine V.if_eq 28 (pc := 20) dX12_behindSum_20 (by decide) (fun h20 => absurd h20 (by decide)) (fun h20 => ?_)
      refine V.bipush (v := 20) (pc := 23) dX12_behindSum_23 (by decide) ?_
      refine V.goto 71 (pc := 25) dX12_behindSum_25 (by decide) ?_
      refine V.isn (pc := 71) dX12_behindSum_71 (by decide) (st1_2 rfl) ?_
      refine V.iload_n (pc := 72) dX12_behindSum_72 rfl ?_
      refine V.iconst (v := (-1)) (pc := 73) dX12_behindSum_73 (by decide) ?_
      refine V.icmp_eq 97 (pc := 74) dX12_behindSum_74 (by decide) (fun h74 => absurd h74 (by decide)) (fun h74 => ?_)
      refine V.aload_n (pc := 77) dX12_behindSum_77 rfl ?_
      refine V.iload_n (pc := 78) dX12_behindSum_78 rfl ?_
      refine V.pS (as := [_]) (pc := 79) dX12_behindSum_79 lX12_194 bX12_binds sX12_binds (c_binds (d := d + 2) (op := 20) _ rfl (by decide)) (by omega) rfl (Nat.le_of_ble_eq_true rfl) ?_
      refine V.invV0 (as := [_]) (pc := 82) dX12_behindSum_82 lX12_243 bX12_settle nX12_settle (ci := 11) rfl eX12_settle hM.o (c_settle (d := d + 1) (N := N) (tt := tt) (L := bnd 20) _ hM hT hr (by show i ≤ 400; omega) hinv rfl (by decide)) (by omega) rfl (Nat.le_of_ble_eq_true rfl) ?_
      rintro _ _ _ I1 J1 _ ⟨rfl, rfl, rfl, rfl, f1, rfl, hr1⟩
      refine V.aload_n (pc := 85) dX12_behindSum_85 rfl ?_
      refine V.iload_n (pc := 86) dX12_behindSum_86 rfl ?_
      refine V.iconst (v := 0) (pc := 87) dX12_behindSum_87 (by decide) ?_
      refine V.invV0 (as := [_, _]) (pc := 88) dX12_behindSum_88 lX12_216 bX12_push nX12_push (ci := 11) rfl eX12_push hM.o (c_push (d := d + 2) (N := N) (tt := tt) (op := 20) (ar := 0) _ _ hM (f1.tp hT) hr1 rfl rfl (by show (stl (bnd 20) P C).1.length < 400; have := (hinv.sd (L := bnd 20) (by omega)).2.1; omega)) (by omega) rfl (Nat.le_of_ble_eq_true rfl) ?_
      rintro _ _ _ I2 J2 _ ⟨rfl, rfl, rfl, rfl, f2, hr2⟩
      refine V.aload_n (pc := 91) dX12_behindSum_91 rfl ?_
      refine V.invV0 (as := []) (pc := 92) dX12_behindSum_92 lX12_155 bX12_next nX12_next (ci := 11) rfl eX12_next hM.o (c_next (d := d + 1) (N := N) (tt := tt) (i := i + 1) hM ((f1.tr f2).tp hT) hr2.1.2.1) (by omega) rfl (Nat.le_of_ble_eq_true rfl) ?_
      rintro _ _ _ I3 J3 _ ⟨rfl, rfl, rfl, rfl, f3, k3⟩
      refine V.iconst (v := 1) (pc := 95) dX12_behindSum_95 (by decide) ?_
      exact V.iret (pc := 96) dX12_behindSum_96 rfl ⟨rfl, rfl, rfl, rfl, (f1.tr f2).tr f3.pr, hr2.nx rfl f3 k3⟩
    · by_cases q42 : kdT tt N i = 42
      · have hlt2 : i < 400 := hlt (by omega)
        have ea : aop (kdT tt N i) = 21 := by rw [q42]; rfl
        have eF : fSum (kdT tt N) test (i, false, C, v, P, oo) = (1, (i + 1, false, (stl (bnd 21) P C).2, v, (21, 0) :: (stl (bnd 21) P C).1, oo)) := by rw [fSum]; simp only [r_i, r_P, r_C, r_v, r_o]; rw [ea, if_pos (by decide)]
        rw [eF]
        refine V.aload_n (pc := 0) dX12_behindSum_0 rfl ?_
        refine V.bipush (v := 43) (pc := 1) dX12_behindSum_1 (by decide) ?_
        refine V.pV (as := [_]) (pc := 3) dX12_behindSum_3 lX12_222 bX12_isSign nX12_isSign (ci := 11) rfl eX12_isSign hM.o (c_isSign (d := d + 2) (N := N) (i := i) (tt := tt) (c := 43) _ hM hr.1 hT.2.1 (by decide) rfl) (by omega) rfl (Nat.le_of_ble_eq_true rfl) ?_
        rw [bi_f (show ¬ kdT tt N i = ((43 : Nat) : Int) from q43)]
        refine V.if_eq 14 (pc := 6) dX12_behindSum_6 (by decide) (fun h6 => ?_) (fun h6 => absurd rfl h6)
        refine V.aload_n (pc := 14) dX12_behindSum_14 rfl ?_
        refine V.bipush (v := 45) (pc := 15) dX12_behindSum_15 (by decide) ?_
        refine V.pV (as := [_]) (pc := 17) dX12_behindSum_17 lX12_222 bX12_isSign nX12_isSign (ci := 11) rfl eX12_isSign hM.o (c_isSign (d := d + 2) (N := N) (i := i) (tt := tt) (c := 45) _ hM hr.1 hT.2.1 (by decide) rfl) (by omega) rfl (Nat.le_of_ble_eq_true rfl) ?_
        rw [bi_f (show ¬ kdT tt N i = ((45 : Nat) : Int) from q45)]
        refine V.if_eq 28 (pc := 20) dX12_behindSum_20 (by decide) (fun h20 => ?_) (fun h20 => absurd rfl h20)
        refine V.aload_n (pc := 28) dX12_behindSum_28 rfl ?_
        refine V.bipush (v := 42) (pc := 29) dX12_behindSum_29 (by decide) ?_
        refine V.pV (as := [_]) (pc := 31) dX12_behindSum_31 lX12_222 bX12_isSign nX12_isSign (ci := 11) rfl eX12_isSign hM.o (c_isSign (d := d + 2) (N := N) (i := i) (tt := tt) (c := 42) _ hM hr.1 hT.2.1 (by decide) rfl) (by omega) rfl (Nat.le_of_ble_eq_true rfl) ?_
        rw [bi_t (show kdT tt N i = ((42 : Nat) : Int) from q42)]
        refine V.if_eq 42 (pc := 34) dX12_behindSum_34 (by decide) (fun h34 => absurd h34 (by decide)) (fun h34 => ?_)
        refine V.bipush (v := 21) (pc := 37) dX12_behindSum_37 (by decide) ?_
        refine V.goto 71 (pc := 39) dX12_behindSum_39 (by decide) ?_
        refine V.isn (pc := 71) dX12_behindSum_71 (by decide) (st1_2 rfl) ?_
        refine V.iload_n (pc := 72) dX12_behindSum_72 rfl ?_
        refine V.iconst (v := (-1)) (pc := 73) dX12_behindSum_73 (by decide) ?_
        refine V.icmp_eq 97 (pc := 74) dX12_behindSum_74 (by decide) (fun h74 => absurd h74 (by decide)) (fun h74 => ?_)
        refine V.aload_n (pc := 77) dX12_behindSum_77 rfl ?_
        refine V.iload_n (pc := 78) dX12_behindSum_78 rfl ?_
        refine V.pS (as := [_]) (pc := 79) dX12_behindSum_79 lX12_194 bX12_binds sX12_binds (c_binds (d := d + 2) (op := 21) _ rfl (by decide)) (by omega) rfl (Nat.le_of_ble_eq_true rfl) ?_
        refine V.invV0 (as := [_]) (pc := 82) dX12_behindSum_82 lX12_243 bX12_settle nX12_settle (ci := 11) rfl eX12_settle hM.o (c_settle (d := d + 1) (N := N) (tt := tt) (L := bnd 21) _ hM hT hr (by show i ≤ 400; omega) hinv rfl (by decide)) (by omega) rfl (Nat.le_of_ble_eq_true rfl) ?_
        rintro _ _ _ I1 J1 _ ⟨rfl, rfl, rfl, rfl, f1, rfl, hr1⟩
        refine V.aload_n (pc := 85) dX12_behindSum_85 rfl ?_
        refine V.iload_n (pc := 86) dX12_behindSum_86 rfl ?_
        refine V.iconst (v := 0) (pc := 87) dX12_behindSum_87 (by decide) ?_
        refine V.invV0 (as := [_, _]) (pc := 88) dX12_behindSum_88 lX12_216 bX12_push nX12_push (ci := 11) rfl eX12_push hM.o (c_push (d := d + 2) (N := N) (tt := tt) (op := 21) (ar := 0) _ _ hM (f1.tp hT) hr1 rfl rfl (by show (stl (bnd 21) P C).1.length < 400; have := (hinv.sd (L := bnd 21) (by omega)).2.1; omega)) (by omega) rfl (Nat.le_of_ble_eq_true rfl) ?_
        rintro _ _ _ I2 J2 _ ⟨rfl, rfl, rfl, rfl, f2, hr2⟩
        refine V.aload_n (pc := 91) dX12_behindSum_91 rfl ?_
        refine V.invV0 (as := []) (pc := 92) dX12_behindSum_92 lX12_155 bX12_next nX12_next (ci := 11) rfl eX12_next hM.o (c_next (d := d + 1) (N := N) (tt := tt) (i := i + 1) hM ((f1.tr f2).tp hT) hr2.1.2.1) (by omega) rfl (Nat.le_of_ble_eq_true rfl) ?_
        rintro _ _ _ I3 J3 _ ⟨rfl, rfl, rfl, rfl, f3, k3⟩
        refine V.iconst (v := 1) (pc := 95) dX12_behindSum_95 (by decide) ?_
        exact V.iret (pc := 96) dX12_behindSum_96 rfl ⟨rfl, rfl, rfl, rfl, (f1.tr f2).tr f3.pr, hr2.nx rfl f3 k3⟩
      · by_cases q47 : kdT tt N i = 47
        · have hlt2 : i < 400 := hlt (by omega)
          have ea : aop (kdT tt N i) = 23 := by rw [q47]; rfl
          have eF : fSum (kdT tt N) test (i, false, C, v, P, oo) = (1, (i + 1, false, (stl (bnd 23) P C).2, v, (23, 0) :: (stl (bnd 23) P C).1, oo)) := by rw [fSum]; simp only [r_i, r_P, r_C, r_v, r_o]; rw [ea, if_pos (by decide)]
          rw [eF]
          refine V.aload_n (pc := 0) dX12_behindSum_0 rfl ?_
          refine V.bipush (v := 43) (pc := 1) dX12_behindSum_1 (by decide) ?_
          refine V.pV (as := [_]) (pc := 3) dX12_behindSum_3 lX12_222 bX12_isSign nX12_isSign (ci := 11) rfl eX12_isSign hM.o (c_isSign (d := d + 2) (N := N) (i := i) (tt := tt) (c := 43) _ hM hr.1 hT.2.1 (by decide) rfl) (by omega) rfl (Nat.le_of_ble_eq_true rfl) ?_
          rw [bi_f (show ¬ kdT tt N i = ((43 : Nat) : Int) from q43)]
          refine V.if_eq 14 (pc := 6) dX12_behindSum_6 (by decide) (fun h6 => ?_) (fun h6 => absurd rfl h6)
          refine V.aload_n (pc := 14) dX12_behindSum_14 rfl ?_
          refine V.bipush (v := 45) (pc := 15) dX12_behindSum_15 (by decide) ?_
          refine V.pV (as := [_]) (pc := 17) dX12_behindSum_17 lX12_222 bX12_isSign nX12_isSign (ci := 11) rfl eX12_isSign hM.o (c_isSign (d := d + 2) (N := N) (i := i) (tt := tt) (c := 45) _ hM hr.1 hT.2.1 (by decide) rfl) (by omega) rfl (Nat.le_of_ble_eq_true rfl) ?_
          rw [bi_f (show ¬ kdT tt N i = ((45 : Nat) : Int) from q45)]
          refine V.if_eq 28 (pc := 20) dX12_behindSum_20 (by decide) (fun h20 => ?_) (fun h20 => absurd rfl h20)
          refine V.aload_n (pc := 28) dX12_behindSum_28 rfl ?_
          refine V.bipush (v := 42) (pc := 29) dX12_behindSum_29 (by decide) ?_
          refine V.pV (as := [_]) (pc := 31) dX12_behindSum_31 lX12_222 bX12_isSign nX12_isSign (ci := 11) rfl eX12_isSign hM.o (c_isSign (d := d + 2) (N := N) (i := i) (tt := tt) (c := 42) _ hM hr.1 hT.2.1 (by decide) rfl) (by omega) rfl (Nat.le_of_ble_eq_true rfl) ?_
          rw [bi_f (show ¬ kdT tt N i = ((42 : Nat) : Int) from q42)]
          refine V.if_eq 42 (pc := 34) dX12_behindSum_34 (by decide) (fun h34 => ?_) (fun h34 => absurd rfl h34)
          refine V.aload_n (pc := 42) dX12_behindSum_42 rfl ?_
          refine V.bipush (v := 47) (pc := 43) dX12_behindSum_43 (by decide) ?_
          refine V.pV (as := [_]) (pc := 45) dX12_behindSum_45 lX12_222 bX12_isSign nX12_isSign (ci := 11) rfl eX12_isSign hM.o (c_isSign (d := d + 2) (N := N) (i := i) (tt := tt) (c := 47) _ hM hr.1 hT.2.1 (by decide) rfl) (by omega) rfl (Nat.le_of_ble_eq_true rfl) ?_
          rw [bi_t (show kdT tt N i = ((47 : Nat) : Int) from q47)]
          refine V.if_eq 56 (pc := 48) dX12_behindSum_48 (by decide) (fun h48 => absurd h48 (by decide)) (fun h48 => ?_)
          refine V.bipush (v := 23) (pc := 51) dX12_behindSum_51 (by decide) ?_
          refine V.goto 71 (pc := 53) dX12_behindSum_53 (by decide) ?_
          refine V.isn (pc := 71) dX12_behindSum_71 (by decide) (st1_2 rfl) ?_
          refine V.iload_n (pc := 72) dX12_behindSum_72 rfl ?_
          refine V.iconst (v := (-1)) (pc := 73) dX12_behindSum_73 (by decide) ?_
          refine V.icmp_eq 97 (pc := 74) dX12_behindSum_74 (by decide) (fun h74 => absurd h74 (by decide)) (fun h74 => ?_)
          refine V.aload_n (pc := 77) dX12_behindSum_77 rfl ?_
          refine V.iload_n (pc := 78) dX12_behindSum_78 rfl ?_
          refine V.pS (as := [_]) (pc := 79) dX12_behindSum_79 lX12_194 bX12_binds sX12_binds (c_binds (d := d + 2) (op := 23) _ rfl (by decide)) (by omega) rfl (Nat.le_of_ble_eq_true rfl) ?_
          refine V.invV0 (as := [_]) (pc := 82) dX12_behindSum_82 lX12_243 bX12_settle nX12_settle (ci := 11) rfl eX12_settle hM.o (c_settle (d := d + 1) (N := N) (tt := tt) (L := bnd 23) _ hM hT hr (by show i ≤ 400; omega) hinv rfl (by decide)) (by omega) rfl (Nat.le_of_ble_eq_true rfl) ?_
          rintro _ _ _ I1 J1 _ ⟨rfl, rfl, rfl, rfl, f1, rfl, hr1⟩
          refine V.aload_n (pc := 85) dX12_behindSum_85 rfl ?_
          refine V.iload_n (pc := 86) dX12_behindSum_86 rfl ?_
          refine V.iconst (v := 0) (pc := 87) dX12_behindSum_87 (by decide) ?_
          refine V.invV0 (as := [_, _]) (pc := 88) dX12_behindSum_88 lX12_216 bX12_push nX12_push (ci := 11) rfl eX12_push hM.o (c_push (d := d + 2) (N := N) (tt := tt) (op := 23) (ar := 0) _ _ hM (f1.tp hT) hr1 rfl rfl (by show (stl (bnd 23) P C).1.length < 400; have := (hinv.sd (L := bnd 23) (by omega)).2.1; omega)) (by omega) rfl (Nat.le_of_ble_eq_true rfl) ?_
          rintro _ _ _ I2 J2 _ ⟨rfl, rfl, rfl, rfl, f2, hr2⟩
          refine V.aload_n (pc := 91) dX12_behindSum_91 rfl ?_
          refine V.invV0 (as := []) (pc := 92) dX12_behindSum_92 lX12_155 bX12_next nX12_next (ci := 11) rfl eX12_next hM.o (c_next (d := d + 1) (N := N) (tt := tt) (i := i + 1) hM ((f1.tr f2).tp hT) hr2.1.2.1) (by omega) rfl (Nat.le_of_ble_eq_true rfl) ?_
          rintro _ _ _ I3 J3 _ ⟨rfl, rfl, rfl, rfl, f3, k3⟩
          refine V.iconst (v := 1) (pc := 95) dX12_behindSum_95 (by decide) ?_
          exact V.iret (pc := 96) dX12_behindSum_96 rfl ⟨rfl, rfl, rfl, rfl, (f1.tr f2).tr f3.pr, hr2.nx rfl f3 k3⟩
        · by_cases q37 : kdT tt N i = 37
          · have hlt2 : i < 400 := hlt (by omega)
            have ea : aop (kdT tt N i) = 22 := by rw [q37]; rfl
            have eF : fSum (kdT tt N) test (i, false, C, v, P, oo) = (1, (i + 1, false, (stl (bnd 22) P C).2, v, (22, 0) :: (stl (bnd 22) P C).1, oo)) := by rw [fSum]; simp only [r_i, r_P, r_C, r_v, r_o]; rw [ea, if_pos (by decide)]
            rw [eF]
            refine V.aload_n (pc := 0) dX12_behindSum_0 rfl ?_
            refine V.bipush (v := 43) (pc := 1) dX12_behindSum_1 (by decide) ?_
            refine V.pV (as := [_]) (pc := 3) dX12_behindSum_3 lX12_222 bX12_isSign nX12_isSign (ci := 11) rfl eX12_isSign hM.o (c_isSign (d := d + 2) (N := N) (i := i) (tt := tt) (c := 43) _ hM hr.1 hT.2.1 (by decide) rfl) (by omega) rfl (Nat.le_of_ble_eq_true rfl) ?_
            rw [bi_f (show ¬ kdT tt N i = ((43 : Nat) : Int) from q43)]
            refine V.if_eq 14 (pc := 6) dX12_behindSum_6 (by decide) (fun h6 => ?_) (fun h6 => absurd rfl h6)
            refine V.aload_n (pc := 14) dX12_behindSum_14 rfl ?_
            refine V.bipush (v := 45) (pc := 15) dX12_behindSum_15 (by decide) ?_
            refine V.pV (as := [_]) (pc := 17) dX12_behindSum_17 lX12_222 bX12_isSign nX12_isSign (ci := 11) rfl eX12_isSign hM.o (c_isSign (d := d + 2) (N := N) (i := i) (tt := tt) (c := 45) _ hM hr.1 hT.2.1 (by decide) rfl) (by omega) rfl (Nat.le_of_ble_eq_true rfl) ?_
            rw [bi_f (show ¬ kdT tt N i = ((45 : Nat) : Int) from q45)]
            refine V.if_eq 28 (pc := 20) dX12_behindSum_20 (by decide) (fun h20 => ?_) (fun h20 => absurd rfl h20)
            refine V.aload_n (pc := 28) dX12_behindSum_28 rfl ?_
            refine V.bipush (v := 42) (pc := 29) dX12_behindSum_29 (by decide) ?_
            refine V.pV (as := [_]) (pc := 31) dX12_behindSum_31 lX12_222 bX12_isSign nX12_isSign (ci := 11) rfl eX12_isSign hM.o (c_isSign (d := d + 2) (N := N) (i := i) (tt := tt) (c := 42) _ hM hr.1 hT.2.1 (by decide) rfl) (by omega) rfl (Nat.le_of_ble_eq_true rfl) ?_
            rw [bi_f (show ¬ kdT tt N i = ((42 : Nat) : Int) from q42)]
            refine V.if_eq 42 (pc := 34) dX12_behindSum_34 (by decide) (fun h34 => ?_) (fun h34 => absurd rfl h34)
            refine V.aload_n (pc := 42) dX12_behindSum_42 rfl ?_
            refine V.bipush (v := 47) (pc := 43) dX12_behindSum_43 (by decide) ?_
            refine V.pV (as := [_]) (pc := 45) dX12_behindSum_45 lX12_222 bX12_isSign nX12_isSign (ci := 11) rfl eX12_isSign hM.o (c_isSign (d := d + 2) (N := N) (i := i) (tt := tt) (c := 47) _ hM hr.1 hT.2.1 (by decide) rfl) (by omega) rfl (Nat.le_of_ble_eq_true rfl) ?_
            rw [bi_f (show ¬ kdT tt N i = ((47 : Nat) : Int) from q47)]
            refine V.if_eq 56 (pc := 48) dX12_behindSum_48 (by decide) (fun h48 => ?_) (fun h48 => absurd rfl h48)
            refine V.aload_n (pc := 56) dX12_behindSum_56 rfl ?_
            refine V.bipush (v := 37) (pc := 57) dX12_behindSum_57 (by decide) ?_
            refine V.pV (as := [_]) (pc := 59) dX12_behindSum_59 lX12_222 bX12_isSign nX12_isSign (ci := 11) rfl eX12_isSign hM.o (c_isSign (d := d + 2) (N := N) (i := i) (tt := tt) (c := 37) _ hM hr.1 hT.2.1 (by decide) rfl) (by omega) rfl (Nat.le_of_ble_eq_true rfl) ?_
            rw [bi_t (show kdT tt N i = ((37 : Nat) : Int) from q37)]
            refine V.if_eq 70 (pc := 62) dX12_behindSum_62 (by decide) (fun h62 => absurd h62 (by decide)) (fun h62 => ?_)
            refine V.bipush (v := 22) (pc := 65) dX12_behindSum_65 (by decide) ?_
            refine V.goto 71 (pc := 67) dX12_behindSum_67 (by decide) ?_
            refine V.isn (pc := 71) dX12_behindSum_71 (by decide) (st1_2 rfl) ?_
            refine V.iload_n (pc := 72) dX12_behindSum_72 rfl ?_
            refine V.iconst (v := (-1)) (pc := 73) dX12_behindSum_73 (by decide) ?_
            refine V.icmp_eq 97 (pc := 74) dX12_behindSum_74 (by decide) (fun h74 => absurd h74 (by decide)) (fun h74 => ?_)
            refine V.aload_n (pc := 77) dX12_behindSum_77 rfl ?_
            refine V.iload_n (pc := 78) dX12_behindSum_78 rfl ?_
            refine V.pS (as := [_]) (pc := 79) dX12_behindSum_79 lX12_194 bX12_binds sX12_binds (c_binds (d := d + 2) (op := 22) _ rfl (by decide)) (by omega) rfl (Nat.le_of_ble_eq_true rfl) ?_
            refine V.invV0 (as := [_]) (pc := 82) dX12_behindSum_82 lX12_243 bX12_settle nX12_settle (ci := 11) rfl eX12_settle hM.o (c_settle (d := d + 1) (N := N) (tt := tt) (L := bnd 22) _ hM hT hr (by show i ≤ 400; omega) hinv rfl (by decide)) (by omega) rfl (Nat.le_of_ble_eq_true rfl) ?_
            rintro _ _ _ I1 J1 _ ⟨rfl, rfl, rfl, rfl, f1, rfl, hr1⟩
            refine V.aload_n (pc := 85) dX12_behindSum_85 rfl ?_
            refine V.iload_n (pc := 86) dX12_behindSum_86 rfl ?_
            refine V.iconst (v := 0) (pc := 87) dX12_behindSum_87 (by decide) ?_
            refine V.invV0 (as := [_, _]) (pc := 88) dX12_behindSum_88 lX12_216 bX12_push nX12_push (ci := 11) rfl eX12_push hM.o (c_push (d := d + 2) (N := N) (tt := tt) (op := 22) (ar := 0) _ _ hM (f1.tp hT) hr1 rfl rfl (by show (stl (bnd 22) P C).1.length < 400; have := (hinv.sd (L := bnd 22) (by omega)).2.1; omega)) (by omega) rfl (Nat.le_of_ble_eq_true rfl) ?_
            rintro _ _ _ I2 J2 _ ⟨rfl, rfl, rfl, rfl, f2, hr2⟩
            refine V.aload_n (pc := 91) dX12_behindSum_91 rfl ?_
            refine V.invV0 (as := []) (pc := 92) dX12_behindSum_92 lX12_155 bX12_next nX12_next (ci := 11) rfl eX12_next hM.o (c_next (d := d + 1) (N := N) (tt := tt) (i := i + 1) hM ((f1.tr f2).tp hT) hr2.1.2.1) (by omega) rfl (Nat.le_of_ble_eq_true rfl) ?_
            rintro _ _ _ I3 J3 _ ⟨rfl, rfl, rfl, rfl, f3, k3⟩
            refine V.iconst (v := 1) (pc := 95) dX12_behindSum_95 (by decide) ?_
            exact V.iret (pc := 96) dX12_behindSum_96 rfl ⟨rfl, rfl, rfl, rfl, (f1.tr f2).tr f3.pr, hr2.nx rfl f3 k3⟩
          · by_cases q31 : inr P = 31
            · by_cases q93 : kdT tt N i = 93
              · have ea : aop (kdT tt N i) = 0 := aop_none q43 q45 q42 q47 q37
                obtain ⟨x9, P9, e9⟩ := top_sq P C hsq q31 h32
                have hbp := brk_pos P (by rw [q31]; decide)
                have hi1 : i + 1 ≤ 400 := by have := nxt hE hiE (by omega); omega
                have eF : fSum (kdT tt N) test (i, false, C, v, P, oo) = (3, (i + 1, false, (stl 5 P C).2, v, P9, oo - 1)) := by rw [fSum]; simp only [r_i, r_P, r_C, r_v, r_o]; rw [if_neg (by rw [ea]; decide), if_pos q31, if_pos q93, e9]; rfl
                rw [eF]
                refine V.aload_n (pc := 0) dX12_behindSum_0 rfl ?_
                refine V.bipush (v := 43) (pc := 1) dX12_behindSum_1 (by decide) ?_
                refine V.pV (as := [_]) (pc := 3) dX12_behindSum_3 lX12_222 bX12_isSign nX12_isSign (ci := 11) rfl eX12_isSign hM.o (c_isSign (d := d + 2) (N := N) (i := i) (tt := tt) (c := 43) _ hM hr.1 hT.2.1 (by decide) rfl) (by omega) rfl (Nat.le_of_ble_eq_true rfl) ?_
                rw [bi_f (show ¬ kdT tt N i = ((43 : Nat) : Int) from q43)]
                refine V.if_eq 14 (pc := 6) dX12_behindSum_6 (by decide) (fun h6 => ?_) (fun h6 => absurd rfl h6)
                refine V.aload_n (pc := 14) dX12_behindSum_14 rfl ?_
                refine V.bipush (v := 45) (pc := 15) dX12_behindSum_15 (by decide) ?_
                refine V.pV (as := [_]) (pc := 17) dX12_behindSum_17 lX12_222 bX12_isSign nX12_isSign (ci := 11) rfl eX12_isSign hM.o (c_isSign (d := d + 2) (N := N) (i := i) (tt := tt) (c := 45) _ hM hr.1 hT.2.1 (by decide) rfl) (by omega) rfl (Nat.le_of_ble_eq_true rfl) ?_
                rw [bi_f (show ¬ kdT tt N i = ((45 : Nat) : Int) from q45)]
                refine V.if_eq 28 (pc := 20) dX12_behindSum_20 (by decide) (fun h20 => ?_) (fun h20 => absurd rfl h20)
                refine V.aload_n (pc := 28) dX12_behindSum_28 rfl ?_
                refine V.bipush (v := 42) (pc := 29) dX12_behindSum_29 (by decide) ?_
                refine V.pV (as := [_]) (pc := 31) dX12_behindSum_31 lX12_222 bX12_isSign nX12_isSign (ci := 11) rfl eX12_isSign hM.o (c_isSign (d := d + 2) (N := N) (i := i) (tt := tt) (c := 42) _ hM hr.1 hT.2.1 (by decide) rfl) (by omega) rfl (Nat.le_of_ble_eq_true rfl) ?_
                rw [bi_f (show ¬ kdT tt N i = ((42 : Nat) : Int) from q42)]
                refine V.if_eq 42 (pc := 34) dX12_behindSum_34 (by decide) (fun h34 => ?_) (fun h34 => absurd rfl h34)
                refine V.aload_n (pc := 42) dX12_behindSum_42 rfl ?_
                refine V.bipush (v := 47) (pc := 43) dX12_behindSum_43 (by decide) ?_
                refine V.pV (as := [_]) (pc := 45) dX12_behindSum_45 lX12_222 bX12_isSign nX12_isSign (ci := 11) rfl eX12_isSign hM.o (c_isSign (d := d + 2) (N := N) (i := i) (tt := tt) (c := 47) _ hM hr.1 hT.2.1 (by decide) rfl) (by omega) rfl (Nat.le_of_ble_eq_true rfl) ?_
                rw [bi_f (show ¬ kdT tt N i = ((47 : Nat) : Int) from q47)]
                refine V.if_eq 56 (pc := 48) dX12_behindSum_48 (by decide) (fun h48 => ?_) (fun h48 => absurd rfl h48)
                refine V.aload_n (pc := 56) dX12_behindSum_56 rfl ?_
                refine V.bipush (v := 37) (pc := 57) dX12_behindSum_57 (by decide) ?_
                refine V.pV (as := [_]) (pc := 59) dX12_behindSum_59 lX12_222 bX12_isSign nX12_isSign (ci := 11) rfl eX12_isSign hM.o (c_isSign (d := d + 2) (N := N) (i := i) (tt := tt) (c := 37) _ hM hr.1 hT.2.1 (by decide) rfl) (by omega) rfl (Nat.le_of_ble_eq_true rfl) ?_
                rw [bi_f (show ¬ kdT tt N i = ((37 : Nat) : Int) from q37)]
                refine V.if_eq 70 (pc := 62) dX12_behindSum_62 (by decide) (fun h62 => ?_) (fun h62 => absurd rfl h62)
                refine V.iconst (v := (-1)) (pc := 70) dX12_behindSum_70 (by decide) ?_
                refine V.isn (pc := 71) dX12_behindSum_71 (by decide) (st1_2 rfl) ?_
                refine V.iload_n (pc := 72) dX12_behindSum_72 rfl ?_
                refine V.iconst (v := (-1)) (pc := 73) dX12_behindSum_73 (by decide) ?_
                refine V.icmp_eq 97 (pc := 74) dX12_behindSum_74 (by decide) (fun h74 => ?_) (fun h74 => absurd rfl h74)
                refine V.aload_n (pc := 97) dX12_behindSum_97 rfl ?_
                refine V.pV (as := []) (pc := 98) dX12_behindSum_98 lX12_246 bX12_inner nX12_inner (ci := 11) rfl eX12_inner hM.o (c_inner (d := d + 2) (r := (i, false, C, v, P, oo)) hM hr (by show P.length ≤ 400; omega) h32) (by omega) rfl (Nat.le_of_ble_eq_true rfl) ?_
                refine V.isn (pc := 101) dX12_behindSum_101 (by decide) (st1_3 rfl) ?_
                refine V.iload_n (pc := 102) dX12_behindSum_102 rfl ?_
                refine V.bipush (v := 31) (pc := 103) dX12_behindSum_103 (by decide) ?_
                refine V.icmp_ne 152 (pc := 105) dX12_behindSum_105 (by decide) (fun h105 => absurd ((ivn_31 hin32).mpr q31) h105) (fun h105 => ?_)
                refine V.aload_n (pc := 108) dX12_behindSum_108 rfl ?_
                refine V.aload_n (pc := 109) dX12_behindSum_109 rfl ?_
                refine V.bipush (v := 93) (pc := 110) dX12_behindSum_110 (by decide) ?_
                refine V.pV (as := [_]) (pc := 112) dX12_behindSum_112 lX12_222 bX12_isSign nX12_isSign (ci := 11) rfl eX12_isSign hM.o (c_isSign (d := d + 2) (N := N) (i := i) (tt := tt) (c := 93) _ hM hr.1 hT.2.1 (by decide) rfl) (by omega) rfl (Nat.le_of_ble_eq_true rfl) ?_
                rw [bi_t (show kdT tt N i = ((93 : Nat) : Int) from q93)]
                refine V.invV0 (as := [_]) (pc := 115) dX12_behindSum_115 lX12_184 bX12_must nX12_must (ci := 11) rfl eX12_must hM.o (c_mustY (d := d + 0) (N := N) (tt := tt) _ hM hT hr rfl (by decide)) (by omega) rfl (Nat.le_of_ble_eq_true rfl) ?_
                rintro _ _ _ I1 J1 _ ⟨rfl, rfl, rfl, rfl, f1, hr1⟩
                refine V.aload_n (pc := 118) dX12_behindSum_118 rfl ?_
                refine V.getI (pc := 119) dX12_behindSum_119 fX12_151_11 rfl hM.o ?_
                rw [show I1 m 14 = 0 from hr1.2.1]
                refine V.if_ne 150 (pc := 122) dX12_behindSum_122 (by decide) (fun h122 => absurd rfl h122) (fun h122 => ?_)
                refine V.aload_n (pc := 125) dX12_behindSum_125 rfl ?_
                refine V.iconst (v := 5) (pc := 126) dX12_behindSum_126 (by decide) ?_
                refine V.invV0 (as := [_]) (pc := 127) dX12_behindSum_127 lX12_243 bX12_settle nX12_settle (ci := 11) rfl eX12_settle hM.o (c_settle (d := d + 1) (N := N) (tt := tt) (L := 5) _ hM (f1.tp hT) hr1 hi1 (hinv.mono (Nat.le_succ _)) rfl (by decide)) (by omega) rfl (Nat.le_of_ble_eq_true rfl) ?_
                rintro _ _ _ I2 J2 _ ⟨rfl, rfl, rfl, rfl, f2, rfl, hr2⟩
                refine V.aload_n (pc := 130) dX12_behindSum_130 rfl ?_
                refine V.dup (pc := 131) dX12_behindSum_131 rfl ?_
                refine V.getI (pc := 132) dX12_behindSum_132 fX12_191_11 rfl hM.o ?_
                rw [show I2 m 23 = nI (P9.length + 1) from by have z := hr2.2.2.2.2.2.1; simp only [r_P] at z; rw [e9] at z; exact z]
                refine V.iconst (v := 1) (pc := 135) dX12_behindSum_135 (by decide) ?_
                refine V.isub (pc := 136) dX12_behindSum_136 ?_
                rw [nI_pred]
                refine V.putI (pc := 137) dX12_behindSum_137 fX12_191_11 (fun r h => by cases h; exact Or.inl rfl) rfl hM.o ?_
                refine V.aload_n (pc := 140) dX12_behindSum_140 rfl ?_
                refine V.dup (pc := 141) dX12_behindSum_141 rfl ?_
                refine V.getI (pc := 142) dX12_behindSum_142 fX12_213_11 rfl hM.o ?_
                rw [up2_ne (by omega), show I2 m 24 = nI oo from hr2.2.2.2.2.2.2.2]
                refine V.iconst (v := 1) (pc := 145) dX12_behindSum_145 (by decide) ?_
                refine V.isub (pc := 146) dX12_behindSum_146 ?_
                rw [L1, pk_sub (by omega)]
                refine V.putI (pc := 147) dX12_behindSum_147 fX12_213_11 (fun r h => by cases h; exact Or.inl rfl) rfl hM.o ?_
                refine V.iconst (v := 3) (pc := 150) dX12_behindSum_150 (by decide) ?_
                exact V.iret (pc := 151) dX12_behindSum_151 rfl ⟨rfl, rfl, rfl, rfl, ((f1.tr f2).up (by omega)).up (by omega), hr2.set (P := P9) (v := v) (o := oo - 1) (fun b hb => by rw [up2_off hb, up2_off hb]) (fun k h1 h2 h3 => by rw [up2_ne (by omega), up2_ne (by omega)]) (by rw [up2_ne (by omega), up2_ne (by omega)]; exact hr2.2.2.2.2.1) (by rw [up2_ne (by omega), up2_same]) up2_same (by have z := hr2.2.2.2.2.2.2.1; simp only [r_P] at z; rw [e9] at z; exact z.2)⟩
              · have ea : aop (kdT tt N i) = 0 := aop_none q43 q45 q42 q47 q37
                have eF : fSum (kdT tt N) test (i, false, C, v, P, oo) = (3, badR (i, false, C, v, P, oo)) := by rw [fSum]; simp only [r_i, r_P, r_C, r_v, r_o]; rw [if_neg (by rw [ea]; decide), if_pos q31, if_neg q93]
                rw [eF]
                refine V.aload_n (pc := 0) dX12_behindSum_0 rfl ?_
                refine V.bipush (v := 43) (pc := 1) dX12_behindSum_1 (by decide) ?_
                refine V.pV (as := [_]) (pc := 3) dX12_behindSum_3 lX12_222 bX12_isSign nX12_isSign (ci := 11) rfl eX12_isSign hM.o (c_isSign (d := d + 2) (N := N) (i := i) (tt := tt) (c := 43) _ hM hr.1 hT.2.1 (by decide) rfl) (by omega) rfl (Nat.le_of_ble_eq_true rfl) ?_
                rw [bi_f (show ¬ kdT tt N i = ((43 : Nat) : Int) from q43)]
                refine V.if_eq 14 (pc := 6) dX12_behindSum_6 (by decide) (fun h6 => ?_) (fun h6 => absurd rfl h6)
                refine V.aload_n (pc := 14) dX12_behindSum_14 rfl ?_
                refine V.bipush (v := 45) (pc := 15) dX12_behindSum_15 (by decide) ?_
                refine V.pV (as := [_]) (pc := 17) dX12_behindSum_17 lX12_222 bX12_isSign nX12_isSign (ci := 11) rfl eX12_isSign hM.o (c_isSign (d := d + 2) (N := N) (i := i) (tt := tt) (c := 45) _ hM hr.1 hT.2.1 (by decide) rfl) (by omega) rfl (Nat.le_of_ble_eq_true rfl) ?_
                rw [bi_f (show ¬ kdT tt N i = ((45 : Nat) : Int) from q45)]
                refine V.if_eq 28 (pc := 20) dX12_behindSum_20 (by decide) (fun h20 => ?_) (fun h20 => absurd rfl h20)
                refine V.aload_n (pc := 28) dX12_behindSum_28 rfl ?_
                refine V.bipush (v := 42) (pc := 29) dX12_behindSum_29 (by decide) ?_
                refine V.pV (as := [_]) (pc := 31) dX12_behindSum_31 lX12_222 bX12_isSign nX12_isSign (ci := 11) rfl eX12_isSign hM.o (c_isSign (d := d + 2) (N := N) (i := i) (tt := tt) (c := 42) _ hM hr.1 hT.2.1 (by decide) rfl) (by omega) rfl (Nat.le_of_ble_eq_true rfl) ?_
                rw [bi_f (show ¬ kdT tt N i = ((42 : Nat) : Int) from q42)]
                refine V.if_eq 42 (pc := 34) dX12_behindSum_34 (by decide) (fun h34 => ?_) (fun h34 => absurd rfl h34)
                refine V.aload_n (pc := 42) dX12_behindSum_42 rfl ?_
                refine V.bipush (v := 47) (pc := 43) dX12_behindSum_43 (by decide) ?_
                refine V.pV (as := [_]) (pc := 45) dX12_behindSum_45 lX12_222 bX12_isSign nX12_isSign (ci := 11) rfl eX12_isSign hM.o (c_isSign (d := d + 2) (N := N) (i := i) (tt := tt) (c := 47) _ hM hr.1 hT.2.1 (by decide) rfl) (by omega) rfl (Nat.le_of_ble_eq_true rfl) ?_
                rw [bi_f (show ¬ kdT tt N i = ((47 : Nat) : Int) from q47)]
                refine V.if_eq 56 (pc := 48) dX12_behindSum_48 (by decide) (fun h48 => ?_) (fun h48 => absurd rfl h48)
                refine V.aload_n (pc := 56) dX12_behindSum_56 rfl ?_
                refine V.bipush (v := 37) (pc := 57) dX12_behindSum_57 (by decide) ?_
                refine V.pV (as := [_]) (pc := 59) dX12_behindSum_59 lX12_222 bX12_isSign nX12_isSign (ci := 11) rfl eX12_isSign hM.o (c_isSign (d := d + 2) (N := N) (i := i) (tt := tt) (c := 37) _ hM hr.1 hT.2.1 (by decide) rfl) (by omega) rfl (Nat.le_of_ble_eq_true rfl) ?_
                rw [bi_f (show ¬ kdT tt N i = ((37 : Nat) : Int) from q37)]
                refine V.if_eq 70 (pc := 62) dX12_behindSum_62 (by decide) (fun h62 => ?_) (fun h62 => absurd rfl h62)
                refine V.iconst (v := (-1)) (pc := 70) dX12_behindSum_70 (by decide) ?_
                refine V.isn (pc := 71) dX12_behindSum_71 (by decide) (st1_2 rfl) ?_
                refine V.iload_n (pc := 72) dX12_behindSum_72 rfl ?_
                refine V.iconst (v := (-1)) (pc := 73) dX12_behindSum_73 (by decide) ?_
                refine V.icmp_eq 97 (pc := 74) dX12_behindSum_74 (by decide) (fun h74 => ?_) (fun h74 => absurd rfl h74)
                refine V.aload_n (pc := 97) dX12_behindSum_97 rfl ?_
                refine V.pV (as := []) (pc := 98) dX12_behindSum_98 lX12_246 bX12_inner nX12_inner (ci := 11) rfl eX12_inner hM.o (c_inner (d := d + 2) (r := (i, false, C, v, P, oo)) hM hr (by show P.length ≤ 400; omega) h32) (by omega) rfl (Nat.le_of_ble_eq_true rfl) ?_
                refine V.isn (pc := 101) dX12_behindSum_101 (by decide) (st1_3 rfl) ?_
                refine V.iload_n (pc := 102) dX12_behindSum_102 rfl ?_
                refine V.bipush (v := 31) (pc := 103) dX12_behindSum_103 (by decide) ?_
                refine V.icmp_ne 152 (pc := 105) dX12_behindSum_105 (by decide) (fun h105 => absurd ((ivn_31 hin32).mpr q31) h105) (fun h105 => ?_)
                refine V.aload_n (pc := 108) dX12_behindSum_108 rfl ?_
                refine V.aload_n (pc := 109) dX12_behindSum_109 rfl ?_
                refine V.bipush (v := 93) (pc := 110) dX12_behindSum_110 (by decide) ?_
                refine V.pV (as := [_]) (pc := 112) dX12_behindSum_112 lX12_222 bX12_isSign nX12_isSign (ci := 11) rfl eX12_isSign hM.o (c_isSign (d := d + 2) (N := N) (i := i) (tt := tt) (c := 93) _ hM hr.1 hT.2.1 (by decide) rfl) (by omega) rfl (Nat.le_of_ble_eq_true rfl) ?_
                rw [bi_f (show ¬ kdT tt N i = ((93 : Nat) : Int) from q93)]
                refine V.invV0 (as := [_]) (pc := 115) dX12_behindSum_115 lX12_184 bX12_must nX12_must (ci := 11) rfl eX12_must hM.o (c_mustN (d := d + 0) (N := N) (tt := tt) hM hT hr rfl) (by omega) rfl (Nat.le_of_ble_eq_true rfl) ?_
                rintro _ _ _ I1 J1 _ ⟨rfl, rfl, rfl, rfl, f1, hr1⟩
                refine V.aload_n (pc := 118) dX12_behindSum_118 rfl ?_
                refine V.getI (pc := 119) dX12_behindSum_119 fX12_151_11 rfl hM.o ?_
                rw [show I1 m 14 = 1 from hr1.2.1]
                refine V.if_ne 150 (pc := 122) dX12_behindSum_122 (by decide) (fun h122 => ?_) (fun h122 => absurd h122 (by decide))
                refine V.iconst (v := 3) (pc := 150) dX12_behindSum_150 (by decide) ?_
                exact V.iret (pc := 151) dX12_behindSum_151 rfl ⟨rfl, rfl, rfl, rfl, f1, hr1⟩
            · by_cases qov : inr P = 0 ∧ test = false
              · have ea : aop (kdT tt N i) = 0 := aop_none q43 q45 q42 q47 q37
                have eF : fSum (kdT tt N) test (i, false, C, v, P, oo) = (4, (i, false, C, v, P, oo)) := by rw [fSum]; simp only [r_i, r_P, r_C, r_v, r_o]; rw [if_neg (by rw [ea]; decide), if_neg q31, if_pos qov]
                rw [eF]
                refine V.aload_n (pc := 0) dX12_behindSum_0 rfl ?_
                refine V.bipush (v := 43) (pc := 1) dX12_behindSum_1 (by decide) ?_
                refine V.pV (as := [_]) (pc := 3) dX12_behindSum_3 lX12_222 bX12_isSign nX12_isSign (ci := 11) rfl eX12_isSign hM.o (c_isSign (d := d + 2) (N := N) (i := i) (tt := tt) (c := 43) _ hM hr.1 hT.2.1 (by decide) rfl) (by omega) rfl (Nat.le_of_ble_eq_true rfl) ?_
                rw [bi_f (show ¬ kdT tt N i = ((43 : Nat) : Int) from q43)]
                refine V.if_eq 14 (pc := 6) dX12_behindSum_6 (by decide) (fun h6 => ?_) (fun h6 => absurd rfl h6)
                refine V.aload_n (pc := 14) dX12_behindSum_14 rfl ?_
                refine V.bipush (v := 45) (pc := 15) dX12_behindSum_15 (by decide) ?_
                refine V.pV (as := [_]) (pc := 17) dX12_behindSum_17 lX12_222 bX12_isSign nX12_isSign (ci := 11) rfl eX12_isSign hM.o (c_isSign (d := d + 2) (N := N) (i := i) (tt := tt) (c := 45) _ hM hr.1 hT.2.1 (by decide) rfl) (by omega) rfl (Nat.le_of_ble_eq_true rfl) ?_
                rw [bi_f (show ¬ kdT tt N i = ((45 : Nat) : Int) from q45)]
                refine V.if_eq 28 (pc := 20) dX12_behindSum_20 (by decide) (fun h20 => ?_) (fun h20 => absurd rfl h20)
                refine V.aload_n (pc := 28) dX12_behindSum_28 rfl ?_
                refine V.bipush (v := 42) (pc := 29) dX12_behindSum_29 (by decide) ?_
                refine V.pV (as := [_]) (pc := 31) dX12_behindSum_31 lX12_222 bX12_isSign nX12_isSign (ci := 11) rfl eX12_isSign hM.o (c_isSign (d := d + 2) (N := N) (i := i) (tt := tt) (c := 42) _ hM hr.1 hT.2.1 (by decide) rfl) (by omega) rfl (Nat.le_of_ble_eq_true rfl) ?_
                rw [bi_f (show ¬ kdT tt N i = ((42 : Nat) : Int) from q42)]
                refine V.if_eq 42 (pc := 34) dX12_behindSum_34 (by decide) (fun h34 => ?_) (fun h34 => absurd rfl h34)
                refine V.aload_n (pc := 42) dX12_behindSum_42 rfl ?_
                refine V.bipush (v := 47) (pc := 43) dX12_behindSum_43 (by decide) ?_
                refine V.pV (as := [_]) (pc := 45) dX12_behindSum_45 lX12_222 bX12_isSign nX12_isSign (ci := 11) rfl eX12_isSign hM.o (c_isSign (d := d + 2) (N := N) (i := i) (tt := tt) (c := 47) _ hM hr.1 hT.2.1 (by decide) rfl) (by omega) rfl (Nat.le_of_ble_eq_true rfl) ?_
                rw [bi_f (show ¬ kdT tt N i = ((47 : Nat) : Int) from q47)]
                refine V.if_eq 56 (pc := 48) dX12_behindSum_48 (by decide) (fun h48 => ?_) (fun h48 => absurd rfl h48)
                refine V.aload_n (pc := 56) dX12_behindSum_56 rfl ?_
                refine V.bipush (v := 37) (pc := 57) dX12_behindSum_57 (by decide) ?_
                refine V.pV (as := [_]) (pc := 59) dX12_behindSum_59 lX12_222 bX12_isSign nX12_isSign (ci := 11) rfl eX12_isSign hM.o (c_isSign (d := d + 2) (N := N) (i := i) (tt := tt) (c := 37) _ hM hr.1 hT.2.1 (by decide) rfl) (by omega) rfl (Nat.le_of_ble_eq_true rfl) ?_
                rw [bi_f (show ¬ kdT tt N i = ((37 : Nat) : Int) from q37)]
                refine V.if_eq 70 (pc := 62) dX12_behindSum_62 (by decide) (fun h62 => ?_) (fun h62 => absurd rfl h62)
                refine V.iconst (v := (-1)) (pc := 70) dX12_behindSum_70 (by decide) ?_
                refine V.isn (pc := 71) dX12_behindSum_71 (by decide) (st1_2 rfl) ?_
                refine V.iload_n (pc := 72) dX12_behindSum_72 rfl ?_
                refine V.iconst (v := (-1)) (pc := 73) dX12_behindSum_73 (by decide) ?_
                refine V.icmp_eq 97 (pc := 74) dX12_behindSum_74 (by decide) (fun h74 => ?_) (fun h74 => absurd rfl h74)
                refine V.aload_n (pc := 97) dX12_behindSum_97 rfl ?_
                refine V.pV (as := []) (pc := 98) dX12_behindSum_98 lX12_246 bX12_inner nX12_inner (ci := 11) rfl eX12_inner hM.o (c_inner (d := d + 2) (r := (i, false, C, v, P, oo)) hM hr (by show P.length ≤ 400; omega) h32) (by omega) rfl (Nat.le_of_ble_eq_true rfl) ?_
                refine V.isn (pc := 101) dX12_behindSum_101 (by decide) (st1_3 rfl) ?_
                refine V.iload_n (pc := 102) dX12_behindSum_102 rfl ?_
                refine V.bipush (v := 31) (pc := 103) dX12_behindSum_103 (by decide) ?_
                refine V.icmp_ne 152 (pc := 105) dX12_behindSum_105 (by decide) (fun h105 => ?_) (fun h105 => absurd h105 (fun z => q31 ((ivn_31 hin32).mp z)))
                refine V.iload_n (pc := 152) dX12_behindSum_152 rfl ?_
                refine V.iconst (v := (-1)) (pc := 153) dX12_behindSum_153 (by decide) ?_
                refine V.icmp_ne 163 (pc := 154) dX12_behindSum_154 (by decide) (fun h154 => absurd ((ivn_m1 hin32).mpr qov.1) h154) (fun h154 => ?_)
                refine V.iload_n (pc := 157) dX12_behindSum_157 rfl ?_
                refine V.if_ne 163 (pc := 158) dX12_behindSum_158 (by decide) (fun h158 => absurd (by rw [qov.2]; rfl) h158) (fun h158 => ?_)
                refine V.iconst (v := 4) (pc := 161) dX12_behindSum_161 (by decide) ?_
                exact V.iret (pc := 162) dX12_behindSum_162 rfl ⟨rfl, rfl, rfl, rfl, PrF.rf, hr⟩
              · by_cases qcp : cpd P = true
                · have ea : aop (kdT tt N i) = 0 := aop_none q43 q45 q42 q47 q37
                  have eF : fSum (kdT tt N) test (i, false, C, v, P, oo) = (2, (i, false, C, v, P, oo)) := by rw [fSum]; simp only [r_i, r_P, r_C, r_v, r_o]; rw [if_neg (by rw [ea]; decide), if_neg q31, if_neg qov, if_pos qcp]
                  rw [eF]
                  refine V.aload_n (pc := 0) dX12_behindSum_0 rfl ?_
                  refine V.bipush (v := 43) (pc := 1) dX12_behindSum_1 (by decide) ?_
                  refine V.pV (as := [_]) (pc := 3) dX12_behindSum_3 lX12_222 bX12_isSign nX12_isSign (ci := 11) rfl eX12_isSign hM.o (c_isSign (d := d + 2) (N := N) (i := i) (tt := tt) (c := 43) _ hM hr.1 hT.2.1 (by decide) rfl) (by omega) rfl (Nat.le_of_ble_eq_true rfl) ?_
                  rw [bi_f (show ¬ kdT tt N i = ((43 : Nat) : Int) from q43)]
                  refine V.if_eq 14 (pc := 6) dX12_behindSum_6 (by decide) (fun h6 => ?_) (fun h6 => absurd rfl h6)
                  refine V.aload_n (pc := 14) dX12_behindSum_14 rfl ?_
                  refine V.bipush (v := 45) (pc := 15) dX12_behindSum_15 (by decide) ?_
                  refine V.pV (as := [_]) (pc := 17) dX12_behindSum_17 lX12_222 bX12_isSign nX12_isSign (ci := 11) rfl eX12_isSign hM.o (c_isSign (d := d + 2) (N := N) (i := i) (tt := tt) (c := 45) _ hM hr.1 hT.2.1 (by decide) rfl) (by omega) rfl (Nat.le_of_ble_eq_true rfl) ?_
                  rw [bi_f (show ¬ kdT tt N i = ((45 : Nat) : Int) from q45)]
                  refine V.if_eq 28 (pc := 20) dX12_behindSum_20 (by decide) (fun h20 => ?_) (fun h20 => absurd rfl h20)
                  refine V.aload_n (pc := 28) dX12_behindSum_28 rfl ?_
                  refine V.bipush (v := 42) (pc := 29) dX12_behindSum_29 (by decide) ?_
                  refine V.pV (as := [_]) (pc := 31) dX12_behindSum_31 lX12_222 bX12_isSign nX12_isSign (ci := 11) rfl eX12_isSign hM.o (c_isSign (d := d + 2) (N := N) (i := i) (tt := tt) (c := 42) _ hM hr.1 hT.2.1 (by decide) rfl) (by omega) rfl (Nat.le_of_ble_eq_true rfl) ?_
                  rw [bi_f (show ¬ kdT tt N i = ((42 : Nat) : Int) from q42)]
                  refine V.if_eq 42 (pc := 34) dX12_behindSum_34 (by decide) (fun h34 => ?_) (fun h34 => absurd rfl h34)
                  refine V.aload_n (pc := 42) dX12_behindSum_42 rfl ?_
                  refine V.bipush (v := 47) (pc := 43) dX12_behindSum_43 (by decide) ?_
                  refine V.pV (as := [_]) (pc := 45) dX12_behindSum_45 lX12_222 bX12_isSign nX12_isSign (ci := 11) rfl eX12_isSign hM.o (c_isSign (d := d + 2) (N := N) (i := i) (tt := tt) (c := 47) _ hM hr.1 hT.2.1 (by decide) rfl) (by omega) rfl (Nat.le_of_ble_eq_true rfl) ?_
                  rw [bi_f (show ¬ kdT tt N i = ((47 : Nat) : Int) from q47)]
                  refine V.if_eq 56 (pc := 48) dX12_behindSum_48 (by decide) (fun h48 => ?_) (fun h48 => absurd rfl h48)
                  refine V.aload_n (pc := 56) dX12_behindSum_56 rfl ?_
                  refine V.bipush (v := 37) (pc := 57) dX12_behindSum_57 (by decide) ?_
                  refine V.pV (as := [_]) (pc := 59) dX12_behindSum_59 lX12_222 bX12_isSign nX12_isSign (ci := 11) rfl eX12_isSign hM.o (c_isSign (d := d + 2) (N := N) (i := i) (tt := tt) (c := 37) _ hM hr.1 hT.2.1 (by decide) rfl) (by omega) rfl (Nat.le_of_ble_eq_true rfl) ?_
                  rw [bi_f (show ¬ kdT tt N i = ((37 : Nat) : Int) from q37)]
                  refine V.if_eq 70 (pc := 62) dX12_behindSum_62 (by decide) (fun h62 => ?_) (fun h62 => absurd rfl h62)
                  refine V.iconst (v := (-1)) (pc := 70) dX12_behindSum_70 (by decide) ?_
                  refine V.isn (pc := 71) dX12_behindSum_71 (by decide) (st1_2 rfl) ?_
                  refine V.iload_n (pc := 72) dX12_behindSum_72 rfl ?_
                  refine V.iconst (v := (-1)) (pc := 73) dX12_behindSum_73 (by decide) ?_
                  refine V.icmp_eq 97 (pc := 74) dX12_behindSum_74 (by decide) (fun h74 => ?_) (fun h74 => absurd rfl h74)
                  refine V.aload_n (pc := 97) dX12_behindSum_97 rfl ?_
                  refine V.pV (as := []) (pc := 98) dX12_behindSum_98 lX12_246 bX12_inner nX12_inner (ci := 11) rfl eX12_inner hM.o (c_inner (d := d + 2) (r := (i, false, C, v, P, oo)) hM hr (by show P.length ≤ 400; omega) h32) (by omega) rfl (Nat.le_of_ble_eq_true rfl) ?_
                  refine V.isn (pc := 101) dX12_behindSum_101 (by decide) (st1_3 rfl) ?_
                  refine V.iload_n (pc := 102) dX12_behindSum_102 rfl ?_
                  refine V.bipush (v := 31) (pc := 103) dX12_behindSum_103 (by decide) ?_
                  refine V.icmp_ne 152 (pc := 105) dX12_behindSum_105 (by decide) (fun h105 => ?_) (fun h105 => absurd h105 (fun z => q31 ((ivn_31 hin32).mp z)))
                  refine V.iload_n (pc := 152) dX12_behindSum_152 rfl ?_
                  refine V.iconst (v := (-1)) (pc := 153) dX12_behindSum_153 (by decide) ?_
                  refine V.icmp_ne 163 (pc := 154) dX12_behindSum_154 (by decide) (fun h154 => ?_) (fun h154 => ?_)
                  · refine V.aload_n (pc := 163) dX12_behindSum_163 rfl ?_
                    refine V.pV (as := []) (pc := 164) dX12_behindSum_164 lX12_249 bX12_isCompared nX12_isCompared (ci := 11) rfl eX12_isCompared hM.o (c_isCompared (d := d + 1) (r := (i, false, C, v, P, oo)) hM hr (by show P.length ≤ 400; omega) h32) (by omega) rfl (Nat.le_of_ble_eq_true rfl) ?_
                    rw [bi_t qcp]
                    refine V.if_eq 172 (pc := 167) dX12_behindSum_167 (by decide) (fun h167 => absurd h167 (by decide)) (fun h167 => ?_)
                    refine V.iconst (v := 2) (pc := 170) dX12_behindSum_170 (by decide) ?_
                    exact V.iret (pc := 171) dX12_behindSum_171 rfl ⟨rfl, rfl, rfl, rfl, PrF.rf, hr⟩
                  · refine V.iload_n (pc := 157) dX12_behindSum_157 rfl ?_
                    refine V.if_ne 163 (pc := 158) dX12_behindSum_158 (by decide) (fun h158 => ?_) (fun h158 => absurd ⟨(ivn_m1 hin32).mp h154, by cases test with | false => rfl | true => exact absurd h158 (by decide)⟩ qov)
                    refine V.aload_n (pc := 163) dX12_behindSum_163 rfl ?_
                    refine V.pV (as := []) (pc := 164) dX12_behindSum_164 lX12_249 bX12_isCompared nX12_isCompared (ci := 11) rfl eX12_isCompared hM.o (c_isCompared (d := d + 1) (r := (i, false, C, v, P, oo)) hM hr (by show P.length ≤ 400; omega) h32) (by omega) rfl (Nat.le_of_ble_eq_true rfl) ?_
                    rw [bi_t qcp]
                    refine V.if_eq 172 (pc := 167) dX12_behindSum_167 (by decide) (fun h167 => absurd h167 (by decide)) (fun h167 => ?_)
                    refine V.iconst (v := 2) (pc := 170) dX12_behindSum_170 (by decide) ?_
                    exact V.iret (pc := 171) dX12_behindSum_171 rfl ⟨rfl, rfl, rfl, rfl, PrF.rf, hr⟩
                · by_cases q60 : kdT tt N i = 60
                  · have ea : aop (kdT tt N i) = 0 := aop_none q43 q45 q42 q47 q37
                    have hi1 : i + 1 ≤ 400 := by have := nxt hE hiE (by omega); omega
                    have ec : cmpOp (kdT tt N i) = 24 := by rw [q60]; rfl
                    have eF : fSum (kdT tt N) test (i, false, C, v, P, oo) = (1, (i + 1, false, (stl 5 P C).2, v, (24, 0) :: (stl 5 P C).1, oo)) := by rw [fSum]; simp only [r_i, r_P, r_C, r_v, r_o]; rw [if_neg (by rw [ea]; decide), if_neg q31, if_neg qov, if_neg qcp, ec, if_pos (by decide)]
                    rw [eF]
                    refine V.aload_n (pc := 0) dX12_behindSum_0 rfl ?_
                    refine V.bipush (v := 43) (pc := 1) dX12_behindSum_1 (by decide) ?_
                    refine V.pV (as := [_]) (pc := 3) dX12_behindSum_3 lX12_222 bX12_isSign nX12_isSign (ci := 11) rfl eX12_isSign hM.o (c_isSign (d := d + 2) (N := N) (i := i) (tt := tt) (c := 43) _ hM hr.1 hT.2.1 (by decide) rfl) (by omega) rfl (Nat.le_of_ble_eq_true rfl) ?_
                    rw [bi_f (show ¬ kdT tt N i = ((43 : Nat) : Int) from q43)]
                    refine V.if_eq 14 (pc := 6) dX12_behindSum_6 (by decide) (fun h6 => ?_) (fun h6 => absurd rfl h6)
                    refine V.aload_n (pc := 14) dX12_behindSum_14 rfl ?_
                    refine V.bipush (v := 45) (pc := 15) dX12_behindSum_15 (by decide) ?_
                    refine V.pV (as := [_]) (pc := 17) dX12_behindSum_17 lX12_222 bX12_isSign nX12_isSign (ci := 11) rfl eX12_isSign hM.o (c_isSign (d := d + 2) (N := N) (i := i) (tt := tt) (c := 45) _ hM hr.1 hT.2.1 (by decide) rfl) (by omega) rfl (Nat.le_of_ble_eq_true rfl) ?_
                    rw [bi_f (show ¬ kdT tt N i = ((45 : Nat) : Int) from q45)]
                    refine V.if_eq 28 (pc := 20) dX12_behindSum_20 (by decide) (fun h20 => ?_) (fun h20 => absurd rfl h20)
                    refine V.aload_n (pc := 28) dX12_behindSum_28 rfl ?_
                    refine V.bipush (v := 42) (pc := 29) dX12_behindSum_29 (by decide) ?_
                    refine V.pV (as := [_]) (pc := 31) dX12_behindSum_31 lX12_222 bX12_isSign nX12_isSign (ci := 11) rfl eX12_isSign hM.o (c_isSign (d := d + 2) (N := N) (i := i) (tt := tt) (c := 42) _ hM hr.1 hT.2.1 (by decide) rfl) (by omega) rfl (Nat.le_of_ble_eq_true rfl) ?_
                    rw [bi_f (show ¬ kdT tt N i = ((42 : Nat) : Int) from q42)]
                    refine V.if_eq 42 (pc := 34) dX12_behindSum_34 (by decide) (fun h34 => ?_) (fun h34 => absurd rfl h34)
                    refine V.aload_n (pc := 42) dX12_behindSum_42 rfl ?_
                    refine V.bipush (v := 47) (pc := 43) dX12_behindSum_43 (by decide) ?_
                    refine V.pV (as := [_]) (pc := 45) dX12_behindSum_45 lX12_222 bX12_isSign nX12_isSign (ci := 11) rfl eX12_isSign hM.o (c_isSign (d := d + 2) (N := N) (i := i) (tt := tt) (c := 47) _ hM hr.1 hT.2.1 (by decide) rfl) (by omega) rfl (Nat.le_of_ble_eq_true rfl) ?_
                    rw [bi_f (show ¬ kdT tt N i = ((47 : Nat) : Int) from q47)]
                    refine V.if_eq 56 (pc := 48) dX12_behindSum_48 (by decide) (fun h48 => ?_) (fun h48 => absurd rfl h48)
                    refine V.aload_n (pc := 56) dX12_behindSum_56 rfl ?_
                    refine V.bipush (v := 37) (pc := 57) dX12_behindSum_57 (by decide) ?_
                    refine V.pV (as := [_]) (pc := 59) dX12_behindSum_59 lX12_222 bX12_isSign nX12_isSign (ci := 11) rfl eX12_isSign hM.o (c_isSign (d := d + 2) (N := N) (i := i) (tt := tt) (c := 37) _ hM hr.1 hT.2.1 (by decide) rfl) (by omega) rfl (Nat.le_of_ble_eq_true rfl) ?_
                    rw [bi_f (show ¬ kdT tt N i = ((37 : Nat) : Int) from q37)]
                    refine V.if_eq 70 (pc := 62) dX12_behindSum_62 (by decide) (fun h62 => ?_) (fun h62 => absurd rfl h62)
                    refine V.iconst (v := (-1)) (pc := 70) dX12_behindSum_70 (by decide) ?_
                    refine V.isn (pc := 71) dX12_behindSum_71 (by decide) (st1_2 rfl) ?_
                    refine V.iload_n (pc := 72) dX12_behindSum_72 rfl ?_
                    refine V.iconst (v := (-1)) (pc := 73) dX12_behindSum_73 (by decide) ?_
                    refine V.icmp_eq 97 (pc := 74) dX12_behindSum_74 (by decide) (fun h74 => ?_) (fun h74 => absurd rfl h74)
                    refine V.aload_n (pc := 97) dX12_behindSum_97 rfl ?_
                    refine V.pV (as := []) (pc := 98) dX12_behindSum_98 lX12_246 bX12_inner nX12_inner (ci := 11) rfl eX12_inner hM.o (c_inner (d := d + 2) (r := (i, false, C, v, P, oo)) hM hr (by show P.length ≤ 400; omega) h32) (by omega) rfl (Nat.le_of_ble_eq_true rfl) ?_
                    refine V.isn (pc := 101) dX12_behindSum_101 (by decide) (st1_3 rfl) ?_
                    refine V.iload_n (pc := 102) dX12_behindSum_102 rfl ?_
                    refine V.bipush (v := 31) (pc := 103) dX12_behindSum_103 (by decide) ?_
                    refine V.icmp_ne 152 (pc := 105) dX12_behindSum_105 (by decide) (fun h105 => ?_) (fun h105 => absurd h105 (fun z => q31 ((ivn_31 hin32).mp z)))
                    refine V.iload_n (pc := 152) dX12_behindSum_152 rfl ?_
                    refine V.iconst (v := (-1)) (pc := 153) dX12_behindSum_153 (by decide) ?_
                    refine V.icmp_ne 163 (pc := 154) dX12_behindSum_154 (by decide) (fun h154 => ?_) (fun h154 => ?_)
                    · refine V.aload_n (pc := 163) dX12_behindSum_163 rfl ?_
                      refine V.pV (as := []) (pc := 164) dX12_behindSum_164 lX12_249 bX12_isCompared nX12_isCompared (ci := 11) rfl eX12_isCompared hM.o (c_isCompared (d := d + 1) (r := (i, false, C, v, P, oo)) hM hr (by show P.length ≤ 400; omega) h32) (by omega) rfl (Nat.le_of_ble_eq_true rfl) ?_
                      rw [bi_f qcp]
                      refine V.if_eq 172 (pc := 167) dX12_behindSum_167 (by decide) (fun h167 => ?_) (fun h167 => absurd rfl h167)
                      refine V.aload_n (pc := 172) dX12_behindSum_172 rfl ?_
                      refine V.bipush (v := 60) (pc := 173) dX12_behindSum_173 (by decide) ?_
                      refine V.pV (as := [_]) (pc := 175) dX12_behindSum_175 lX12_222 bX12_isSign nX12_isSign (ci := 11) rfl eX12_isSign hM.o (c_isSign (d := d + 2) (N := N) (i := i) (tt := tt) (c := 60) _ hM hr.1 hT.2.1 (by decide) rfl) (by omega) rfl (Nat.le_of_ble_eq_true rfl) ?_
                      rw [bi_t (show kdT tt N i = ((60 : Nat) : Int) from q60)]
                      refine V.if_eq 186 (pc := 178) dX12_behindSum_178 (by decide) (fun h178 => absurd h178 (by decide)) (fun h178 => ?_)
                      refine V.bipush (v := 24) (pc := 181) dX12_behindSum_181 (by decide) ?_
                      refine V.goto 202 (pc := 183) dX12_behindSum_183 (by decide) ?_
                      refine V.isn (pc := 202) dX12_behindSum_202 (by decide) (st1_2 rfl) ?_
                      refine V.aload_n (pc := 203) dX12_behindSum_203 rfl ?_
                      refine V.iload_n (pc := 204) dX12_behindSum_204 rfl ?_
                      refine V.bipush (v := 26) (pc := 205) dX12_behindSum_205 (by decide) ?_
                      refine V.icmp_ne 219 (pc := 207) dX12_behindSum_207 (by decide) (fun h207 => ?_) (fun h207 => absurd h207 (by decide))
                      refine V.iconst (v := 1) (pc := 219) dX12_behindSum_219 (by decide) ?_
                      refine V.goto 224 (pc := 220) dX12_behindSum_220 (by decide) ?_
                      refine V.invV0 (as := [_]) (pc := 224) dX12_behindSum_224 lX12_184 bX12_must nX12_must (ci := 11) rfl eX12_must hM.o (c_mustY (d := d + 0) (N := N) (tt := tt) _ hM hT hr rfl (by decide)) (by omega) rfl (Nat.le_of_ble_eq_true rfl) ?_
                      rintro _ _ _ I1 J1 _ ⟨rfl, rfl, rfl, rfl, f1, hr1⟩
                      refine V.aload_n (pc := 227) dX12_behindSum_227 rfl ?_
                      refine V.getI (pc := 228) dX12_behindSum_228 fX12_151_11 rfl hM.o ?_
                      rw [show I1 m 14 = 0 from hr1.2.1]
                      refine V.if_ne 245 (pc := 231) dX12_behindSum_231 (by decide) (fun h231 => absurd rfl h231) (fun h231 => ?_)
                      refine V.aload_n (pc := 234) dX12_behindSum_234 rfl ?_
                      refine V.iconst (v := 5) (pc := 235) dX12_behindSum_235 (by decide) ?_
                      refine V.invV0 (as := [_]) (pc := 236) dX12_behindSum_236 lX12_243 bX12_settle nX12_settle (ci := 11) rfl eX12_settle hM.o (c_settle (d := d + 1) (N := N) (tt := tt) (L := 5) _ hM (f1.tp hT) hr1 hi1 (hinv.mono (Nat.le_succ _)) rfl (by decide)) (by omega) rfl (Nat.le_of_ble_eq_true rfl) ?_
                      rintro _ _ _ I2 J2 _ ⟨rfl, rfl, rfl, rfl, f2, rfl, hr2⟩
                      refine V.aload_n (pc := 239) dX12_behindSum_239 rfl ?_
                      refine V.iload_n (pc := 240) dX12_behindSum_240 rfl ?_
                      refine V.iconst (v := 0) (pc := 241) dX12_behindSum_241 (by decide) ?_
                      refine V.invV0 (as := [_, _]) (pc := 242) dX12_behindSum_242 lX12_216 bX12_push nX12_push (ci := 11) rfl eX12_push hM.o (c_push (d := d + 2) (N := N) (tt := tt) (op := 24) (ar := 0) _ _ hM ((f1.tr f2).tp hT) hr2 rfl rfl (by show (stl 5 P C).1.length < 400; have := (hinv.sd (L := 5) (by omega)).2.1; omega)) (by omega) rfl (Nat.le_of_ble_eq_true rfl) ?_
                      rintro _ _ _ I3 J3 _ ⟨rfl, rfl, rfl, rfl, f3, hr3⟩
                      refine V.iconst (v := 1) (pc := 245) dX12_behindSum_245 (by decide) ?_
                      exact V.iret (pc := 246) dX12_behindSum_246 rfl ⟨rfl, rfl, rfl, rfl, (f1.tr f2).tr f3, hr3⟩
                    · refine V.iload_n (pc := 157) dX12_behindSum_157 rfl ?_
                      refine V.if_ne 163 (pc := 158) dX12_behindSum_158 (by decide) (fun h158 => ?_) (fun h158 => absurd ⟨(ivn_m1 hin32).mp h154, by cases test with | false => rfl | true => exact absurd h158 (by decide)⟩ qov)
                      refine V.aload_n (pc := 163) dX12_behindSum_163 rfl ?_
                      refine V.pV (as := []) (pc := 164) dX12_behindSum_164 lX12_249 bX12_isCompared nX12_isCompared (ci := 11) rfl eX12_isCompared hM.o (c_isCompared (d := d + 1) (r := (i, false, C, v, P, oo)) hM hr (by show P.length ≤ 400; omega) h32) (by omega) rfl (Nat.le_of_ble_eq_true rfl) ?_
                      rw [bi_f qcp]
                      refine V.if_eq 172 (pc := 167) dX12_behindSum_167 (by decide) (fun h167 => ?_) (fun h167 => absurd rfl h167)
                      refine V.aload_n (pc := 172) dX12_behindSum_172 rfl ?_
                      refine V.bipush (v := 60) (pc := 173) dX12_behindSum_173 (by decide) ?_
                      refine V.pV (as := [_]) (pc := 175) dX12_behindSum_175 lX12_222 bX12_isSign nX12_isSign (ci := 11) rfl eX12_isSign hM.o (c_isSign (d := d + 2) (N := N) (i := i) (tt := tt) (c := 60) _ hM hr.1 hT.2.1 (by decide) rfl) (by omega) rfl (Nat.le_of_ble_eq_true rfl) ?_
                      rw [bi_t (show kdT tt N i = ((60 : Nat) : Int) from q60)]
                      refine V.if_eq 186 (pc := 178) dX12_behindSum_178 (by decide) (fun h178 => absurd h178 (by decide)) (fun h178 => ?_)
                      refine V.bipush (v := 24) (pc := 181) dX12_behindSum_181 (by decide) ?_
                      refine V.goto 202 (pc := 183) dX12_behindSum_183 (by decide) ?_
                      refine V.isn (pc := 202) dX12_behindSum_202 (by decide) (st1_2 rfl) ?_
                      refine V.aload_n (pc := 203) dX12_behindSum_203 rfl ?_
                      refine V.iload_n (pc := 204) dX12_behindSum_204 rfl ?_
                      refine V.bipush (v := 26) (pc := 205) dX12_behindSum_205 (by decide) ?_
                      refine V.icmp_ne 219 (pc := 207) dX12_behindSum_207 (by decide) (fun h207 => ?_) (fun h207 => absurd h207 (by decide))
                      refine V.iconst (v := 1) (pc := 219) dX12_behindSum_219 (by decide) ?_
                      refine V.goto 224 (pc := 220) dX12_behindSum_220 (by decide) ?_
                      refine V.invV0 (as := [_]) (pc := 224) dX12_behindSum_224 lX12_184 bX12_must nX12_must (ci := 11) rfl eX12_must hM.o (c_mustY (d := d + 0) (N := N) (tt := tt) _ hM hT hr rfl (by decide)) (by omega) rfl (Nat.le_of_ble_eq_true rfl) ?_
                      rintro _ _ _ I1 J1 _ ⟨rfl, rfl, rfl, rfl, f1, hr1⟩
                      refine V.aload_n (pc := 227) dX12_behindSum_227 rfl ?_
                      refine V.getI (pc := 228) dX12_behindSum_228 fX12_151_11 rfl hM.o ?_
                      rw [show I1 m 14 = 0 from hr1.2.1]
                      refine V.if_ne 245 (pc := 231) dX12_behindSum_231 (by decide) (fun h231 => absurd rfl h231) (fun h231 => ?_)
                      refine V.aload_n (pc := 234) dX12_behindSum_234 rfl ?_
                      refine V.iconst (v := 5) (pc := 235) dX12_behindSum_235 (by decide) ?_
                      refine V.invV0 (as := [_]) (pc := 236) dX12_behindSum_236 lX12_243 bX12_settle nX12_settle (ci := 11) rfl eX12_settle hM.o (c_settle (d := d + 1) (N := N) (tt := tt) (L := 5) _ hM (f1.tp hT) hr1 hi1 (hinv.mono (Nat.le_succ _)) rfl (by decide)) (by omega) rfl (Nat.le_of_ble_eq_true rfl) ?_
                      rintro _ _ _ I2 J2 _ ⟨rfl, rfl, rfl, rfl, f2, rfl, hr2⟩
                      refine V.aload_n (pc := 239) dX12_behindSum_239 rfl ?_
                      refine V.iload_n (pc := 240) dX12_behindSum_240 rfl ?_
                      refine V.iconst (v := 0) (pc := 241) dX12_behindSum_241 (by decide) ?_
                      refine V.invV0 (as := [_, _]) (pc := 242) dX12_behindSum_242 lX12_216 bX12_push nX12_push (ci := 11) rfl eX12_push hM.o (c_push (d := d + 2) (N := N) (tt := tt) (op := 24) (ar := 0) _ _ hM ((f1.tr f2).tp hT) hr2 rfl rfl (by show (stl 5 P C).1.length < 400; have := (hinv.sd (L := 5) (by omega)).2.1; omega)) (by omega) rfl (Nat.le_of_ble_eq_true rfl) ?_
                      rintro _ _ _ I3 J3 _ ⟨rfl, rfl, rfl, rfl, f3, hr3⟩
                      refine V.iconst (v := 1) (pc := 245) dX12_behindSum_245 (by decide) ?_
                      exact V.iret (pc := 246) dX12_behindSum_246 rfl ⟨rfl, rfl, rfl, rfl, (f1.tr f2).tr f3, hr3⟩
                  · by_cases q62 : kdT tt N i = 62
                    · have ea : aop (kdT tt N i) = 0 := aop_none q43 q45 q42 q47 q37
                      have hi1 : i + 1 ≤ 400 := by have := nxt hE hiE (by omega); omega
                      have ec : cmpOp (kdT tt N i) = 25 := by rw [q62]; rfl
                      have eF : fSum (kdT tt N) test (i, false, C, v, P, oo) = (1, (i + 1, false, (stl 5 P C).2, v, (25, 0) :: (stl 5 P C).1, oo)) := by rw [fSum]; simp only [r_i, r_P, r_C, r_v, r_o]; rw [if_neg (by rw [ea]; decide), if_neg q31, if_neg qov, if_neg qcp, ec, if_pos (by decide)]
                      rw [eF]
                      refine V.aload_n (pc := 0) dX12_behindSum_0 rfl ?_
                      refine V.bipush (v := 43) (pc := 1) dX12_behindSum_1 (by decide) ?_
                      refine V.pV (as := [_]) (pc := 3) dX12_behindSum_3 lX12_222 bX12_isSign nX12_isSign (ci := 11) rfl eX12_isSign hM.o (c_isSign (d := d + 2) (N := N) (i := i) (tt := tt) (c := 43) _ hM hr.1 hT.2.1 (by decide) rfl) (by omega) rfl (Nat.le_of_ble_eq_true rfl) ?_
                      rw [bi_f (show ¬ kdT tt N i = ((43 : Nat) : Int) from q43)]
                      refine V.if_eq 14 (pc := 6) dX12_behindSum_6 (by decide) (fun h6 => ?_) (fun h6 => absurd rfl h6)
                      refine V.aload_n (pc := 14) dX12_behindSum_14 rfl ?_
                      refine V.bipush (v := 45) (pc := 15) dX12_behindSum_15 (by decide) ?_
                      refine V.pV (as := [_]) (pc := 17) dX12_behindSum_17 lX12_222 bX12_isSign nX12_isSign (ci := 11) rfl eX12_isSign hM.o (c_isSign (d := d + 2) (N := N) (i := i) (tt := tt) (c := 45) _ hM hr.1 hT.2.1 (by decide) rfl) (by omega) rfl (Nat.le_of_ble_eq_true rfl) ?_
                      rw [bi_f (show ¬ kdT tt N i = ((45 : Nat) : Int) from q45)]
                      refine V.if_eq 28 (pc := 20) dX12_behindSum_20 (by decide) (fun h20 => ?_) (fun h20 => absurd rfl h20)
                      refine V.aload_n (pc := 28) dX12_behindSum_28 rfl ?_
                      refine V.bipush (v := 42) (pc := 29) dX12_behindSum_29 (by decide) ?_
                      refine V.pV (as := [_]) (pc := 31) dX12_behindSum_31 lX12_222 bX12_isSign nX12_isSign (ci := 11) rfl eX12_isSign hM.o (c_isSign (d := d + 2) (N := N) (i := i) (tt := tt) (c := 42) _ hM hr.1 hT.2.1 (by decide) rfl) (by omega) rfl (Nat.le_of_ble_eq_true rfl) ?_
                      rw [bi_f (show ¬ kdT tt N i = ((42 : Nat) : Int) from q42)]
                      refine V.if_eq 42 (pc := 34) dX12_behindSum_34 (by decide) (fun h34 => ?_) (fun h34 => absurd rfl h34)
                      refine V.aload_n (pc := 42) dX12_behindSum_42 rfl ?_
                      refine V.bipush (v := 47) (pc := 43) dX12_behindSum_43 (by decide) ?_
                      refine V.pV (as := [_]) (pc := 45) dX12_behindSum_45 lX12_222 bX12_isSign nX12_isSign (ci := 11) rfl eX12_isSign hM.o (c_isSign (d := d + 2) (N := N) (i := i) (tt := tt) (c := 47) _ hM hr.1 hT.2.1 (by decide) rfl) (by omega) rfl (Nat.le_of_ble_eq_true rfl) ?_
                      rw [bi_f (show ¬ kdT tt N i = ((47 : Nat) : Int) from q47)]
                      refine V.if_eq 56 (pc := 48) dX12_behindSum_48 (by decide) (fun h48 => ?_) (fun h48 => absurd rfl h48)
                      refine V.aload_n (pc := 56) dX12_behindSum_56 rfl ?_
                      refine V.bipush (v := 37) (pc := 57) dX12_behindSum_57 (by decide) ?_
                      refine V.pV (as := [_]) (pc := 59) dX12_behindSum_59 lX12_222 bX12_isSign nX12_isSign (ci := 11) rfl eX12_isSign hM.o (c_isSign (d := d + 2) (N := N) (i := i) (tt := tt) (c := 37) _ hM hr.1 hT.2.1 (by decide) rfl) (by omega) rfl (Nat.le_of_ble_eq_true rfl) ?_
                      rw [bi_f (show ¬ kdT tt N i = ((37 : Nat) : Int) from q37)]
                      refine V.if_eq 70 (pc := 62) dX12_behindSum_62 (by decide) (fun h62 => ?_) (fun h62 => absurd rfl h62)
                      refine V.iconst (v := (-1)) (pc := 70) dX12_behindSum_70 (by decide) ?_
                      refine V.isn (pc := 71) dX12_behindSum_71 (by decide) (st1_2 rfl) ?_
                      refine V.iload_n (pc := 72) dX12_behindSum_72 rfl ?_
                      refine V.iconst (v := (-1)) (pc := 73) dX12_behindSum_73 (by decide) ?_
                      refine V.icmp_eq 97 (pc := 74) dX12_behindSum_74 (by decide) (fun h74 => ?_) (fun h74 => absurd rfl h74)
                      refine V.aload_n (pc := 97) dX12_behindSum_97 rfl ?_
                      refine V.pV (as := []) (pc := 98) dX12_behindSum_98 lX12_246 bX12_inner nX12_inner (ci := 11) rfl eX12_inner hM.o (c_inner (d := d + 2) (r := (i, false, C, v, P, oo)) hM hr (by show P.length ≤ 400; omega) h32) (by omega) rfl (Nat.le_of_ble_eq_true rfl) ?_
                      refine V.isn (pc := 101) dX12_behindSum_101 (by decide) (st1_3 rfl) ?_
                      refine V.iload_n (pc := 102) dX12_behindSum_102 rfl ?_
                      refine V.bipush (v := 31) (pc := 103) dX12_behindSum_103 (by decide) ?_
                      refine V.icmp_ne 152 (pc := 105) dX12_behindSum_105 (by decide) (fun h105 => ?_) (fun h105 => absurd h105 (fun z => q31 ((ivn_31 hin32).mp z)))
                      refine V.iload_n (pc := 152) dX12_behindSum_152 rfl ?_
                      refine V.iconst (v := (-1)) (pc := 153) dX12_behindSum_153 (by decide) ?_
                      refine V.icmp_ne 163 (pc := 154) dX12_behindSum_154 (by decide) (fun h154 => ?_) (fun h154 => ?_)
                      · refine V.aload_n (pc := 163) dX12_behindSum_163 rfl ?_
                        refine V.pV (as := []) (pc := 164) dX12_behindSum_164 lX12_249 bX12_isCompared nX12_isCompared (ci := 11) rfl eX12_isCompared hM.o (c_isCompared (d := d + 1) (r := (i, false, C, v, P, oo)) hM hr (by show P.length ≤ 400; omega) h32) (by omega) rfl (Nat.le_of_ble_eq_true rfl) ?_
                        rw [bi_f qcp]
                        refine V.if_eq 172 (pc := 167) dX12_behindSum_167 (by decide) (fun h167 => ?_) (fun h167 => absurd rfl h167)
                        refine V.aload_n (pc := 172) dX12_behindSum_172 rfl ?_
                        refine V.bipush (v := 60) (pc := 173) dX12_behindSum_173 (by decide) ?_
                        refine V.pV (as := [_]) (pc := 175) dX12_behindSum_175 lX12_222 bX12_isSign nX12_isSign (ci := 11) rfl eX12_isSign hM.o (c_isSign (d := d + 2) (N := N) (i := i) (tt := tt) (c := 60) _ hM hr.1 hT.2.1 (by decide) rfl) (by omega) rfl (Nat.le_of_ble_eq_true rfl) ?_
                        rw [bi_f (show ¬ kdT tt N i = ((60 : Nat) : Int) from q60)]
                        refine V.if_eq 186 (pc := 178) dX12_behindSum_178 (by decide) (fun h178 => ?_) (fun h178 => absurd rfl h178)
                        refine V.aload_n (pc := 186) dX12_behindSum_186 rfl ?_
                        refine V.bipush (v := 62) (pc := 187) dX12_behindSum_187 (by decide) ?_
                        refine V.pV (as := [_]) (pc := 189) dX12_behindSum_189 lX12_222 bX12_isSign nX12_isSign (ci := 11) rfl eX12_isSign hM.o (c_isSign (d := d + 2) (N := N) (i := i) (tt := tt) (c := 62) _ hM hr.1 hT.2.1 (by decide) rfl) (by omega) rfl (Nat.le_of_ble_eq_true rfl) ?_
                        rw [bi_t (show kdT tt N i = ((62 : Nat) : Int) from q62)]
                        refine V.if_eq 200 (pc := 192) dX12_behindSum_192 (by decide) (fun h192 => absurd h192 (by decide)) (fun h192 => ?_)
                        refine V.bipush (v := 25) (pc := 195) dX12_behindSum_195 (by decide) ?_
                        refine V.goto 202 (pc := 197) dX12_behindSum_197 (by decide) ?_
                        refine V.isn (pc := 202) dX12_behindSum_202 (by decide) (st1_2 rfl) ?_
                        refine V.aload_n (pc := 203) dX12_behindSum_203 rfl ?_
                        refine V.iload_n (pc := 204) dX12_behindSum_204 rfl ?_
                        refine V.bipush (v := 26) (pc := 205) dX12_behindSum_205 (by decide) ?_
                        refine V.icmp_ne 219 (pc := 207) dX12_behindSum_207 (by decide) (fun h207 => ?_) (fun h207 => absurd h207 (by decide))
                        refine V.iconst (v := 1) (pc := 219) dX12_behindSum_219 (by decide) ?_
                        refine V.goto 224 (pc := 220) dX12_behindSum_220 (by decide) ?_
                        refine V.invV0 (as := [_]) (pc := 224) dX12_behindSum_224 lX12_184 bX12_must nX12_must (ci := 11) rfl eX12_must hM.o (c_mustY (d := d + 0) (N := N) (tt := tt) _ hM hT hr rfl (by decide)) (by omega) rfl (Nat.le_of_ble_eq_true rfl) ?_
                        rintro _ _ _ I1 J1 _ ⟨rfl, rfl, rfl, rfl, f1, hr1⟩
                        refine V.aload_n (pc := 227) dX12_behindSum_227 rfl ?_
                        refine V.getI (pc := 228) dX12_behindSum_228 fX12_151_11 rfl hM.o ?_
                        rw [show I1 m 14 = 0 from hr1.2.1]
                        refine V.if_ne 245 (pc := 231) dX12_behindSum_231 (by decide) (fun h231 => absurd rfl h231) (fun h231 => ?_)
                        refine V.aload_n (pc := 234) dX12_behindSum_234 rfl ?_
                        refine V.iconst (v := 5) (pc := 235) dX12_behindSum_235 (by decide) ?_
                        refine V.invV0 (as := [_]) (pc := 236) dX12_behindSum_236 lX12_243 bX12_settle nX12_settle (ci := 11) rfl eX12_settle hM.o (c_settle (d := d + 1) (N := N) (tt := tt) (L := 5) _ hM (f1.tp hT) hr1 hi1 (hinv.mono (Nat.le_succ _)) rfl (by decide)) (by omega) rfl (Nat.le_of_ble_eq_true rfl) ?_
                        rintro _ _ _ I2 J2 _ ⟨rfl, rfl, rfl, rfl, f2, rfl, hr2⟩
                        refine V.aload_n (pc := 239) dX12_behindSum_239 rfl ?_
                        refine V.iload_n (pc := 240) dX12_behindSum_240 rfl ?_
                        refine V.iconst (v := 0) (pc := 241) dX12_behindSum_241 (by decide) ?_
                        refine V.invV0 (as := [_, _]) (pc := 242) dX12_behindSum_242 lX12_216 bX12_push nX12_push (ci := 11) rfl eX12_push hM.o (c_push (d := d + 2) (N := N) (tt := tt) (op := 25) (ar := 0) _ _ hM ((f1.tr f2).tp hT) hr2 rfl rfl (by show (stl 5 P C).1.length < 400; have := (hinv.sd (L := 5) (by omega)).2.1; omega)) (by omega) rfl (Nat.le_of_ble_eq_true rfl) ?_
                        rintro _ _ _ I3 J3 _ ⟨rfl, rfl, rfl, rfl, f3, hr3⟩
                        refine V.iconst (v := 1) (pc := 245) dX12_behindSum_245 (by decide) ?_
                        exact V.iret (pc := 246) dX12_behindSum_246 rfl ⟨rfl, rfl, rfl, rfl, (f1.tr f2).tr f3, hr3⟩
                      · refine V.iload_n (pc := 157) dX12_behindSum_157 rfl ?_
                        refine V.if_ne 163 (pc := 158) dX12_behindSum_158 (by decide) (fun h158 => ?_) (fun h158 => absurd ⟨(ivn_m1 hin32).mp h154, by cases test with | false => rfl | true => exact absurd h158 (by decide)⟩ qov)
                        refine V.aload_n (pc := 163) dX12_behindSum_163 rfl ?_
                        refine V.pV (as := []) (pc := 164) dX12_behindSum_164 lX12_249 bX12_isCompared nX12_isCompared (ci := 11) rfl eX12_isCompared hM.o (c_isCompared (d := d + 1) (r := (i, false, C, v, P, oo)) hM hr (by show P.length ≤ 400; omega) h32) (by omega) rfl (Nat.le_of_ble_eq_true rfl) ?_
                        rw [bi_f qcp]
                        refine V.if_eq 172 (pc := 167) dX12_behindSum_167 (by decide) (fun h167 => ?_) (fun h167 => absurd rfl h167)
                        refine V.aload_n (pc := 172) dX12_behindSum_172 rfl ?_
                        refine V.bipush (v := 60) (pc := 173) dX12_behindSum_173 (by decide) ?_
                        refine V.pV (as := [_]) (pc := 175) dX12_behindSum_175 lX12_222 bX12_isSign nX12_isSign (ci := 11) rfl eX12_isSign hM.o (c_isSign (d := d + 2) (N := N) (i := i) (tt := tt) (c := 60) _ hM hr.1 hT.2.1 (by decide) rfl) (by omega) rfl (Nat.le_of_ble_eq_true rfl) ?_
                        rw [bi_f (show ¬ kdT tt N i = ((60 : Nat) : Int) from q60)]
                        refine V.if_eq 186 (pc := 178) dX12_behindSum_178 (by decide) (fun h178 => ?_) (fun h178 => absurd rfl h178)
                        refine V.aload_n (pc := 186) dX12_behindSum_186 rfl ?_
                        refine V.bipush (v := 62) (pc := 187) dX12_behindSum_187 (by decide) ?_
                        refine V.pV (as := [_]) (pc := 189) dX12_behindSum_189 lX12_222 bX12_isSign nX12_isSign (ci := 11) rfl eX12_isSign hM.o (c_isSign (d := d + 2) (N := N) (i := i) (tt := tt) (c := 62) _ hM hr.1 hT.2.1 (by decide) rfl) (by omega) rfl (Nat.le_of_ble_eq_true rfl) ?_
                        rw [bi_t (show kdT tt N i = ((62 : Nat) : Int) from q62)]
                        refine V.if_eq 200 (pc := 192) dX12_behindSum_192 (by decide) (fun h192 => absurd h192 (by decide)) (fun h192 => ?_)
                        refine V.bipush (v := 25) (pc := 195) dX12_behindSum_195 (by decide) ?_
                        refine V.goto 202 (pc := 197) dX12_behindSum_197 (by decide) ?_
                        refine V.isn (pc := 202) dX12_behindSum_202 (by decide) (st1_2 rfl) ?_
                        refine V.aload_n (pc := 203) dX12_behindSum_203 rfl ?_
                        refine V.iload_n (pc := 204) dX12_behindSum_204 rfl ?_
                        refine V.bipush (v := 26) (pc := 205) dX12_behindSum_205 (by decide) ?_
                        refine V.icmp_ne 219 (pc := 207) dX12_behindSum_207 (by decide) (fun h207 => ?_) (fun h207 => absurd h207 (by decide))
                        refine V.iconst (v := 1) (pc := 219) dX12_behindSum_219 (by decide) ?_
                        refine V.goto 224 (pc := 220) dX12_behindSum_220 (by decide) ?_
                        refine V.invV0 (as := [_]) (pc := 224) dX12_behindSum_224 lX12_184 bX12_must nX12_must (ci := 11) rfl eX12_must hM.o (c_mustY (d := d + 0) (N := N) (tt := tt) _ hM hT hr rfl (by decide)) (by omega) rfl (Nat.le_of_ble_eq_true rfl) ?_
                        rintro _ _ _ I1 J1 _ ⟨rfl, rfl, rfl, rfl, f1, hr1⟩
                        refine V.aload_n (pc := 227) dX12_behindSum_227 rfl ?_
                        refine V.getI (pc := 228) dX12_behindSum_228 fX12_151_11 rfl hM.o ?_
                        rw [show I1 m 14 = 0 from hr1.2.1]
                        refine V.if_ne 245 (pc := 231) dX12_behindSum_231 (by decide) (fun h231 => absurd rfl h231) (fun h231 => ?_)
                        refine V.aload_n (pc := 234) dX12_behindSum_234 rfl ?_
                        refine V.iconst (v := 5) (pc := 235) dX12_behindSum_235 (by decide) ?_
                        refine V.invV0 (as := [_]) (pc := 236) dX12_behindSum_236 lX12_243 bX12_settle nX12_settle (ci := 11) rfl eX12_settle hM.o (c_settle (d := d + 1) (N := N) (tt := tt) (L := 5) _ hM (f1.tp hT) hr1 hi1 (hinv.mono (Nat.le_succ _)) rfl (by decide)) (by omega) rfl (Nat.le_of_ble_eq_true rfl) ?_
                        rintro _ _ _ I2 J2 _ ⟨rfl, rfl, rfl, rfl, f2, rfl, hr2⟩
                        refine V.aload_n (pc := 239) dX12_behindSum_239 rfl ?_
                        refine V.iload_n (pc := 240) dX12_behindSum_240 rfl ?_
                        refine V.iconst (v := 0) (pc := 241) dX12_behindSum_241 (by decide) ?_
                        refine V.invV0 (as := [_, _]) (pc := 242) dX12_behindSum_242 lX12_216 bX12_push nX12_push (ci := 11) rfl eX12_push hM.o (c_push (d := d + 2) (N := N) (tt := tt) (op := 25) (ar := 0) _ _ hM ((f1.tr f2).tp hT) hr2 rfl rfl (by show (stl 5 P C).1.length < 400; have := (hinv.sd (L := 5) (by omega)).2.1; omega)) (by omega) rfl (Nat.le_of_ble_eq_true rfl) ?_
                        rintro _ _ _ I3 J3 _ ⟨rfl, rfl, rfl, rfl, f3, hr3⟩
                        refine V.iconst (v := 1) (pc := 245) dX12_behindSum_245 (by decide) ?_
                        exact V.iret (pc := 246) dX12_behindSum_246 rfl ⟨rfl, rfl, rfl, rfl, (f1.tr f2).tr f3, hr3⟩
                    · by_cases q61 : kdT tt N i = 61
                      · have ea : aop (kdT tt N i) = 0 := aop_none q43 q45 q42 q47 q37
                        have hi1 : i + 1 ≤ 400 := by have := nxt hE hiE (by omega); omega
                        have ec : cmpOp (kdT tt N i) = 26 := by rw [q61]; rfl
                        have eF : fSum (kdT tt N) test (i, false, C, v, P, oo) = (1, (i + 1, false, (stl 5 P C).2, v, (26, 0) :: (stl 5 P C).1, oo)) := by rw [fSum]; simp only [r_i, r_P, r_C, r_v, r_o]; rw [if_neg (by rw [ea]; decide), if_neg q31, if_neg qov, if_neg qcp, ec, if_pos (by decide)]
                        rw [eF]
                        refine V.aload_n (pc := 0) dX12_behindSum_0 rfl ?_
                        refine V.bipush (v := 43) (pc := 1) dX12_behindSum_1 (by decide) ?_
                        refine V.pV (as := [_]) (pc := 3) dX12_behindSum_3 lX12_222 bX12_isSign nX12_isSign (ci := 11) rfl eX12_isSign hM.o (c_isSign (d := d + 2) (N := N) (i := i) (tt := tt) (c := 43) _ hM hr.1 hT.2.1 (by decide) rfl) (by omega) rfl (Nat.le_of_ble_eq_true rfl) ?_
                        rw [bi_f (show ¬ kdT tt N i = ((43 : Nat) : Int) from q43)]
                        refine V.if_eq 14 (pc := 6) dX12_behindSum_6 (by decide) (fun h6 => ?_) (fun h6 => absurd rfl h6)
                        refine V.aload_n (pc := 14) dX12_behindSum_14 rfl ?_
                        refine V.bipush (v := 45) (pc := 15) dX12_behindSum_15 (by decide) ?_
                        refine V.pV (as := [_]) (pc := 17) dX12_behindSum_17 lX12_222 bX12_isSign nX12_isSign (ci := 11) rfl eX12_isSign hM.o (c_isSign (d := d + 2) (N := N) (i := i) (tt := tt) (c := 45) _ hM hr.1 hT.2.1 (by decide) rfl) (by omega) rfl (Nat.le_of_ble_eq_true rfl) ?_
                        rw [bi_f (show ¬ kdT tt N i = ((45 : Nat) : Int) from q45)]
                        refine V.if_eq 28 (pc := 20) dX12_behindSum_20 (by decide) (fun h20 => ?_) (fun h20 => absurd rfl h20)
                        refine V.aload_n (pc := 28) dX12_behindSum_28 rfl ?_
                        refine V.bipush (v := 42) (pc := 29) dX12_behindSum_29 (by decide) ?_
                        refine V.pV (as := [_]) (pc := 31) dX12_behindSum_31 lX12_222 bX12_isSign nX12_isSign (ci := 11) rfl eX12_isSign hM.o (c_isSign (d := d + 2) (N := N) (i := i) (tt := tt) (c := 42) _ hM hr.1 hT.2.1 (by decide) rfl) (by omega) rfl (Nat.le_of_ble_eq_true rfl) ?_
                        rw [bi_f (show ¬ kdT tt N i = ((42 : Nat) : Int) from q42)]
                        refine V.if_eq 42 (pc := 34) dX12_behindSum_34 (by decide) (fun h34 => ?_) (fun h34 => absurd rfl h34)
                        refine V.aload_n (pc := 42) dX12_behindSum_42 rfl ?_
                        refine V.bipush (v := 47) (pc := 43) dX12_behindSum_43 (by decide) ?_
                        refine V.pV (as := [_]) (pc := 45) dX12_behindSum_45 lX12_222 bX12_isSign nX12_isSign (ci := 11) rfl eX12_isSign hM.o (c_isSign (d := d + 2) (N := N) (i := i) (tt := tt) (c := 47) _ hM hr.1 hT.2.1 (by decide) rfl) (by omega) rfl (Nat.le_of_ble_eq_true rfl) ?_
                        rw [bi_f (show ¬ kdT tt N i = ((47 : Nat) : Int) from q47)]
                        refine V.if_eq 56 (pc := 48) dX12_behindSum_48 (by decide) (fun h48 => ?_) (fun h48 => absurd rfl h48)
                        refine V.aload_n (pc := 56) dX12_behindSum_56 rfl ?_
                        refine V.bipush (v := 37) (pc := 57) dX12_behindSum_57 (by decide) ?_
                        refine V.pV (as := [_]) (pc := 59) dX12_behindSum_59 lX12_222 bX12_isSign nX12_isSign (ci := 11) rfl eX12_isSign hM.o (c_isSign (d := d + 2) (N := N) (i := i) (tt := tt) (c := 37) _ hM hr.1 hT.2.1 (by decide) rfl) (by omega) rfl (Nat.le_of_ble_eq_true rfl) ?_
                        rw [bi_f (show ¬ kdT tt N i = ((37 : Nat) : Int) from q37)]
                        refine V.if_eq 70 (pc := 62) dX12_behindSum_62 (by decide) (fun h62 => ?_) (fun h62 => absurd rfl h62)
                        refine V.iconst (v := (-1)) (pc := 70) dX12_behindSum_70 (by decide) ?_
                        refine V.isn (pc := 71) dX12_behindSum_71 (by decide) (st1_2 rfl) ?_
                        refine V.iload_n (pc := 72) dX12_behindSum_72 rfl ?_
                        refine V.iconst (v := (-1)) (pc := 73) dX12_behindSum_73 (by decide) ?_
                        refine V.icmp_eq 97 (pc := 74) dX12_behindSum_74 (by decide) (fun h74 => ?_) (fun h74 => absurd rfl h74)
                        refine V.aload_n (pc := 97) dX12_behindSum_97 rfl ?_
                        refine V.pV (as := []) (pc := 98) dX12_behindSum_98 lX12_246 bX12_inner nX12_inner (ci := 11) rfl eX12_inner hM.o (c_inner (d := d + 2) (r := (i, false, C, v, P, oo)) hM hr (by show P.length ≤ 400; omega) h32) (by omega) rfl (Nat.le_of_ble_eq_true rfl) ?_
                        refine V.isn (pc := 101) dX12_behindSum_101 (by decide) (st1_3 rfl) ?_
                        refine V.iload_n (pc := 102) dX12_behindSum_102 rfl ?_
                        refine V.bipush (v := 31) (pc := 103) dX12_behindSum_103 (by decide) ?_
                        refine V.icmp_ne 152 (pc := 105) dX12_behindSum_105 (by decide) (fun h105 => ?_) (fun h105 => absurd h105 (fun z => q31 ((ivn_31 hin32).mp z)))
                        refine V.iload_n (pc := 152) dX12_behindSum_152 rfl ?_
                        refine V.iconst (v := (-1)) (pc := 153) dX12_behindSum_153 (by decide) ?_
                        refine V.icmp_ne 163 (pc := 154) dX12_behindSum_154 (by decide) (fun h154 => ?_) (fun h154 => ?_)
                        · refine V.aload_n (pc := 163) dX12_behindSum_163 rfl ?_
                          refine V.pV (as := []) (pc := 164) dX12_behindSum_164 lX12_249 bX12_isCompared nX12_isCompared (ci := 11) rfl eX12_isCompared hM.o (c_isCompared (d := d + 1) (r := (i, false, C, v, P, oo)) hM hr (by show P.length ≤ 400; omega) h32) (by omega) rfl (Nat.le_of_ble_eq_true rfl) ?_
                          rw [bi_f qcp]
                          refine V.if_eq 172 (pc := 167) dX12_behindSum_167 (by decide) (fun h167 => ?_) (fun h167 => absurd rfl h167)
                          refine V.aload_n (pc := 172) dX12_behindSum_172 rfl ?_
                          refine V.bipush (v := 60) (pc := 173) dX12_behindSum_173 (by decide) ?_
                          refine V.pV (as := [_]) (pc := 175) dX12_behindSum_175 lX12_222 bX12_isSign nX12_isSign (ci := 11) rfl eX12_isSign hM.o (c_isSign (d := d + 2) (N := N) (i := i) (tt := tt) (c := 60) _ hM hr.1 hT.2.1 (by decide) rfl) (by omega) rfl (Nat.le_of_ble_eq_true rfl) ?_
                          rw [bi_f (show ¬ kdT tt N i = ((60 : Nat) : Int) from q60)]
                          refine V.if_eq 186 (pc := 178) dX12_behindSum_178 (by decide) (fun h178 => ?_) (fun h178 => absurd rfl h178)
                          refine V.aload_n (pc := 186) dX12_behindSum_186 rfl ?_
                          refine V.bipush (v := 62) (pc := 187) dX12_behindSum_187 (by decide) ?_
                          refine V.pV (as := [_]) (pc := 189) dX12_behindSum_189 lX12_222 bX12_isSign nX12_isSign (ci := 11) rfl eX12_isSign hM.o (c_isSign (d := d + 2) (N := N) (i := i) (tt := tt) (c := 62) _ hM hr.1 hT.2.1 (by decide) rfl) (by omega) rfl (Nat.le_of_ble_eq_true rfl) ?_
                          rw [bi_f (show ¬ kdT tt N i = ((62 : Nat) : Int) from q62)]
                          refine V.if_eq 200 (pc := 192) dX12_behindSum_192 (by decide) (fun h192 => ?_) (fun h192 => absurd rfl h192)
                          refine V.bipush (v := 26) (pc := 200) dX12_behindSum_200 (by decide) ?_
                          refine V.isn (pc := 202) dX12_behindSum_202 (by decide) (st1_2 rfl) ?_
                          refine V.aload_n (pc := 203) dX12_behindSum_203 rfl ?_
                          refine V.iload_n (pc := 204) dX12_behindSum_204 rfl ?_
                          refine V.bipush (v := 26) (pc := 205) dX12_behindSum_205 (by decide) ?_
                          refine V.icmp_ne 219 (pc := 207) dX12_behindSum_207 (by decide) (fun h207 => absurd rfl h207) (fun h207 => ?_)
                          refine V.aload_n (pc := 210) dX12_behindSum_210 rfl ?_
                          refine V.bipush (v := 61) (pc := 211) dX12_behindSum_211 (by decide) ?_
                          refine V.pV (as := [_]) (pc := 213) dX12_behindSum_213 lX12_222 bX12_isSign nX12_isSign (ci := 11) rfl eX12_isSign hM.o (c_isSign (d := d + 2) (N := N) (i := i) (tt := tt) (c := 61) _ hM hr.1 hT.2.1 (by decide) rfl) (by omega) rfl (Nat.le_of_ble_eq_true rfl) ?_
                          rw [bi_t (show kdT tt N i = ((61 : Nat) : Int) from q61)]
                          refine V.if_eq 223 (pc := 216) dX12_behindSum_216 (by decide) (fun h216 => absurd h216 (by decide)) (fun h216 => ?_)
                          refine V.iconst (v := 1) (pc := 219) dX12_behindSum_219 (by decide) ?_
                          refine V.goto 224 (pc := 220) dX12_behindSum_220 (by decide) ?_
                          refine V.invV0 (as := [_]) (pc := 224) dX12_behindSum_224 lX12_184 bX12_must nX12_must (ci := 11) rfl eX12_must hM.o (c_mustY (d := d + 0) (N := N) (tt := tt) _ hM hT hr rfl (by decide)) (by omega) rfl (Nat.le_of_ble_eq_true rfl) ?_
                          rintro _ _ _ I1 J1 _ ⟨rfl, rfl, rfl, rfl, f1, hr1⟩
                          refine V.aload_n (pc := 227) dX12_behindSum_227 rfl ?_
                          refine V.getI (pc := 228) dX12_behindSum_228 fX12_151_11 rfl hM.o ?_
                          rw [show I1 m 14 = 0 from hr1.2.1]
                          refine V.if_ne 245 (pc := 231) dX12_behindSum_231 (by decide) (fun h231 => absurd rfl h231) (fun h231 => ?_)
                          refine V.aload_n (pc := 234) dX12_behindSum_234 rfl ?_
                          refine V.iconst (v := 5) (pc := 235) dX12_behindSum_235 (by decide) ?_
                          refine V.invV0 (as := [_]) (pc := 236) dX12_behindSum_236 lX12_243 bX12_settle nX12_settle (ci := 11) rfl eX12_settle hM.o (c_settle (d := d + 1) (N := N) (tt := tt) (L := 5) _ hM (f1.tp hT) hr1 hi1 (hinv.mono (Nat.le_succ _)) rfl (by decide)) (by omega) rfl (Nat.le_of_ble_eq_true rfl) ?_
                          rintro _ _ _ I2 J2 _ ⟨rfl, rfl, rfl, rfl, f2, rfl, hr2⟩
                          refine V.aload_n (pc := 239) dX12_behindSum_239 rfl ?_
                          refine V.iload_n (pc := 240) dX12_behindSum_240 rfl ?_
                          refine V.iconst (v := 0) (pc := 241) dX12_behindSum_241 (by decide) ?_
                          refine V.invV0 (as := [_, _]) (pc := 242) dX12_behindSum_242 lX12_216 bX12_push nX12_push (ci := 11) rfl eX12_push hM.o (c_push (d := d + 2) (N := N) (tt := tt) (op := 26) (ar := 0) _ _ hM ((f1.tr f2).tp hT) hr2 rfl rfl (by show (stl 5 P C).1.length < 400; have := (hinv.sd (L := 5) (by omega)).2.1; omega)) (by omega) rfl (Nat.le_of_ble_eq_true rfl) ?_
                          rintro _ _ _ I3 J3 _ ⟨rfl, rfl, rfl, rfl, f3, hr3⟩
                          refine V.iconst (v := 1) (pc := 245) dX12_behindSum_245 (by decide) ?_
                          exact V.iret (pc := 246) dX12_behindSum_246 rfl ⟨rfl, rfl, rfl, rfl, (f1.tr f2).tr f3, hr3⟩
                        · refine V.iload_n (pc := 157) dX12_behindSum_157 rfl ?_
                          refine V.if_ne 163 (pc := 158) dX12_behindSum_158 (by decide) (fun h158 => ?_) (fun h158 => absurd ⟨(ivn_m1 hin32).mp h154, by cases test with | false => rfl | true => exact absurd h158 (by decide)⟩ qov)
                          refine V.aload_n (pc := 163) dX12_behindSum_163 rfl ?_
                          refine V.pV (as := []) (pc := 164) dX12_behindSum_164 lX12_249 bX12_isCompared nX12_isCompared (ci := 11) rfl eX12_isCompared hM.o (c_isCompared (d := d + 1) (r := (i, false, C, v, P, oo)) hM hr (by show P.length ≤ 400; omega) h32) (by omega) rfl (Nat.le_of_ble_eq_true rfl) ?_
                          rw [bi_f qcp]
                          refine V.if_eq 172 (pc := 167) dX12_behindSum_167 (by decide) (fun h167 => ?_) (fun h167 => absurd rfl h167)
                          refine V.aload_n (pc := 172) dX12_behindSum_172 rfl ?_
                          refine V.bipush (v := 60) (pc := 173) dX12_behindSum_173 (by decide) ?_
                          refine V.pV (as := [_]) (pc := 175) dX12_behindSum_175 lX12_222 bX12_isSign nX12_isSign (ci := 11) rfl eX12_isSign hM.o (c_isSign (d := d + 2) (N := N) (i := i) (tt := tt) (c := 60) _ hM hr.1 hT.2.1 (by decide) rfl) (by omega) rfl (Nat.le_of_ble_eq_true rfl) ?_
                          rw [bi_f (show ¬ kdT tt N i = ((60 : Nat) : Int) from q60)]
                          refine V.if_eq 186 (pc := 178) dX12_behindSum_178 (by decide) (fun h178 => ?_) (fun h178 => absurd rfl h178)
                          refine V.aload_n (pc := 186) dX12_behindSum_186 rfl ?_
                          refine V.bipush (v := 62) (pc := 187) dX12_behindSum_187 (by decide) ?_
                          refine V.pV (as := [_]) (pc := 189) dX12_behindSum_189 lX12_222 bX12_isSign nX12_isSign (ci := 11) rfl eX12_isSign hM.o (c_isSign (d := d + 2) (N := N) (i := i) (tt := tt) (c := 62) _ hM hr.1 hT.2.1 (by decide) rfl) (by omega) rfl (Nat.le_of_ble_eq_true rfl) ?_
                          rw [bi_f (show ¬ kdT tt N i = ((62 : Nat) : Int) from q62)]
                          refine V.if_eq 200 (pc := 192) dX12_behindSum_192 (by decide) (fun h192 => ?_) (fun h192 => absurd rfl h192)
                          refine V.bipush (v := 26) (pc := 200) dX12_behindSum_200 (by decide) ?_
                          refine V.isn (pc := 202) dX12_behindSum_202 (by decide) (st1_2 rfl) ?_
                          refine V.aload_n (pc := 203) dX12_behindSum_203 rfl ?_
                          refine V.iload_n (pc := 204) dX12_behindSum_204 rfl ?_
                          refine V.bipush (v := 26) (pc := 205) dX12_behindSum_205 (by decide) ?_
                          refine V.icmp_ne 219 (pc := 207) dX12_behindSum_207 (by decide) (fun h207 => absurd rfl h207) (fun h207 => ?_)
                          refine V.aload_n (pc := 210) dX12_behindSum_210 rfl ?_
                          refine V.bipush (v := 61) (pc := 211) dX12_behindSum_211 (by decide) ?_
                          refine V.pV (as := [_]) (pc := 213) dX12_behindSum_213 lX12_222 bX12_isSign nX12_isSign (ci := 11) rfl eX12_isSign hM.o (c_isSign (d := d + 2) (N := N) (i := i) (tt := tt) (c := 61) _ hM hr.1 hT.2.1 (by decide) rfl) (by omega) rfl (Nat.le_of_ble_eq_true rfl) ?_
                          rw [bi_t (show kdT tt N i = ((61 : Nat) : Int) from q61)]
                          refine V.if_eq 223 (pc := 216) dX12_behindSum_216 (by decide) (fun h216 => absurd h216 (by decide)) (fun h216 => ?_)
                          refine V.iconst (v := 1) (pc := 219) dX12_behindSum_219 (by decide) ?_
                          refine V.goto 224 (pc := 220) dX12_behindSum_220 (by decide) ?_
                          refine V.invV0 (as := [_]) (pc := 224) dX12_behindSum_224 lX12_184 bX12_must nX12_must (ci := 11) rfl eX12_must hM.o (c_mustY (d := d + 0) (N := N) (tt := tt) _ hM hT hr rfl (by decide)) (by omega) rfl (Nat.le_of_ble_eq_true rfl) ?_
                          rintro _ _ _ I1 J1 _ ⟨rfl, rfl, rfl, rfl, f1, hr1⟩
                          refine V.aload_n (pc := 227) dX12_behindSum_227 rfl ?_
                          refine V.getI (pc := 228) dX12_behindSum_228 fX12_151_11 rfl hM.o ?_
                          rw [show I1 m 14 = 0 from hr1.2.1]
                          refine V.if_ne 245 (pc := 231) dX12_behindSum_231 (by decide) (fun h231 => absurd rfl h231) (fun h231 => ?_)
                          refine V.aload_n (pc := 234) dX12_behindSum_234 rfl ?_
                          refine V.iconst (v := 5) (pc := 235) dX12_behindSum_235 (by decide) ?_
                          refine V.invV0 (as := [_]) (pc := 236) dX12_behindSum_236 lX12_243 bX12_settle nX12_settle (ci := 11) rfl eX12_settle hM.o (c_settle (d := d + 1) (N := N) (tt := tt) (L := 5) _ hM (f1.tp hT) hr1 hi1 (hinv.mono (Nat.le_succ _)) rfl (by decide)) (by omega) rfl (Nat.le_of_ble_eq_true rfl) ?_
                          rintro _ _ _ I2 J2 _ ⟨rfl, rfl, rfl, rfl, f2, rfl, hr2⟩
                          refine V.aload_n (pc := 239) dX12_behindSum_239 rfl ?_
                          refine V.iload_n (pc := 240) dX12_behindSum_240 rfl ?_
                          refine V.iconst (v := 0) (pc := 241) dX12_behindSum_241 (by decide) ?_
                          refine V.invV0 (as := [_, _]) (pc := 242) dX12_behindSum_242 lX12_216 bX12_push nX12_push (ci := 11) rfl eX12_push hM.o (c_push (d := d + 2) (N := N) (tt := tt) (op := 26) (ar := 0) _ _ hM ((f1.tr f2).tp hT) hr2 rfl rfl (by show (stl 5 P C).1.length < 400; have := (hinv.sd (L := 5) (by omega)).2.1; omega)) (by omega) rfl (Nat.le_of_ble_eq_true rfl) ?_
                          rintro _ _ _ I3 J3 _ ⟨rfl, rfl, rfl, rfl, f3, hr3⟩
                          refine V.iconst (v := 1) (pc := 245) dX12_behindSum_245 (by decide) ?_
                          exact V.iret (pc := 246) dX12_behindSum_246 rfl ⟨rfl, rfl, rfl, rfl, (f1.tr f2).tr f3, hr3⟩
                      · have ea : aop (kdT tt N i) = 0 := aop_none q43 q45 q42 q47 q37
                        have ec : cmpOp (kdT tt N i) = 0 := cmpOp_none q60 q62 q61
                        have eF : fSum (kdT tt N) test (i, false, C, v, P, oo) = (1, badR (i, false, C, v, P, oo)) := by rw [fSum]; simp only [r_i, r_P, r_C, r_v, r_o]; rw [if_neg (by rw [ea]; decide), if_neg q31, if_neg qov, if_neg qcp, ec, if_neg (by decide)]
                        rw [eF]
                        refine V.aload_n (pc := 0) dX12_behindSum_0 rfl ?_
                        refine V.bipush (v := 43) (pc := 1) dX12_behindSum_1 (by decide) ?_
                        refine V.pV (as := [_]) (pc := 3) dX12_behindSum_3 lX12_222 bX12_isSign nX12_isSign (ci := 11) rfl eX12_isSign hM.o (c_isSign (d := d + 2) (N := N) (i := i) (tt := tt) (c := 43) _ hM hr.1 hT.2.1 (by decide) rfl) (by omega) rfl (Nat.le_of_ble_eq_true rfl) ?_
                        rw [bi_f (show ¬ kdT tt N i = ((43 : Nat) : Int) from q43)]
                        refine V.if_eq 14 (pc := 6) dX12_behindSum_6 (by decide) (fun h6 => ?_) (fun h6 => absurd rfl h6)
                        refine V.aload_n (pc := 14) dX12_behindSum_14 rfl ?_
                        refine V.bipush (v := 45) (pc := 15) dX12_behindSum_15 (by decide) ?_
                        refine V.pV (as := [_]) (pc := 17) dX12_behindSum_17 lX12_222 bX12_isSign nX12_isSign (ci := 11) rfl eX12_isSign hM.o (c_isSign (d := d + 2) (N := N) (i := i) (tt := tt) (c := 45) _ hM hr.1 hT.2.1 (by decide) rfl) (by omega) rfl (Nat.le_of_ble_eq_true rfl) ?_
                        rw [bi_f (show ¬ kdT tt N i = ((45 : Nat) : Int) from q45)]
                        refine V.if_eq 28 (pc := 20) dX12_behindSum_20 (by decide) (fun h20 => ?_) (fun h20 => absurd rfl h20)
                        refine V.aload_n (pc := 28) dX12_behindSum_28 rfl ?_
                        refine V.bipush (v := 42) (pc := 29) dX12_behindSum_29 (by decide) ?_
                        refine V.pV (as := [_]) (pc := 31) dX12_behindSum_31 lX12_222 bX12_isSign nX12_isSign (ci := 11) rfl eX12_isSign hM.o (c_isSign (d := d + 2) (N := N) (i := i) (tt := tt) (c := 42) _ hM hr.1 hT.2.1 (by decide) rfl) (by omega) rfl (Nat.le_of_ble_eq_true rfl) ?_
                        rw [bi_f (show ¬ kdT tt N i = ((42 : Nat) : Int) from q42)]
                        refine V.if_eq 42 (pc := 34) dX12_behindSum_34 (by decide) (fun h34 => ?_) (fun h34 => absurd rfl h34)
                        refine V.aload_n (pc := 42) dX12_behindSum_42 rfl ?_
                        refine V.bipush (v := 47) (pc := 43) dX12_behindSum_43 (by decide) ?_
                        refine V.pV (as := [_]) (pc := 45) dX12_behindSum_45 lX12_222 bX12_isSign nX12_isSign (ci := 11) rfl eX12_isSign hM.o (c_isSign (d := d + 2) (N := N) (i := i) (tt := tt) (c := 47) _ hM hr.1 hT.2.1 (by decide) rfl) (by omega) rfl (Nat.le_of_ble_eq_true rfl) ?_
                        rw [bi_f (show ¬ kdT tt N i = ((47 : Nat) : Int) from q47)]
                        refine V.if_eq 56 (pc := 48) dX12_behindSum_48 (by decide) (fun h48 => ?_) (fun h48 => absurd rfl h48)
                        refine V.aload_n (pc := 56) dX12_behindSum_56 rfl ?_
                        refine V.bipush (v := 37) (pc := 57) dX12_behindSum_57 (by decide) ?_
                        refine V.pV (as := [_]) (pc := 59) dX12_behindSum_59 lX12_222 bX12_isSign nX12_isSign (ci := 11) rfl eX12_isSign hM.o (c_isSign (d := d + 2) (N := N) (i := i) (tt := tt) (c := 37) _ hM hr.1 hT.2.1 (by decide) rfl) (by omega) rfl (Nat.le_of_ble_eq_true rfl) ?_
                        rw [bi_f (show ¬ kdT tt N i = ((37 : Nat) : Int) from q37)]
                        refine V.if_eq 70 (pc := 62) dX12_behindSum_62 (by decide) (fun h62 => ?_) (fun h62 => absurd rfl h62)
                        refine V.iconst (v := (-1)) (pc := 70) dX12_behindSum_70 (by decide) ?_
                        refine V.isn (pc := 71) dX12_behindSum_71 (by decide) (st1_2 rfl) ?_
                        refine V.iload_n (pc := 72) dX12_behindSum_72 rfl ?_
                        refine V.iconst (v := (-1)) (pc := 73) dX12_behindSum_73 (by decide) ?_
                        refine V.icmp_eq 97 (pc := 74) dX12_behindSum_74 (by decide) (fun h74 => ?_) (fun h74 => absurd rfl h74)
                        refine V.aload_n (pc := 97) dX12_behindSum_97 rfl ?_
                        refine V.pV (as := []) (pc := 98) dX12_behindSum_98 lX12_246 bX12_inner nX12_inner (ci := 11) rfl eX12_inner hM.o (c_inner (d := d + 2) (r := (i, false, C, v, P, oo)) hM hr (by show P.length ≤ 400; omega) h32) (by omega) rfl (Nat.le_of_ble_eq_true rfl) ?_
                        refine V.isn (pc := 101) dX12_behindSum_101 (by decide) (st1_3 rfl) ?_
                        refine V.iload_n (pc := 102) dX12_behindSum_102 rfl ?_
                        refine V.bipush (v := 31) (pc := 103) dX12_behindSum_103 (by decide) ?_
                        refine V.icmp_ne 152 (pc := 105) dX12_behindSum_105 (by decide) (fun h105 => ?_) (fun h105 => absurd h105 (fun z => q31 ((ivn_31 hin32).mp z)))
                        refine V.iload_n (pc := 152) dX12_behindSum_152 rfl ?_
                        refine V.iconst (v := (-1)) (pc := 153) dX12_behindSum_153 (by decide) ?_
                        refine V.icmp_ne 163 (pc := 154) dX12_behindSum_154 (by decide) (fun h154 => ?_) (fun h154 => ?_)
                        · refine V.aload_n (pc := 163) dX12_behindSum_163 rfl ?_
                          refine V.pV (as := []) (pc := 164) dX12_behindSum_164 lX12_249 bX12_isCompared nX12_isCompared (ci := 11) rfl eX12_isCompared hM.o (c_isCompared (d := d + 1) (r := (i, false, C, v, P, oo)) hM hr (by show P.length ≤ 400; omega) h32) (by omega) rfl (Nat.le_of_ble_eq_true rfl) ?_
                          rw [bi_f qcp]
                          refine V.if_eq 172 (pc := 167) dX12_behindSum_167 (by decide) (fun h167 => ?_) (fun h167 => absurd rfl h167)
                          refine V.aload_n (pc := 172) dX12_behindSum_172 rfl ?_
                          refine V.bipush (v := 60) (pc := 173) dX12_behindSum_173 (by decide) ?_
                          refine V.pV (as := [_]) (pc := 175) dX12_behindSum_175 lX12_222 bX12_isSign nX12_isSign (ci := 11) rfl eX12_isSign hM.o (c_isSign (d := d + 2) (N := N) (i := i) (tt := tt) (c := 60) _ hM hr.1 hT.2.1 (by decide) rfl) (by omega) rfl (Nat.le_of_ble_eq_true rfl) ?_
                          rw [bi_f (show ¬ kdT tt N i = ((60 : Nat) : Int) from q60)]
                          refine V.if_eq 186 (pc := 178) dX12_behindSum_178 (by decide) (fun h178 => ?_) (fun h178 => absurd rfl h178)
                          refine V.aload_n (pc := 186) dX12_behindSum_186 rfl ?_
                          refine V.bipush (v := 62) (pc := 187) dX12_behindSum_187 (by decide) ?_
                          refine V.pV (as := [_]) (pc := 189) dX12_behindSum_189 lX12_222 bX12_isSign nX12_isSign (ci := 11) rfl eX12_isSign hM.o (c_isSign (d := d + 2) (N := N) (i := i) (tt := tt) (c := 62) _ hM hr.1 hT.2.1 (by decide) rfl) (by omega) rfl (Nat.le_of_ble_eq_true rfl) ?_
                          rw [bi_f (show ¬ kdT tt N i = ((62 : Nat) : Int) from q62)]
                          refine V.if_eq 200 (pc := 192) dX12_behindSum_192 (by decide) (fun h192 => ?_) (fun h192 => absurd rfl h192)
                          refine V.bipush (v := 26) (pc := 200) dX12_behindSum_200 (by decide) ?_
                          refine V.isn (pc := 202) dX12_behindSum_202 (by decide) (st1_2 rfl) ?_
                          refine V.aload_n (pc := 203) dX12_behindSum_203 rfl ?_
                          refine V.iload_n (pc := 204) dX12_behindSum_204 rfl ?_
                          refine V.bipush (v := 26) (pc := 205) dX12_behindSum_205 (by decide) ?_
                          refine V.icmp_ne 219 (pc := 207) dX12_behindSum_207 (by decide) (fun h207 => absurd rfl h207) (fun h207 => ?_)
                          refine V.aload_n (pc := 210) dX12_behindSum_210 rfl ?_
                          refine V.bipush (v := 61) (pc := 211) dX12_behindSum_211 (by decide) ?_
                          refine V.pV (as := [_]) (pc := 213) dX12_behindSum_213 lX12_222 bX12_isSign nX12_isSign (ci := 11) rfl eX12_isSign hM.o (c_isSign (d := d + 2) (N := N) (i := i) (tt := tt) (c := 61) _ hM hr.1 hT.2.1 (by decide) rfl) (by omega) rfl (Nat.le_of_ble_eq_true rfl) ?_
                          rw [bi_f (show ¬ kdT tt N i = ((61 : Nat) : Int) from q61)]
                          refine V.if_eq 223 (pc := 216) dX12_behindSum_216 (by decide) (fun h216 => ?_) (fun h216 => absurd rfl h216)
                          refine V.iconst (v := 0) (pc := 223) dX12_behindSum_223 (by decide) ?_
                          refine V.invV0 (as := [_]) (pc := 224) dX12_behindSum_224 lX12_184 bX12_must nX12_must (ci := 11) rfl eX12_must hM.o (c_mustN (d := d + 0) (N := N) (tt := tt) hM hT hr rfl) (by omega) rfl (Nat.le_of_ble_eq_true rfl) ?_
                          rintro _ _ _ I1 J1 _ ⟨rfl, rfl, rfl, rfl, f1, hr1⟩
                          refine V.aload_n (pc := 227) dX12_behindSum_227 rfl ?_
                          refine V.getI (pc := 228) dX12_behindSum_228 fX12_151_11 rfl hM.o ?_
                          rw [show I1 m 14 = 1 from hr1.2.1]
                          refine V.if_ne 245 (pc := 231) dX12_behindSum_231 (by decide) (fun h231 => ?_) (fun h231 => absurd h231 (by decide))
                          refine V.iconst (v := 1) (pc := 245) dX12_behindSum_245 (by decide) ?_
                          exact V.iret (pc := 246) dX12_behindSum_246 rfl ⟨rfl, rfl, rfl, rfl, f1, hr1⟩
                        · refine V.iload_n (pc := 157) dX12_behindSum_157 rfl ?_
                          refine V.if_ne 163 (pc := 158) dX12_behindSum_158 (by decide) (fun h158 => ?_) (fun h158 => absurd ⟨(ivn_m1 hin32).mp h154, by cases test with | false => rfl | true => exact absurd h158 (by decide)⟩ qov)
                          refine V.aload_n (pc := 163) dX12_behindSum_163 rfl ?_
                          refine V.pV (as := []) (pc := 164) dX12_behindSum_164 lX12_249 bX12_isCompared nX12_isCompared (ci := 11) rfl eX12_isCompared hM.o (c_isCompared (d := d + 1) (r := (i, false, C, v, P, oo)) hM hr (by show P.length ≤ 400; omega) h32) (by omega) rfl (Nat.le_of_ble_eq_true rfl) ?_
                          rw [bi_f qcp]
                          refine V.if_eq 172 (pc := 167) dX12_behindSum_167 (by decide) (fun h167 => ?_) (fun h167 => absurd rfl h167)
                          refine V.aload_n (pc := 172) dX12_behindSum_172 rfl ?_
                          refine V.bipush (v := 60) (pc := 173) dX12_behindSum_173 (by decide) ?_
                          refine V.pV (as := [_]) (pc := 175) dX12_behindSum_175 lX12_222 bX12_isSign nX12_isSign (ci := 11) rfl eX12_isSign hM.o (c_isSign (d := d + 2) (N := N) (i := i) (tt := tt) (c := 60) _ hM hr.1 hT.2.1 (by decide) rfl) (by omega) rfl (Nat.le_of_ble_eq_true rfl) ?_
                          rw [bi_f (show ¬ kdT tt N i = ((60 : Nat) : Int) from q60)]
                          refine V.if_eq 186 (pc := 178) dX12_behindSum_178 (by decide) (fun h178 => ?_) (fun h178 => absurd rfl h178)
                          refine V.aload_n (pc := 186) dX12_behindSum_186 rfl ?_
                          refine V.bipush (v := 62) (pc := 187) dX12_behindSum_187 (by decide) ?_
                          refine V.pV (as := [_]) (pc := 189) dX12_behindSum_189 lX12_222 bX12_isSign nX12_isSign (ci := 11) rfl eX12_isSign hM.o (c_isSign (d := d + 2) (N := N) (i := i) (tt := tt) (c := 62) _ hM hr.1 hT.2.1 (by decide) rfl) (by omega) rfl (Nat.le_of_ble_eq_true rfl) ?_
                          rw [bi_f (show ¬ kdT tt N i = ((62 : Nat) : Int) from q62)]
                          refine V.if_eq 200 (pc := 192) dX12_behindSum_192 (by decide) (fun h192 => ?_) (fun h192 => absurd rfl h192)
                          refine V.bipush (v := 26) (pc := 200) dX12_behindSum_200 (by decide) ?_
                          refine V.isn (pc := 202) dX12_behindSum_202 (by decide) (st1_2 rfl) ?_
                          refine V.aload_n (pc := 203) dX12_behindSum_203 rfl ?_
                          refine V.iload_n (pc := 204) dX12_behindSum_204 rfl ?_
                          refine V.bipush (v := 26) (pc := 205) dX12_behindSum_205 (by decide) ?_
                          refine V.icmp_ne 219 (pc := 207) dX12_behindSum_207 (by decide) (fun h207 => absurd rfl h207) (fun h207 => ?_)
                          refine V.aload_n (pc := 210) dX12_behindSum_210 rfl ?_
                          refine V.bipush (v := 61) (pc := 211) dX12_behindSum_211 (by decide) ?_
                          refine V.pV (as := [_]) (pc := 213) dX12_behindSum_213 lX12_222 bX12_isSign nX12_isSign (ci := 11) rfl eX12_isSign hM.o (c_isSign (d := d + 2) (N := N) (i := i) (tt := tt) (c := 61) _ hM hr.1 hT.2.1 (by decide) rfl) (by omega) rfl (Nat.le_of_ble_eq_true rfl) ?_
                          rw [bi_f (show ¬ kdT tt N i = ((61 : Nat) : Int) from q61)]
                          refine V.if_eq 223 (pc := 216) dX12_behindSum_216 (by decide) (fun h216 => ?_) (fun h216 => absurd rfl h216)
                          refine V.iconst (v := 0) (pc := 223) dX12_behindSum_223 (by decide) ?_
                          refine V.invV0 (as := [_]) (pc := 224) dX12_behindSum_224 lX12_184 bX12_must nX12_must (ci := 11) rfl eX12_must hM.o (c_mustN (d := d + 0) (N := N) (tt := tt) hM hT hr rfl) (by omega) rfl (Nat.le_of_ble_eq_true rfl) ?_
                          rintro _ _ _ I1 J1 _ ⟨rfl, rfl, rfl, rfl, f1, hr1⟩
                          refine V.aload_n (pc := 227) dX12_behindSum_227 rfl ?_
                          refine V.getI (pc := 228) dX12_behindSum_228 fX12_151_11 rfl hM.o ?_
                          rw [show I1 m 14 = 1 from hr1.2.1]
                          refine V.if_ne 245 (pc := 231) dX12_behindSum_231 (by decide) (fun h231 => ?_) (fun h231 => absurd h231 (by decide))
                          refine V.iconst (v := 1) (pc := 245) dX12_behindSum_245 (by decide) ?_
                          exact V.iret (pc := 246) dX12_behindSum_246 rfl ⟨rfl, rfl, rfl, rfl, f1, hr1⟩
theorem c_behindTest {g : gG} {d : Nat} {T : mT} {n : Nat} {I : mI} {J : mJ} {F : mF} {m N : Nat} {tt : Nat → Nat} {r : RS} (hM : MS T F m) (hT : TpM tt N I m) (hr : RdM tt N r I J m) (hW : WdM J m) (hok : RdOK (tkN tt N) r) (hb : r_b r = false) (hsq : sqp (r_P r)) (hbk : r_o r = brk (r_P r)) : Ct g mX12_behindTest (d + 3) [.ref m] 0 0 T n I J F (fun r' T' n' I' J' F' => r' = some (.int (nI (fTest (kdT tt N) r).1)) ∧ T' = T ∧ n' = n ∧ F' = F ∧ PrF m I J I' J' ∧ RdM tt N ((fTest (kdT tt N) r).2) I' J' m) := by
  refine Ct.ofV (k := 1) (by decide) (Nat.le_of_ble_eq_true rfl) ?_
  show V g mX12_behindTest (d + 3) _ 0 0 0 [some (.ref m), none] [] T n I J F
  obtain ⟨i, b, C, v, P, oo⟩ := r
  have hb2 : b = false := hb
  subst hb2
  have h305 := kdT_le (t := tt) (n := N) (fun i _ => hT.2.1 i) i
  have hwb := wrtT_bd (t := tt) (n := N) (i := i) hT.2.1
  have hE : EndT (kdT tt N) (tkN tt N) := EndT.of hT.1
  obtain ⟨hiE, hinv, hv0, ho⟩ := hok
  have hiE : i ≤ tkN tt N := hiE
  have hv0 : v ≤ 50 := hv0
  have hinv : Inv i C P := hinv
  have hpi : P.length ≤ i := hinv.2.1
  have hci := hinv.1
  have hE4 := hE.1
  have h32 : ∀ q ∈ P, q.1 < 32 := fun q hq => (hinv.2.2.1 q hq).1
  have hin32 := inr_lt P h32
  have hk11 : I m 11 = nI (srtT tt N i) := hr.1.2.2.1
  have hk12 : J m 12 = lI (wrtT tt N i) := hr.1.2.2.2
  have hlt : kdT tt N i ≠ -1 → i < 400 := fun z => by have := nxt hE hiE z; omega
  have hsq : sqp P := hsq
  have hbk : oo = brk P := hbk
  by_cases q260 : kdT tt N i = 260
  · have hlt2 : i < 400 := hlt (by omega)
    have hsd := hinv.sd (L := 2) (by omega)
    have hsd1 := hsd.1
    have hsd2 := hsd.2.1
    have eF : fTest (kdT tt N) (i, false, C, v, P, oo) = (0, (i + 1, false, emC (stl 2 P C).2 (28, 0), v, (28, (stl 2 P C).2.1) :: (stl 2 P C).1, oo)) := by rw [fTest]; simp only [r_i, r_P, r_C, r_v, r_o]; rw [if_pos q260]
    rw [eF]
    refine V.aload_n (pc := 0) dX12_behindTest_0 rfl ?_
    refine V.ldc2 (pc := 1) dX12_behindTest_1 qX12_253 ?_
    refine V.pV (as := [_]) (pc := 4) dX12_behindTest_4 lX12_209 bX12_isWord nX12_isWord (ci := 11) rfl eX12_isWord hM.o (c_isWord (d := d + 2) (N := N) (i := i) (tt := tt) (w := 1476) _ hM hr.1 hT.2.1 (by decide) rfl) (by omega) rfl (Nat.le_of_ble_eq_true rfl) ?_
    rw [bi_c (wn_260 (fun i _ => hT.2.1 i)), bi_t q260]
    refine V.isn (pc := 7) dX12_behindTest_7 (by decide) (st1_1 rfl) ?_
    refine V.iload_n (pc := 8) dX12_behindTest_8 rfl ?_
    refine V.if_ne 22 (pc := 9) dX12_behindTest_9 (by decide) (fun h9 => ?_) (fun h9 => absurd h9 (by decide))
    refine V.aload_n (pc := 22) dX12_behindTest_22 rfl ?_
    refine V.iload_n (pc := 23) dX12_behindTest_23 rfl ?_
    refine V.if_eq 31 (pc := 24) dX12_behindTest_24 (by decide) (fun h24 => absurd h24 (by decide)) (fun h24 => ?_)
    refine V.iconst (v := 2) (pc := 27) dX12_behindTest_27 (by decide) ?_
    refine V.goto 32 (pc := 28) dX12_behindTest_28 (by decide) ?_
    refine V.invV0 (as := [_]) (pc := 32) dX12_behindTest_32 lX12_243 bX12_settle nX12_settle (ci := 11) rfl eX12_settle hM.o (c_settle (d := d + 1) (N := N) (tt := tt) (L := 2) _ hM hT hr (by show i ≤ 400; omega) hinv rfl (by decide)) (by omega) rfl (Nat.le_of_ble_eq_true rfl) ?_
    rintro _ _ _ I1 J1 _ ⟨rfl, rfl, rfl, rfl, f1, rfl, hr1⟩
    refine V.aload_n (pc := 35) dX12_behindTest_35 rfl ?_
    refine V.iload_n (pc := 36) dX12_behindTest_36 rfl ?_
    refine V.if_eq 45 (pc := 37) dX12_behindTest_37 (by decide) (fun h37 => absurd h37 (by decide)) (fun h37 => ?_)
    refine V.bipush (v := 28) (pc := 40) dX12_behindTest_40 (by decide) ?_
    refine V.goto 47 (pc := 42) dX12_behindTest_42 (by decide) ?_
    refine V.aload_n (pc := 47) dX12_behindTest_47 rfl ?_
    refine V.getI (pc := 48) dX12_behindTest_48 fX12_188_11 rfl hM.o ?_
    rw [show I1 m 17 = nI (stl 2 P C).2.1 from hr1.2.2.2.1.1]
    refine V.invV0 (as := [_, _]) (pc := 51) dX12_behindTest_51 lX12_216 bX12_push nX12_push (ci := 11) rfl eX12_push hM.o (c_push (d := d + 2) (N := N) (tt := tt) (op := 28) (ar := (stl 2 P C).2.1) _ _ hM (f1.tp hT) hr1 rfl rfl (by show (stl 2 P C).1.length < 400; omega)) (by omega) rfl (Nat.le_of_ble_eq_true rfl) ?_
    rintro _ _ _ I2 J2 _ ⟨rfl, rfl, rfl, rfl, f2, hr2⟩
    refine V.aload_n (pc := 54) dX12_behindTest_54 rfl ?_
    refine V.iload_n (pc := 55) dX12_behindTest_55 rfl ?_
    refine V.if_eq 64 (pc := 56) dX12_behindTest_56 (by decide) (fun h56 => absurd h56 (by decide)) (fun h56 => ?_)
    refine V.bipush (v := 28) (pc := 59) dX12_behindTest_59 (by decide) ?_
    refine V.goto 66 (pc := 61) dX12_behindTest_61 (by decide) ?_
    refine V.iconst (v := 0) (pc := 66) dX12_behindTest_66 (by decide) ?_
    refine V.invV0 (as := [_, _]) (pc := 67) dX12_behindTest_67 lX12_197 bX12_emit nX12_emit (ci := 11) rfl eX12_emit hM.o (c_emit (d := d + 2) (N := N) (tt := tt) (op := 28) (ar := 0) _ _ hM ((f1.tr f2).tp hT) hr2 rfl rfl (by show (stl 2 P C).2.1 < 400; omega)) (by omega) rfl (Nat.le_of_ble_eq_true rfl) ?_
    rintro _ _ _ I3 J3 _ ⟨rfl, rfl, rfl, rfl, f3, rfl, hr3⟩
    refine V.aload_n (pc := 70) dX12_behindTest_70 rfl ?_
    refine V.invV0 (as := []) (pc := 71) dX12_behindTest_71 lX12_155 bX12_next nX12_next (ci := 11) rfl eX12_next hM.o (c_next (d := d + 1) (N := N) (tt := tt) (i := i + 1) hM (((f1.tr f2).tr f3).tp hT) hr3.1.2.1) (by omega) rfl (Nat.le_of_ble_eq_true rfl) ?_
    rintro _ _ _ I4 J4 _ ⟨rfl, rfl, rfl, rfl, f4, k4⟩
    refine V.iconst (v := 0) (pc := 74) dX12_behindTest_74 (by decide) ?_
    exact V.iret (pc := 75) dX12_behindTest_75 rfl ⟨rfl, rfl, rfl, rfl, ((f1.tr f2).tr f3).tr f4.pr, hr3.nx rfl f4 k4⟩
  · by_cases q259 : kdT tt N i = 259
    · have hlt2 : i < 400 := hlt (by omega)
      have hsd := hinv.sd (L := 1) (by omega)
      have hsd1 := hsd.1
      have hsd2 := hsd.2.1
      have eF : fTest (kdT tt N) (i, false, C, v, P, oo) = (0, (i + 1, false, emC (stl 1 P C).2 (29, 0), v, (29, (stl 1 P C).2.1) :: (stl 1 P C).1, oo)) := by rw [fTest]; simp only [r_i, r_P, r_C, r_v, r_o]; rw [if_neg q260, if_pos q259]
      rw [eF]
      refine V.aload_n (pc := 0) dX12_behindTest_0 rfl ?_
      refine V.ldc2 (pc := 1) dX12_behindTest_1 qX12_253 ?_
      refine V.pV (as := [_]) (pc := 4) dX12_behindTest_4 lX12_209 bX12_isWord nX12_isWord (ci := 11) rfl eX12_isWord hM.o (c_isWord (d := d + 2) (N := N) (i := i) (tt := tt) (w := 1476) _ hM hr.1 hT.2.1 (by decide) rfl) (by omega) rfl (Nat.le_of_ble_eq_true rfl) ?_
      rw [bi_c (wn_260 (fun i _ => hT.2.1 i)), bi_f q260]
      refine V.isn (pc := 7) dX12_behindTest_7 (by decide) (st1_1 rfl) ?_
      refine V.iload_n (pc := 8) dX12_behindTest_8 rfl ?_
      refine V.if_ne 22 (pc := 9) dX12_behindTest_9 (by decide) (fun h9 => absurd rfl h9) (fun h9 => ?_)
      refine V.aload_n (pc := 12) dX12_behindTest_12 rfl ?_
      refine V.ldc2 (pc := 13) dX12_behindTest_13 qX12_255 ?_
      refine V.pV (as := [_]) (pc := 16) dX12_behindTest_16 lX12_209 bX12_isWord nX12_isWord (ci := 11) rfl eX12_isWord hM.o (c_isWord (d := d + 2) (N := N) (i := i) (tt := tt) (w := 498) _ hM hr.1 hT.2.1 (by decide) rfl) (by omega) rfl (Nat.le_of_ble_eq_true rfl) ?_
      rw [bi_c (wn_259 (fun i _ => hT.2.1 i)), bi_t q259]
      refine V.if_eq 76 (pc := 19) dX12_behindTest_19 (by decide) (fun h19 => absurd h19 (by decide)) (fun h19 => ?_)
      refine V.aload_n (pc := 22) dX12_behindTest_22 rfl ?_
      refine V.iload_n (pc := 23) dX12_behindTest_23 rfl ?_
      refine V.if_eq 31 (pc := 24) dX12_behindTest_24 (by decide) (fun h24 => ?_) (fun h24 => absurd rfl h24)
      refine V.iconst (v := 1) (pc := 31) dX12_behindTest_31 (by decide) ?_
      refine V.invV0 (as := [_]) (pc := 32) dX12_behindTest_32 lX12_243 bX12_settle nX12_settle (ci := 11) rfl eX12_settle hM.o (c_settle (d := d + 1) (N := N) (tt := tt) (L := 1) _ hM hT hr (by show i ≤ 400; omega) hinv rfl (by decide)) (by omega) rfl (Nat.le_of_ble_eq_true rfl) ?_
      rintro _ _ _ I1 J1 _ ⟨rfl, rfl, rfl, rfl, f1, rfl, hr1⟩
      refine V.aload_n (pc := 35) dX12_behindTest_35 rfl ?_
      refine V.iload_n (pc := 36) dX12_behindTest_36 rfl ?_
      refine V.if_eq 45 (pc := 37) dX12_behindTest_37 (by decide) (fun h37 => ?_) (fun h37 => absurd rfl h37)
      refine V.bipush (v := 29) (pc := 45) dX12_behindTest_45 (by decide) ?_
      refine V.aload_n (pc := 47) dX12_behindTest_47 rfl ?_
      refine V.getI (pc := 48) dX12_behindTest_48 fX12_188_11 rfl hM.o ?_
      rw [show I1 m 17 = nI (stl 1 P C).2.1 from hr1.2.2.2.1.1]
      refine V.invV0 (as := [_, _]) (pc := 51) dX12_behindTest_51 lX12_216 bX12_push nX12_push (ci := 11) rfl eX12_push hM.o (c_push (d := d + 2) (N := N) (tt := tt) (op := 29) (ar := (stl 1 P C).2.1) _ _ hM (f1.tp hT) hr1 rfl rfl (by show (stl 1 P C).1.length < 400; omega)) (by omega) rfl (Nat.le_of_ble_eq_true rfl) ?_
      rintro _ _ _ I2 J2 _ ⟨rfl, rfl, rfl, rfl, f2, hr2⟩
      refine V.aload_n (pc := 54) dX12_behindTest_54 rfl ?_
      refine V.iload_n (pc := 55) dX12_behindTest_55 rfl ?_
      refine V.if_eq 64 (pc := 56) dX12_behindTest_56 (by decide) (fun h56 => ?_) (fun h56 => absurd rfl h56)
      refine V.bipush (v := 29) (pc := 64) dX12_behindTest_64 (by decide) ?_
      refine V.iconst (v := 0) (pc := 66) dX12_behindTest_66 (by decide) ?_
      refine V.invV0 (as := [_, _]) (pc := 67) dX12_behindTest_67 lX12_197 bX12_emit nX12_emit (ci := 11) rfl eX12_emit hM.o (c_emit (d := d + 2) (N := N) (tt := tt) (op := 29) (ar := 0) _ _ hM ((f1.tr f2).tp hT) hr2 rfl rfl (by show (stl 1 P C).2.1 < 400; omega)) (by omega) rfl (Nat.le_of_ble_eq_true rfl) ?_
      rintro _ _ _ I3 J3 _ ⟨rfl, rfl, rfl, rfl, f3, rfl, hr3⟩
      refine V.aload_n (pc := 70) dX12_behindTest_70 rfl ?_
      refine V.invV0 (as := []) (pc := 71) dX12_behindTest_71 lX12_155 bX12_next nX12_next (ci := 11) rfl eX12_next hM.o (c_next (d := d + 1) (N := N) (tt := tt) (i := i + 1) hM (((f1.tr f2).tr f3).tp hT) hr3.1.2.1) (by omega) rfl (Nat.le_of_ble_eq_true rfl) ?_
      rintro _ _ _ I4 J4 _ ⟨rfl, rfl, rfl, rfl, f4, k4⟩
      refine V.iconst (v := 0) (pc := 74) dX12_behindTest_74 (by decide) ?_
      exact V.iret (pc := 75) dX12_behindTest_75 rfl ⟨rfl, rfl, rfl, rfl, ((f1.tr f2).tr f3).tr f4.pr, hr3.nx rfl f4 k4⟩
    · by_cases q0 : inr P ≠ 0
      · by_cases q41 : kdT tt N i = 41
        · obtain ⟨x9, P9, e9, -⟩ := top_br P C q0
          have hbp := brk_pos P q0
          have hi1 : i + 1 ≤ 400 := by have := nxt hE hiE (by omega); omega
          have eF : fTest (kdT tt N) (i, false, C, v, P, oo) = (2, (i + 1, false, (stl 1 P C).2, v, P9, oo - 1)) := by rw [fTest]; simp only [r_i, r_P, r_C, r_v, r_o]; rw [if_neg q260, if_neg q259, if_neg q0, if_pos q41, e9]; rfl
          rw [eF]
          refine V.aload_n (pc := 0) dX12_behindTest_0 rfl ?_
          refine V.ldc2 (pc := 1) dX12_behindTest_1 qX12_253 ?_
          refine V.pV (as := [_]) (pc := 4) dX12_behindTest_4 lX12_209 bX12_isWord nX12_isWord (ci := 11) rfl eX12_isWord hM.o (c_isWord (d := d + 2) (N := N) (i := i) (tt := tt) (w := 1476) _ hM hr.1 hT.2.1 (by decide) rfl) (by omega) rfl (Nat.le_of_ble_eq_true rfl) ?_
          rw [bi_c (wn_260 (fun i _ => hT.2.1 i)), bi_f q260]
          refine V.isn (pc := 7) dX12_behindTest_7 (by decide) (st1_1 rfl) ?_
          refine V.iload_n (pc := 8) dX12_behindTest_8 rfl ?_
          refine V.if_ne 22 (pc := 9) dX12_behindTest_9 (by decide) (fun h9 => absurd rfl h9) (fun h9 => ?_)
          refine V.aload_n (pc := 12) dX12_behindTest_12 rfl ?_
          refine V.ldc2 (pc := 13) dX12_behindTest_13 qX12_255 ?_
          refine V.pV (as := [_]) (pc := 16) dX12_behindTest_16 lX12_209 bX12_isWord nX12_isWord (ci := 11) rfl eX12_isWord hM.o (c_isWord (d := d + 2) (N := N) (i := i) (tt := tt) (w := 498) _ hM hr.1 hT.2.1 (by decide) rfl) (by omega) rfl (Nat.le_of_ble_eq_true rfl) ?_
          rw [bi_c (wn_259 (fun i _ => hT.2.1 i)), bi_f q259]
          refine V.if_eq 76 (pc := 19) dX12_behindTest_19 (by decide) (fun h19 => ?_) (fun h19 => absurd rfl h19)
          refine V.aload_n (pc := 76) dX12_behindTest_76 rfl ?_
          refine V.pV (as := []) (pc := 77) dX12_behindTest_77 lX12_246 bX12_inner nX12_inner (ci := 11) rfl eX12_inner hM.o (c_inner (d := d + 2) (r := (i, false, C, v, P, oo)) hM hr (by show P.length ≤ 400; omega) h32) (by omega) rfl (Nat.le_of_ble_eq_true rfl) ?_
          refine V.iconst (v := (-1)) (pc := 80) dX12_behindTest_80 (by decide) ?_
          refine V.icmp_ne 86 (pc := 81) dX12_behindTest_81 (by decide) (fun h81 => ?_) (fun h81 => absurd ((ivn_m1 hin32).mp h81) q0)
          refine V.aload_n (pc := 86) dX12_behindTest_86 rfl ?_
          refine V.aload_n (pc := 87) dX12_behindTest_87 rfl ?_
          refine V.bipush (v := 41) (pc := 88) dX12_behindTest_88 (by decide) ?_
          refine V.pV (as := [_]) (pc := 90) dX12_behindTest_90 lX12_222 bX12_isSign nX12_isSign (ci := 11) rfl eX12_isSign hM.o (c_isSign (d := d + 2) (N := N) (i := i) (tt := tt) (c := 41) _ hM hr.1 hT.2.1 (by decide) rfl) (by omega) rfl (Nat.le_of_ble_eq_true rfl) ?_
          rw [bi_t (show kdT tt N i = ((41 : Nat) : Int) from q41)]
          refine V.invV0 (as := [_]) (pc := 93) dX12_behindTest_93 lX12_184 bX12_must nX12_must (ci := 11) rfl eX12_must hM.o (c_mustY (d := d + 0) (N := N) (tt := tt) _ hM hT hr rfl (by decide)) (by omega) rfl (Nat.le_of_ble_eq_true rfl) ?_
          rintro _ _ _ I1 J1 _ ⟨rfl, rfl, rfl, rfl, f1, hr1⟩
          refine V.aload_n (pc := 96) dX12_behindTest_96 rfl ?_
          refine V.getI (pc := 97) dX12_behindTest_97 fX12_151_11 rfl hM.o ?_
          rw [show I1 m 14 = 0 from hr1.2.1]
          refine V.if_ne 128 (pc := 100) dX12_behindTest_100 (by decide) (fun h100 => absurd rfl h100) (fun h100 => ?_)
          refine V.aload_n (pc := 103) dX12_behindTest_103 rfl ?_
          refine V.iconst (v := 1) (pc := 104) dX12_behindTest_104 (by decide) ?_
          refine V.invV0 (as := [_]) (pc := 105) dX12_behindTest_105 lX12_243 bX12_settle nX12_settle (ci := 11) rfl eX12_settle hM.o (c_settle (d := d + 1) (N := N) (tt := tt) (L := 1) _ hM (f1.tp hT) hr1 hi1 (hinv.mono (Nat.le_succ _)) rfl (by decide)) (by omega) rfl (Nat.le_of_ble_eq_true rfl) ?_
          rintro _ _ _ I2 J2 _ ⟨rfl, rfl, rfl, rfl, f2, rfl, hr2⟩
          refine V.aload_n (pc := 108) dX12_behindTest_108 rfl ?_
          refine V.dup (pc := 109) dX12_behindTest_109 rfl ?_
          refine V.getI (pc := 110) dX12_behindTest_110 fX12_191_11 rfl hM.o ?_
          rw [show I2 m 23 = nI (P9.length + 1) from by have z := hr2.2.2.2.2.2.1; simp only [r_P] at z; rw [e9] at z; exact z]
          refine V.iconst (v := 1) (pc := 113) dX12_behindTest_113 (by decide) ?_
          refine V.isub (pc := 114) dX12_behindTest_114 ?_
          rw [nI_pred]
          refine V.putI (pc := 115) dX12_behindTest_115 fX12_191_11 (fun r h => by cases h; exact Or.inl rfl) rfl hM.o ?_
          refine V.aload_n (pc := 118) dX12_behindTest_118 rfl ?_
          refine V.dup (pc := 119) dX12_behindTest_119 rfl ?_
          refine V.getI (pc := 120) dX12_behindTest_120 fX12_213_11 rfl hM.o ?_
          rw [up2_ne (by omega), show I2 m 24 = nI oo from hr2.2.2.2.2.2.2.2]
          refine V.iconst (v := 1) (pc := 123) dX12_behindTest_123 (by decide) ?_
          refine V.isub (pc := 124) dX12_behindTest_124 ?_
          rw [L1, pk_sub (by omega)]
          refine V.putI (pc := 125) dX12_behindTest_125 fX12_213_11 (fun r h => by cases h; exact Or.inl rfl) rfl hM.o ?_
          refine V.iconst (v := 2) (pc := 128) dX12_behindTest_128 (by decide) ?_
          exact V.iret (pc := 129) dX12_behindTest_129 rfl ⟨rfl, rfl, rfl, rfl, ((f1.tr f2).up (by omega)).up (by omega), hr2.set (P := P9) (v := v) (o := oo - 1) (fun b hb => by rw [up2_off hb, up2_off hb]) (fun k h1 h2 h3 => by rw [up2_ne (by omega), up2_ne (by omega)]) (by rw [up2_ne (by omega), up2_ne (by omega)]; exact hr2.2.2.2.2.1) (by rw [up2_ne (by omega), up2_same]) up2_same (by have z := hr2.2.2.2.2.2.2.1; simp only [r_P] at z; rw [e9] at z; exact z.2)⟩
        · have eF : fTest (kdT tt N) (i, false, C, v, P, oo) = (2, badR (i, false, C, v, P, oo)) := by rw [fTest]; simp only [r_i, r_P, r_C, r_v, r_o]; rw [if_neg q260, if_neg q259, if_neg q0, if_neg q41]
          rw [eF]
          refine V.aload_n (pc := 0) dX12_behindTest_0 rfl ?_
          refine V.ldc2 (pc := 1) dX12_behindTest_1 qX12_253 ?_
          refine V.pV (as := [_]) (pc := 4) dX12_behindTest_4 lX12_209 bX12_isWord nX12_isWord (ci := 11) rfl eX12_isWord hM.o (c_isWord (d := d + 2) (N := N) (i := i) (tt := tt) (w := 1476) _ hM hr.1 hT.2.1 (by decide) rfl) (by omega) rfl (Nat.le_of_ble_eq_true rfl) ?_
          rw [bi_c (wn_260 (fun i _ => hT.2.1 i)), bi_f q260]
          refine V.isn (pc := 7) dX12_behindTest_7 (by decide) (st1_1 rfl) ?_
          refine V.iload_n (pc := 8) dX12_behindTest_8 rfl ?_
          refine V.if_ne 22 (pc := 9) dX12_behindTest_9 (by decide) (fun h9 => absurd rfl h9) (fun h9 => ?_)
          refine V.aload_n (pc := 12) dX12_behindTest_12 rfl ?_
          refine V.ldc2 (pc := 13) dX12_behindTest_13 qX12_255 ?_
          refine V.pV (as := [_]) (pc := 16) dX12_behindTest_16 lX12_209 bX12_isWord nX12_isWord (ci := 11) rfl eX12_isWord hM.o (c_isWord (d := d + 2) (N := N) (i := i) (tt := tt) (w := 498) _ hM hr.1 hT.2.1 (by decide) rfl) (by omega) rfl (Nat.le_of_ble_eq_true rfl) ?_
          rw [bi_c (wn_259 (fun i _ => hT.2.1 i)), bi_f q259]
          refine V.if_eq 76 (pc := 19) dX12_behindTest_19 (by decide) (fun h19 => ?_) (fun h19 => absurd rfl h19)
          refine V.aload_n (pc := 76) dX12_behindTest_76 rfl ?_
          refine V.pV (as := []) (pc := 77) dX12_behindTest_77 lX12_246 bX12_inner nX12_inner (ci := 11) rfl eX12_inner hM.o (c_inner (d := d + 2) (r := (i, false, C, v, P, oo)) hM hr (by show P.length ≤ 400; omega) h32) (by omega) rfl (Nat.le_of_ble_eq_true rfl) ?_
          refine V.iconst (v := (-1)) (pc := 80) dX12_behindTest_80 (by decide) ?_
          refine V.icmp_ne 86 (pc := 81) dX12_behindTest_81 (by decide) (fun h81 => ?_) (fun h81 => absurd ((ivn_m1 hin32).mp h81) q0)
          refine V.aload_n (pc := 86) dX12_behindTest_86 rfl ?_
          refine V.aload_n (pc := 87) dX12_behindTest_87 rfl ?_
          refine V.bipush (v := 41) (pc := 88) dX12_behindTest_88 (by decide) ?_
          refine V.pV (as := [_]) (pc := 90) dX12_behindTest_90 lX12_222 bX12_isSign nX12_isSign (ci := 11) rfl eX12_isSign hM.o (c_isSign (d := d + 2) (N := N) (i := i) (tt := tt) (c := 41) _ hM hr.1 hT.2.1 (by decide) rfl) (by omega) rfl (Nat.le_of_ble_eq_true rfl) ?_
          rw [bi_f (show ¬ kdT tt N i = ((41 : Nat) : Int) from q41)]
          refine V.invV0 (as := [_]) (pc := 93) dX12_behindTest_93 lX12_184 bX12_must nX12_must (ci := 11) rfl eX12_must hM.o (c_mustN (d := d + 0) (N := N) (tt := tt) hM hT hr rfl) (by omega) rfl (Nat.le_of_ble_eq_true rfl) ?_
          rintro _ _ _ I1 J1 _ ⟨rfl, rfl, rfl, rfl, f1, hr1⟩
          refine V.aload_n (pc := 96) dX12_behindTest_96 rfl ?_
          refine V.getI (pc := 97) dX12_behindTest_97 fX12_151_11 rfl hM.o ?_
          rw [show I1 m 14 = 1 from hr1.2.1]
          refine V.if_ne 128 (pc := 100) dX12_behindTest_100 (by decide) (fun h100 => ?_) (fun h100 => absurd h100 (by decide))
          refine V.iconst (v := 2) (pc := 128) dX12_behindTest_128 (by decide) ?_
          exact V.iret (pc := 129) dX12_behindTest_129 rfl ⟨rfl, rfl, rfl, rfl, f1, hr1⟩
      · have q0 : inr P = 0 := Decidable.byContradiction q0
        have eF : fTest (kdT tt N) (i, false, C, v, P, oo) = (4, (i, false, C, v, P, oo)) := by rw [fTest]; simp only [r_i, r_P, r_C, r_v, r_o]; rw [if_neg q260, if_neg q259, if_pos q0]
        rw [eF]
        refine V.aload_n (pc := 0) dX12_behindTest_0 rfl ?_
        refine V.ldc2 (pc := 1) dX12_behindTest_1 qX12_253 ?_
        refine V.pV (as := [_]) (pc := 4) dX12_behindTest_4 lX12_209 bX12_isWord nX12_isWord (ci := 11) rfl eX12_isWord hM.o (c_isWord (d := d + 2) (N := N) (i := i) (tt := tt) (w := 1476) _ hM hr.1 hT.2.1 (by decide) rfl) (by omega) rfl (Nat.le_of_ble_eq_true rfl) ?_
        rw [bi_c (wn_260 (fun i _ => hT.2.1 i)), bi_f q260]
        refine V.isn (pc := 7) dX12_behindTest_7 (by decide) (st1_1 rfl) ?_
        refine V.iload_n (pc := 8) dX12_behindTest_8 rfl ?_
        refine V.if_ne 22 (pc := 9) dX12_behindTest_9 (by decide) (fun h9 => absurd rfl h9) (fun h9 => ?_)
        refine V.aload_n (pc := 12) dX12_behindTest_12 rfl ?_
        refine V.ldc2 (pc := 13) dX12_behindTest_13 qX12_255 ?_
        refine V.pV (as := [_]) (pc := 16) dX12_behindTest_16 lX12_209 bX12_isWord nX12_isWord (ci := 11) rfl eX12_isWord hM.o (c_isWord (d := d + 2) (N := N) (i := i) (tt := tt) (w := 498) _ hM hr.1 hT.2.1 (by decide) rfl) (by omega) rfl (Nat.le_of_ble_eq_true rfl) ?_
        rw [bi_c (wn_259 (fun i _ => hT.2.1 i)), bi_f q259]
        refine V.if_eq 76 (pc := 19) dX12_behindTest_19 (by decide) (fun h19 => ?_) (fun h19 => absurd rfl h19)
        refine V.aload_n (pc := 76) dX12_behindTest_76 rfl ?_
        refine V.pV (as := []) (pc := 77) dX12_behindTest_77 lX12_246 bX12_inner nX12_inner (ci := 11) rfl eX12_inner hM.o (c_inner (d := d + 2) (r := (i, false, C, v, P, oo)) hM hr (by show P.length ≤ 400; omega) h32) (by omega) rfl (Nat.le_of_ble_eq_true rfl) ?_
        refine V.iconst (v := (-1)) (pc := 80) dX12_behindTest_80 (by decide) ?_
        refine V.icmp_ne 86 (pc := 81) dX12_behindTest_81 (by decide) (fun h81 => absurd ((ivn_m1 hin32).mpr q0) h81) (fun h81 => ?_)
        refine V.iconst (v := 4) (pc := 84) dX12_behindTest_84 (by decide) ?_
        exact V.iret (pc := 85) dX12_behindTest_85 rfl ⟨rfl, rfl, rfl, rfl, PrF.rf, hr⟩
def RdK (E : Nat) (r : RS) : Prop := r_i r ≤ E ∧ (r_C r).1 ≤ r_i r ∧ (∀ k, k < (r_C r).1 → ((r_C r).2 k).1 < 32 ∧ ((r_C r).2 k).2 ≤ 10000) ∧ r_v r ≤ 50
theorem RdOK.k {E : Nat} {r : RS} (h : RdOK E r) : RdK E r := ⟨h.1, by have := h.2.1.1; omega, h.2.1.2.2.2, h.2.2.1⟩
theorem l_expr {g : gG} {d : Nat} {T : mT} {n : Nat} {I : mI} {J : mJ} {F : mF} {Q : mQ} {m N : Nat} {tt : Nat → Nat} {test : Bool} (hM : MS T F m) (hT : TpM tt N I m) (hW : WdM J m) : ∀ (t : Nat) (r : RS), r_b r = false → t ≠ 4 → (∀ (I' : mI) (J' : mJ), PrF m I J I' J' → RdM tt N (stA (kdT tt N) (nmT tt N) test t r).2 I' J' m → RdOK (tkN tt N) (stA (kdT tt N) (nmT tt N) test t r).2 → SqI (stA (kdT tt N) (nmT tt N) test t r).1 (stA (kdT tt N) (nmT tt N) test t r).2 → (stA (kdT tt N) (nmT tt N) test t r).1 ≤ 4 → V g mX12_readExpression (d + 6) Q 0 0 20 [some (.ref m), some (.int (if test = true then 1 else 0)), some (.int (nI (stA (kdT tt N) (nmT tt N) test t r).1))] [] T n I' J' F) → ∀ (I' : mI) (J' : mJ), PrF m I J I' J' → RdM tt N r I' J' m → RdOK (tkN tt N) r → SqI t r → t ≤ 4 → V g mX12_readExpression (d + 6) Q 0 0 20 [some (.ref m), some (.int (if test = true then 1 else 0)), some (.int (nI t))] [] T n I' J' F := by
  intro t r hb h4 kk I' J' hf hr hok hsq ht
  have hE : EndT (kdT tt N) (tkN tt N) := EndT.of hT.1
  have hok2 := stA_ok (nm := nmT tt N) (test := test) (t := t) hE (kdT_le (t := tt) (n := N) (fun i _ => hT.2.1 i)) hok
  have hsq2 := stA_sq (kd := kdT tt N) (nm := nmT tt N) (test := test) hb (fun q hq => (hok.2.1.2.2.1 q hq).1) (by omega) hsq
  have ht2 := stA_t (kd := kdT tt N) (nm := nmT tt N) (test := test) (t := t) (r := r)
  have e14 : I' m 14 = 0 := by
    rw [hr.2.1, hb]; rfl
  have hT2 := hf.tp hT
  have hW2 := hf.wd hW
  obtain ⟨s1, s2, s3⟩ := hsq hb
  have key : ∀ (x : Nat × RS), stA (kdT tt N) (nmT tt N) test t r = x → ∀ (I2 : mI) (J2 : mJ), PrF m I' J' I2 J2 → RdM tt N x.2 I2 J2 m → V g mX12_readExpression (d + 6) Q 0 0 20 [some (.ref m), some (.int (if test = true then 1 else 0)), some (.int (nI x.1))] [] T n I2 J2 F := by
    intro x hx I2 J2 hf2 hr2
    subst hx
    exact kk I2 J2 (hf.tr hf2) hr2 hok2 hsq2 ht2
  rcases (show t = 0 ∨ t = 1 ∨ t = 2 ∨ t = 3 by omega) with rfl | rfl | rfl | rfl
  · have hx : stA (kdT tt N) (nmT tt N) test 0 r = fPlain (kdT tt N) (nmT tt N) r := by rw [stA]; first | rfl | (rw [if_neg (by decide)]; rfl) | (rw [if_neg (by decide), if_neg (by decide)]; rfl) | (rw [if_neg (by decide), if_neg (by decide), if_neg (by decide)])
    refine V.aload_n (pc := 20) dX12_readExpression_20 rfl ?_
    refine V.getI (pc := 21) dX12_readExpression_21 fX12_151_11 rfl hM.o ?_
    rw [e14]
    refine V.if_ne 76 (pc := 24) dX12_readExpression_24 (by decide) (fun h24 => absurd rfl h24) (fun h24 => ?_)
    refine V.iload_n (pc := 27) dX12_readExpression_27 rfl ?_
    refine V.iconst (v := 4) (pc := 28) dX12_readExpression_28 (by decide) ?_
    refine V.icmp_eq 76 (pc := 29) dX12_readExpression_29 (by decide) (fun h29 => absurd h29 (by decide)) (fun h29 => ?_)
    refine V.iload_n (pc := 32) dX12_readExpression_32 rfl ?_
    refine V.if_ne 43 (pc := 33) dX12_readExpression_33 (by decide) (fun h33 => absurd rfl h33) (fun h33 => ?_)
    refine V.aload_n (pc := 36) dX12_readExpression_36 rfl ?_
    refine V.invV0 (as := []) (pc := 37) dX12_readExpression_37 lX12_257 bX12_readPlain nX12_readPlain (ci := 11) rfl eX12_readPlain hM.o (c_readPlain (d := d + 0) (N := N) (tt := tt) (r := r) hM hT2 hr hW2 hok hb) (by omega) rfl (Nat.le_of_ble_eq_true rfl) ?_
    rintro _ _ _ I1 J1 _ ⟨rfl, rfl, rfl, rfl, f1, hr1⟩
    refine V.goto 72 (pc := 40) dX12_readExpression_40 (by decide) ?_
    refine V.isn (pc := 72) dX12_readExpression_72 (by decide) (st1_2 rfl) ?_
    refine V.goto 20 (pc := 73) dX12_readExpression_73 (by decide) ?_
    exact key _ hx I1 J1 f1 hr1
  · have hx : stA (kdT tt N) (nmT tt N) test 1 r = fPart (kdT tt N) (nmT tt N) r := by rw [stA]; first | rfl | (rw [if_neg (by decide)]; rfl) | (rw [if_neg (by decide), if_neg (by decide)]; rfl) | (rw [if_neg (by decide), if_neg (by decide), if_neg (by decide)])
    refine V.aload_n (pc := 20) dX12_readExpression_20 rfl ?_
    refine V.getI (pc := 21) dX12_readExpression_21 fX12_151_11 rfl hM.o ?_
    rw [e14]
    refine V.if_ne 76 (pc := 24) dX12_readExpression_24 (by decide) (fun h24 => absurd rfl h24) (fun h24 => ?_)
    refine V.iload_n (pc := 27) dX12_readExpression_27 rfl ?_
    refine V.iconst (v := 4) (pc := 28) dX12_readExpression_28 (by decide) ?_
    refine V.icmp_eq 76 (pc := 29) dX12_readExpression_29 (by decide) (fun h29 => absurd h29 (by decide)) (fun h29 => ?_)
    refine V.iload_n (pc := 32) dX12_readExpression_32 rfl ?_
    refine V.if_ne 43 (pc := 33) dX12_readExpression_33 (by decide) (fun h33 => ?_) (fun h33 => absurd h33 (by decide))
    refine V.iload_n (pc := 43) dX12_readExpression_43 rfl ?_
    refine V.iconst (v := 1) (pc := 44) dX12_readExpression_44 (by decide) ?_
    refine V.icmp_ne 55 (pc := 45) dX12_readExpression_45 (by decide) (fun h45 => absurd rfl h45) (fun h45 => ?_)
    refine V.aload_n (pc := 48) dX12_readExpression_48 rfl ?_
    refine V.invV0 (as := []) (pc := 49) dX12_readExpression_49 lX12_240 bX12_readPart nX12_readPart (ci := 11) rfl eX12_readPart hM.o (c_readPart (d := d + 1) (N := N) (tt := tt) (r := r) hM hT2 hr hW2 hok hb) (by omega) rfl (Nat.le_of_ble_eq_true rfl) ?_
    rintro _ _ _ I1 J1 _ ⟨rfl, rfl, rfl, rfl, f1, hr1⟩
    refine V.goto 72 (pc := 52) dX12_readExpression_52 (by decide) ?_
    refine V.isn (pc := 72) dX12_readExpression_72 (by decide) (st1_2 rfl) ?_
    refine V.goto 20 (pc := 73) dX12_readExpression_73 (by decide) ?_
    exact key _ hx I1 J1 f1 hr1
  · have hx : stA (kdT tt N) (nmT tt N) test 2 r = fTest (kdT tt N) r := by rw [stA]; first | rfl | (rw [if_neg (by decide)]; rfl) | (rw [if_neg (by decide), if_neg (by decide)]; rfl) | (rw [if_neg (by decide), if_neg (by decide), if_neg (by decide)])
    refine V.aload_n (pc := 20) dX12_readExpression_20 rfl ?_
    refine V.getI (pc := 21) dX12_readExpression_21 fX12_151_11 rfl hM.o ?_
    rw [e14]
    refine V.if_ne 76 (pc := 24) dX12_readExpression_24 (by decide) (fun h24 => absurd rfl h24) (fun h24 => ?_)
    refine V.iload_n (pc := 27) dX12_readExpression_27 rfl ?_
    refine V.iconst (v := 4) (pc := 28) dX12_readExpression_28 (by decide) ?_
    refine V.icmp_eq 76 (pc := 29) dX12_readExpression_29 (by decide) (fun h29 => absurd h29 (by decide)) (fun h29 => ?_)
    refine V.iload_n (pc := 32) dX12_readExpression_32 rfl ?_
    refine V.if_ne 43 (pc := 33) dX12_readExpression_33 (by decide) (fun h33 => ?_) (fun h33 => absurd h33 (by decide))
    refine V.iload_n (pc := 43) dX12_readExpression_43 rfl ?_
    refine V.iconst (v := 1) (pc := 44) dX12_readExpression_44 (by decide) ?_
    refine V.icmp_ne 55 (pc := 45) dX12_readExpression_45 (by decide) (fun h45 => ?_) (fun h45 => absurd h45 (by decide))
    refine V.iload_n (pc := 55) dX12_readExpression_55 rfl ?_
    refine V.iconst (v := 3) (pc := 56) dX12_readExpression_56 (by decide) ?_
    refine V.icmp_ne 68 (pc := 57) dX12_readExpression_57 (by decide) (fun h57 => ?_) (fun h57 => absurd h57 (by decide))
    refine V.aload_n (pc := 68) dX12_readExpression_68 rfl ?_
    refine V.invV0 (as := []) (pc := 69) dX12_readExpression_69 lX12_264 bX12_behindTest nX12_behindTest (ci := 11) rfl eX12_behindTest hM.o (c_behindTest (d := d + 2) (N := N) (tt := tt) (r := r) hM hT2 hr hW2 hok hb s1 s3) (by omega) rfl (Nat.le_of_ble_eq_true rfl) ?_
    rintro _ _ _ I1 J1 _ ⟨rfl, rfl, rfl, rfl, f1, hr1⟩
    refine V.isn (pc := 72) dX12_readExpression_72 (by decide) (st1_2 rfl) ?_
    refine V.goto 20 (pc := 73) dX12_readExpression_73 (by decide) ?_
    exact key _ hx I1 J1 f1 hr1
  · have hx : stA (kdT tt N) (nmT tt N) test 3 r = fSum (kdT tt N) test r := by rw [stA]; first | rfl | (rw [if_neg (by decide)]; rfl) | (rw [if_neg (by decide), if_neg (by decide)]; rfl) | (rw [if_neg (by decide), if_neg (by decide), if_neg (by decide)])
    refine V.aload_n (pc := 20) dX12_readExpression_20 rfl ?_
    refine V.getI (pc := 21) dX12_readExpression_21 fX12_151_11 rfl hM.o ?_
    rw [e14]
    refine V.if_ne 76 (pc := 24) dX12_readExpression_24 (by decide) (fun h24 => absurd rfl h24) (fun h24 => ?_)
    refine V.iload_n (pc := 27) dX12_readExpression_27 rfl ?_
    refine V.iconst (v := 4) (pc := 28) dX12_readExpression_28 (by decide) ?_
    refine V.icmp_eq 76 (pc := 29) dX12_readExpression_29 (by decide) (fun h29 => absurd h29 (by decide)) (fun h29 => ?_)
    refine V.iload_n (pc := 32) dX12_readExpression_32 rfl ?_
    refine V.if_ne 43 (pc := 33) dX12_readExpression_33 (by decide) (fun h33 => ?_) (fun h33 => absurd h33 (by decide))
    refine V.iload_n (pc := 43) dX12_readExpression_43 rfl ?_
    refine V.iconst (v := 1) (pc := 44) dX12_readExpression_44 (by decide) ?_
    refine V.icmp_ne 55 (pc := 45) dX12_readExpression_45 (by decide) (fun h45 => ?_) (fun h45 => absurd h45 (by decide))
    refine V.iload_n (pc := 55) dX12_readExpression_55 rfl ?_
    refine V.iconst (v := 3) (pc := 56) dX12_readExpression_56 (by decide) ?_
    refine V.icmp_ne 68 (pc := 57) dX12_readExpression_57 (by decide) (fun h57 => absurd rfl h57) (fun h57 => ?_)
    refine V.aload_n (pc := 60) dX12_readExpression_60 rfl ?_
    refine V.iload_n (pc := 61) dX12_readExpression_61 rfl ?_
    refine V.invV0 (as := [_]) (pc := 62) dX12_readExpression_62 lX12_260 bX12_behindSum nX12_behindSum (ci := 11) rfl eX12_behindSum hM.o (c_behindSum (d := d + 2) (N := N) (tt := tt) (r := r) hM hT2 hr hW2 hok hb s1 s3) (by omega) rfl (Nat.le_of_ble_eq_true rfl) ?_
    rintro _ _ _ I1 J1 _ ⟨rfl, rfl, rfl, rfl, f1, hr1⟩
    refine V.goto 72 (pc := 65) dX12_readExpression_65 (by decide) ?_
    refine V.isn (pc := 72) dX12_readExpression_72 (by decide) (st1_2 rfl) ?_
    refine V.goto 20 (pc := 73) dX12_readExpression_73 (by decide) ?_
    exact key _ hx I1 J1 f1 hr1
set_option maxHeartbeats 2000000 in
theorem c_exprS {g : gG} {d : Nat} {T : mT} {n : Nat} {I : mI} {J : mJ} {F : mF} {m N : Nat} {tt : Nat → Nat} {r : RS} {r2 : RS} {t2 : Nat} (hM : MS T F m) (hT : TpM tt N I m) (hr : RdM tt N r I J m) (hW : WdM J m) (hok : RdK (tkN tt N) r) (hb : r_b r = false) (hgo : Go (kdT tt N) (nmT tt N) false (1, (r_i r, false, r_C r, r_v r, [], 0)) (t2, r2)) (hend : r_b r2 = true ∨ t2 = 4) : Ct g mX12_readExpression (d + 6) [.ref m, .int (if false = true then 1 else 0)] 0 0 T n I J F (fun r' T' n' I' J' F' => r' = none ∧ T' = T ∧ n' = n ∧ F' = F ∧ PrF m I J I' J' ∧ RdM tt N (r_i r2, r_b r2, (stl 1 (r_P r2) (r_C r2)).2, r_v r2, (stl 1 (r_P r2) (r_C r2)).1, r_o r2) I' J' m ∧ RdOK (tkN tt N) (r_i r2, r_b r2, (stl 1 (r_P r2) (r_C r2)).2, r_v r2, (stl 1 (r_P r2) (r_C r2)).1, r_o r2)) := by
  refine Ct.ofV (k := 1) (by decide) (Nat.le_of_ble_eq_true rfl) ?_
  show V g mX12_readExpression (d + 6) _ 0 0 0 [some (.ref m), some (.int (if false = true then 1 else 0)), none] [] T n I J F
  obtain ⟨i, b, C, v, P, oo⟩ := r
  have hb2 : b = false := hb
  subst hb2
  refine V.aload_n (pc := 0) dX12_readExpression_0 rfl ?_
  refine V.iconst (v := 0) (pc := 1) dX12_readExpression_1 (by decide) ?_
  refine V.putI (pc := 2) dX12_readExpression_2 fX12_191_11 (fun r h => by cases h; exact Or.inl rfl) rfl hM.o ?_
  refine V.aload_n (pc := 5) dX12_readExpression_5 rfl ?_
  refine V.iconst (v := 0) (pc := 6) dX12_readExpression_6 (by decide) ?_
  refine V.putI (pc := 7) dX12_readExpression_7 fX12_213_11 (fun r h => by cases h; exact Or.inl rfl) rfl hM.o ?_
  refine V.iload_n (pc := 10) dX12_readExpression_10 rfl ?_
  refine V.if_eq 18 (pc := 11) dX12_readExpression_11 (by decide) (fun h11 => ?_) (fun h11 => absurd rfl h11)
  refine V.iconst (v := 1) (pc := 18) dX12_readExpression_18 (by decide) ?_
  refine V.isn (pc := 19) dX12_readExpression_19 (by decide) (st1_2 rfl) ?_
  have hgo2 := hgo (fun c => ∀ (I' : mI) (J' : mJ), PrF m I J I' J' → RdM tt N c.2 I' J' m → RdOK (tkN tt N) c.2 → SqI c.1 c.2 → c.1 ≤ 4 → V g mX12_readExpression (d + 6) (fun r' T' n' I' J' F' => r' = none ∧ T' = T ∧ n' = n ∧ F' = F ∧ PrF m I J I' J' ∧ RdM tt N (r_i r2, r_b r2, (stl 1 (r_P r2) (r_C r2)).2, r_v r2, (stl 1 (r_P r2) (r_C r2)).1, r_o r2) I' J' m ∧ RdOK (tkN tt N) (r_i r2, r_b r2, (stl 1 (r_P r2) (r_C r2)).2, r_v r2, (stl 1 (r_P r2) (r_C r2)).1, r_o r2)) 0 0 20 [some (.ref m), some (.int (if false = true then 1 else 0)), some (.int (nI c.1))] [] T n I' J' F) (fun t r hb ht hk I' J' => l_expr hM hT hW t r hb ht hk I' J') ?_
  · refine hgo2 _ _ ((PrF.rf.up (by omega)).up (by omega)) (hr.set (P := []) (v := v) (o := 0) (fun b hb => by rw [up2_off hb, up2_off hb]) (fun k h1 h2 h3 => by rw [up2_ne (by omega), up2_ne (by omega)]) (by rw [up2_ne (by omega), up2_ne (by omega)]; exact hr.2.2.2.2.1) (by rw [up2_ne (by omega), up2_same]; rfl) up2_same trivial) ⟨hok.1, ⟨hok.2.1, Nat.zero_le _, fun q hq => (by cases hq), hok.2.2.1⟩, hok.2.2.2, Nat.zero_le _⟩ (fun _ => ⟨trivial, fun z => (by cases z), rfl⟩) (show 1 ≤ 4 by decide)
  · intro I' J' hf hr2 hok2 hsq2 ht2
    have hi4 : r_i r2 ≤ 400 := Nat.le_trans hok2.1 (EndT.of (t := tt) hT.1).1
    have hend : r_b r2 = true ∨ t2 = 4 := hend
    have hT2 := hf.tp hT
    cases hb2 : r_b r2 with
    | true =>
      have e14 : I' m 14 = 1 := by
        rw [hr2.2.1, hb2]; rfl
      rw [← hb2]
      refine V.aload_n (pc := 20) dX12_readExpression_20 rfl ?_
      refine V.getI (pc := 21) dX12_readExpression_21 fX12_151_11 rfl hM.o ?_
      rw [e14]
      refine V.if_ne 76 (pc := 24) dX12_readExpression_24 (by decide) (fun h24 => ?_) (fun h24 => absurd h24 (by decide))
      refine V.aload_n (pc := 76) dX12_readExpression_76 rfl ?_
      refine V.iconst (v := 1) (pc := 77) dX12_readExpression_77 (by decide) ?_
      refine V.invV0 (as := [_]) (pc := 78) dX12_readExpression_78 lX12_243 bX12_settle nX12_settle (ci := 11) rfl eX12_settle hM.o (c_settle (d := d + 4) (N := N) (tt := tt) (r := r2) (L := 1) _ hM hT2 hr2 hi4 hok2.2.1 rfl (by decide)) (by omega) rfl (Nat.le_of_ble_eq_true rfl) ?_
      rintro _ _ _ I3 J3 _ ⟨rfl, rfl, rfl, rfl, f3, rfl, hr3⟩
      exact V.vret (pc := 81) dX12_readExpression_81 rfl ⟨rfl, rfl, rfl, rfl, hf.tr f3, hr3, hok2.1, hok2.2.1.sd hi4, hok2.2.2⟩
    | false =>
      have e14 : I' m 14 = 0 := by
        rw [hr2.2.1, hb2]; rfl
      obtain rfl : t2 = 4 := hend.resolve_left (by rw [hb2]; decide)
      rw [← hb2]
      refine V.aload_n (pc := 20) dX12_readExpression_20 rfl ?_
      refine V.getI (pc := 21) dX12_readExpression_21 fX12_151_11 rfl hM.o ?_
      rw [e14]
      refine V.if_ne 76 (pc := 24) dX12_readExpression_24 (by decide) (fun h24 => absurd rfl h24) (fun h24 => ?_)
      refine V.iload_n (pc := 27) dX12_readExpression_27 rfl ?_
      refine V.iconst (v := 4) (pc := 28) dX12_readExpression_28 (by decide) ?_
      refine V.icmp_eq 76 (pc := 29) dX12_readExpression_29 (by decide) (fun h29 => ?_) (fun h29 => absurd rfl h29)
      refine V.aload_n (pc := 76) dX12_readExpression_76 rfl ?_
      refine V.iconst (v := 1) (pc := 77) dX12_readExpression_77 (by decide) ?_
      refine V.invV0 (as := [_]) (pc := 78) dX12_readExpression_78 lX12_243 bX12_settle nX12_settle (ci := 11) rfl eX12_settle hM.o (c_settle (d := d + 4) (N := N) (tt := tt) (r := r2) (L := 1) _ hM hT2 hr2 hi4 hok2.2.1 rfl (by decide)) (by omega) rfl (Nat.le_of_ble_eq_true rfl) ?_
      rintro _ _ _ I3 J3 _ ⟨rfl, rfl, rfl, rfl, f3, rfl, hr3⟩
      exact V.vret (pc := 81) dX12_readExpression_81 rfl ⟨rfl, rfl, rfl, rfl, hf.tr f3, hr3, hok2.1, hok2.2.1.sd hi4, hok2.2.2⟩
set_option maxHeartbeats 2000000 in
theorem c_exprT {g : gG} {d : Nat} {T : mT} {n : Nat} {I : mI} {J : mJ} {F : mF} {m N : Nat} {tt : Nat → Nat} {r : RS} {r2 : RS} {t2 : Nat} (hM : MS T F m) (hT : TpM tt N I m) (hr : RdM tt N r I J m) (hW : WdM J m) (hok : RdK (tkN tt N) r) (hb : r_b r = false) (hgo : Go (kdT tt N) (nmT tt N) true (0, (r_i r, false, r_C r, r_v r, [], 0)) (t2, r2)) (hend : r_b r2 = true ∨ t2 = 4) : Ct g mX12_readExpression (d + 6) [.ref m, .int (if true = true then 1 else 0)] 0 0 T n I J F (fun r' T' n' I' J' F' => r' = none ∧ T' = T ∧ n' = n ∧ F' = F ∧ PrF m I J I' J' ∧ RdM tt N (r_i r2, r_b r2, (stl 1 (r_P r2) (r_C r2)).2, r_v r2, (stl 1 (r_P r2) (r_C r2)).1, r_o r2) I' J' m ∧ RdOK (tkN tt N) (r_i r2, r_b r2, (stl 1 (r_P r2) (r_C r2)).2, r_v r2, (stl 1 (r_P r2) (r_C r2)).1, r_o r2)) := by
  refine Ct.ofV (k := 1) (by decide) (Nat.le_of_ble_eq_true rfl) ?_
  show V g mX12_readExpression (d + 6) _ 0 0 0 [some (.ref m), some (.int (if true = true then 1 else 0)), none] [] T n I J F
  obtain ⟨i, b, C, v, P, oo⟩ := r
  have hb2 : b = false := hb
  subst hb2
  refine V.aload_n (pc := 0) dX12_readExpression_0 rfl ?_
  refine V.iconst (v := 0) (pc := 1) dX12_readExpression_1 (by decide) ?_
  refine V.putI (pc := 2) dX12_readExpression_2 fX12_191_11 (fun r h => by cases h; exact Or.inl rfl) rfl hM.o ?_
  refine V.aload_n (pc := 5) dX12_readExpression_5 rfl ?_
  refine V.iconst (v := 0) (pc := 6) dX12_readExpression_6 (by decide) ?_
  refine V.putI (pc := 7) dX12_readExpression_7 fX12_213_11 (fun r h => by cases h; exact Or.inl rfl) rfl hM.o ?_
  refine V.iload_n (pc := 10) dX12_readExpression_10 rfl ?_
  refine V.if_eq 18 (pc := 11) dX12_readExpression_11 (by decide) (fun h11 => absurd h11 (by decide)) (fun h11 => ?_)
  refine V.iconst (v := 0) (pc := 14) dX12_readExpression_14 (by decide) ?_
  refine V.goto 19 (pc := 15) dX12_readExpression_15 (by decide) ?_
  refine V.isn (pc := 19) dX12_readExpression_19 (by decide) (st1_2 rfl) ?_
  have hgo2 := hgo (fun c => ∀ (I' : mI) (J' : mJ), PrF m I J I' J' → RdM tt N c.2 I' J' m → RdOK (tkN tt N) c.2 → SqI c.1 c.2 → c.1 ≤ 4 → V g mX12_readExpression (d + 6) (fun r' T' n' I' J' F' => r' = none ∧ T' = T ∧ n' = n ∧ F' = F ∧ PrF m I J I' J' ∧ RdM tt N (r_i r2, r_b r2, (stl 1 (r_P r2) (r_C r2)).2, r_v r2, (stl 1 (r_P r2) (r_C r2)).1, r_o r2) I' J' m ∧ RdOK (tkN tt N) (r_i r2, r_b r2, (stl 1 (r_P r2) (r_C r2)).2, r_v r2, (stl 1 (r_P r2) (r_C r2)).1, r_o r2)) 0 0 20 [some (.ref m), some (.int (if true = true then 1 else 0)), some (.int (nI c.1))] [] T n I' J' F) (fun t r hb ht hk I' J' => l_expr hM hT hW t r hb ht hk I' J') ?_
  · refine hgo2 _ _ ((PrF.rf.up (by omega)).up (by omega)) (hr.set (P := []) (v := v) (o := 0) (fun b hb => by rw [up2_off hb, up2_off hb]) (fun k h1 h2 h3 => by rw [up2_ne (by omega), up2_ne (by omega)]) (by rw [up2_ne (by omega), up2_ne (by omega)]; exact hr.2.2.2.2.1) (by rw [up2_ne (by omega), up2_same]; rfl) up2_same trivial) ⟨hok.1, ⟨hok.2.1, Nat.zero_le _, fun q hq => (by cases hq), hok.2.2.1⟩, hok.2.2.2, Nat.zero_le _⟩ (fun _ => ⟨trivial, fun z => (by cases z), rfl⟩) (show 0 ≤ 4 by decide)
  · intro I' J' hf hr2 hok2 hsq2 ht2
    have hi4 : r_i r2 ≤ 400 := Nat.le_trans hok2.1 (EndT.of (t := tt) hT.1).1
    have hend : r_b r2 = true ∨ t2 = 4 := hend
    have hT2 := hf.tp hT
    cases hb2 : r_b r2 with
    | true =>
      have e14 : I' m 14 = 1 := by
        rw [hr2.2.1, hb2]; rfl
      rw [← hb2]
      refine V.aload_n (pc := 20) dX12_readExpression_20 rfl ?_
      refine V.getI (pc := 21) dX12_readExpression_21 fX12_151_11 rfl hM.o ?_
      rw [e14]
      refine V.if_ne 76 (pc := 24) dX12_readExpression_24 (by decide) (fun h24 => ?_) (fun h24 => absurd h24 (by decide))
      refine V.aload_n (pc := 76) dX12_readExpression_76 rfl ?_
      refine V.iconst (v := 1) (pc := 77) dX12_readExpression_77 (by decide) ?_
      refine V.invV0 (as := [_]) (pc := 78) dX12_readExpression_78 lX12_243 bX12_settle nX12_settle (ci := 11) rfl eX12_settle hM.o (c_settle (d := d + 4) (N := N) (tt := tt) (r := r2) (L := 1) _ hM hT2 hr2 hi4 hok2.2.1 rfl (by decide)) (by omega) rfl (Nat.le_of_ble_eq_true rfl) ?_
      rintro _ _ _ I3 J3 _ ⟨rfl, rfl, rfl, rfl, f3, rfl, hr3⟩
      exact V.vret (pc := 81) dX12_readExpression_81 rfl ⟨rfl, rfl, rfl, rfl, hf.tr f3, hr3, hok2.1, hok2.2.1.sd hi4, hok2.2.2⟩
    | false =>
      have e14 : I' m 14 = 0 := by
        rw [hr2.2.1, hb2]; rfl
      obtain rfl : t2 = 4 := hend.resolve_left (by rw [hb2]; decide)
      rw [← hb2]
      refine V.aload_n (pc := 20) dX12_readExpression_20 rfl ?_
      refine V.getI (pc := 21) dX12_readExpression_21 fX12_151_11 rfl hM.o ?_
      rw [e14]
      refine V.if_ne 76 (pc := 24) dX12_readExpression_24 (by decide) (fun h24 => absurd rfl h24) (fun h24 => ?_)
      refine V.iload_n (pc := 27) dX12_readExpression_27 rfl ?_
      refine V.iconst (v := 4) (pc := 28) dX12_readExpression_28 (by decide) ?_
      refine V.icmp_eq 76 (pc := 29) dX12_readExpression_29 (by decide) (fun h29 => ?_) (fun h29 => absurd rfl h29)
      refine V.aload_n (pc := 76) dX12_readExpression_76 rfl ?_
      refine V.iconst (v := 1) (pc := 77) dX12_readExpression_77 (by decide) ?_
      refine V.invV0 (as := [_]) (pc := 78) dX12_readExpression_78 lX12_243 bX12_settle nX12_settle (ci := 11) rfl eX12_settle hM.o (c_settle (d := d + 4) (N := N) (tt := tt) (r := r2) (L := 1) _ hM hT2 hr2 hi4 hok2.2.1 rfl (by decide)) (by omega) rfl (Nat.le_of_ble_eq_true rfl) ?_
      rintro _ _ _ I3 J3 _ ⟨rfl, rfl, rfl, rfl, f3, rfl, hr3⟩
      exact V.vret (pc := 81) dX12_readExpression_81 rfl ⟨rfl, rfl, rfl, rfl, hf.tr f3, hr3, hok2.1, hok2.2.1.sd hi4, hok2.2.2⟩
