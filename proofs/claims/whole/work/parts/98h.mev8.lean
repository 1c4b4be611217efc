-- cam
def okB (f : Nat → Int32) : Nat → Bool
  | 0 => true
  | k + 1 => okB f k && decide (f k ≠ NOI)
def amB (f : Nat → Int32) (p : Nat) : Nat → Bool
  | 0 => true
  | k + 1 => amB f p k && decide (f (p + k) = f k)
def camG (f : Nat → Int32) (N p : Nat) : Bool := amB f p (N + 1 - p)
def fP (g : Nat → Bool) : Nat → Nat → Int
  | _, 0 => -1
  | p, k + 1 => if g p = true then (p : Int) else fP g (p + 1) k
def camV (f : Nat → Int32) (N : Nat) : Int := if okB f (N + 1) = true then fP (camG f N) 1 99 else -1
def s_cam (A : Ab) (h w : Int) : Int := match hdAt (cor A) h with
  | none => -1
  | some y => if 99 ≤ w ∧ w ≤ 2000 then camV (shI (cor A) h.toNat y) w.toNat else -1
theorem amB_s {f : Nat → Int32} {p j : Nat} (h : p ≤ j) : amB f p (j + 1 - p) = (amB f p (j - p) && decide (f j = f (j - p))) := by rw [show j + 1 - p = (j - p) + 1 by omega, amB, show p + (j - p) = j by omega]
theorem amB_m {f : Nat → Int32} {p k : Nat} (h : ¬ amB f p k = true) : ∀ N, k ≤ N → ¬ amB f p N = true := by
  intro N
  induction N with
  | zero => intro h2; rw [show k = 0 by omega] at h; exact h
  | succ N ih =>
    intro h2
    by_cases q : k = N + 1
    · rw [← q]; exact h
    · intro z
      rw [amB, Bool.and_eq_true] at z
      exact ih (by omega) z.1
def CmF (m : Nat) (I : mI) (J : mJ) (I' : mI) (J' : mJ) : Prop := (∀ c, c ≠ m → c ≠ m + 16 → I' c = I c) ∧ (∀ t, t ≠ 26 → t ≠ 29 → I' m t = I m t) ∧ (∀ c, c ≠ m → c ≠ m + 12 → c ≠ m + 13 → J' c = J c) ∧ ∀ t, t ≠ 30 → t ≠ 31 → J' m t = J m t
theorem CmF.rf {m : Nat} {I : mI} {J : mJ} : CmF m I J I J := ⟨fun _ _ _ => rfl, fun _ _ _ => rfl, fun _ _ _ _ => rfl, fun _ _ _ => rfl⟩
theorem CmF.sh {m k : Nat} {I I' I2 : mI} {J J' J2 : mJ} {v : Int32} (h : CmF m I J I' J') (h2 : ShF m I' J' I2 J2) : CmF m I J (up2 I2 (m + 16) k v) J2 := ⟨fun c c1 c2 => by rw [up2_off c2, h2.1 c c1]; exact h.1 c c1 c2, fun t t1 t2 => by rw [up2_off (by omega), h2.2.1 t t1 t2]; exact h.2.1 t t1 t2, fun c c1 c2 c3 => (h2.2.2.1 c c1 c2 c3).trans (h.2.2.1 c c1 c2 c3), fun t t1 t2 => (h2.2.2.2 t t1 t2).trans (h.2.2.2 t t1 t2)⟩
theorem CmF.rep {m : Nat} {I I' : mI} {J J' : mJ} {A : Ab} (f : CmF m I J I' J') (h : RepM I J m A) : RepM I' J' m A := by
  obtain ⟨⟨a1, a2, a3, a4, a5⟩, h2, h3, h4, h5, h6, h7⟩ := h
  refine ⟨⟨?_, ?_, ?_, ?_, ?_⟩, ?_, ?_, fun k hk => ?_, fun i t hi => ?_, fun h x hx => ?_, ?_⟩
  · rw [f.2.1 1 (by omega) (by omega)]; exact a1
  · rw [f.2.1 6 (by omega) (by omega)]; exact a2
  · rw [f.2.1 8 (by omega) (by omega)]; exact a3
  · rw [f.2.1 13 (by omega) (by omega)]; exact a4
  · rw [f.2.1 42 (by omega) (by omega)]; exact a5
  · rw [f.1 _ (by omega) (by omega)]; exact h2
  · rw [f.1 _ (by omega) (by omega)]; exact h3
  · rw [f.1 _ (by omega) (by omega), f.1 (m + 3) (by omega) (by omega)]; exact h4 k hk
  · rw [f.1 _ (by omega) (by omega)]; exact h5 i t hi
  · rw [f.1 _ (by omega) (by omega), f.1 (m + 19) (by omega) (by omega)]; exact h6 h x hx
  · rw [f.2.2.1 _ (by omega) (by omega) (by omega)]; exact h7
theorem CmF.frm {m : Nat} {I I' : mI} {J J' : mJ} (f : CmF m I J I' J') : Frm m I I' ∧ Frm m J J' := ⟨fun b hb => f.1 b (by omega) (by omega), fun b hb => f.2.2.1 b (by omega) (by omega) (by omega)⟩
theorem V.lc5 {g : gG} {M : mD} {d : Nat} {Q : mQ} {bc bs pc : Nat} {a0 a1 a2 a3 a4 : Option Value} {x x' : Int32} {L : List (Option Value)} {st : List Value} {T : mT} {n : Nat} {I : mI} {J : mJ} {F : mF} (h : x = x') (kk : V g M d Q bc bs pc (a0 :: a1 :: a2 :: a3 :: a4 :: some (.int x') :: L) st T n I J F) : V g M d Q bc bs pc (a0 :: a1 :: a2 :: a3 :: a4 :: some (.int x) :: L) st T n I J F := by subst h; exact kk
theorem V.lc4 {g : gG} {M : mD} {d : Nat} {Q : mQ} {bc bs pc : Nat} {a0 a1 a2 a3 : Option Value} {x x' : Int32} {L : List (Option Value)} {st : List Value} {T : mT} {n : Nat} {I : mI} {J : mJ} {F : mF} (h : x = x') (kk : V g M d Q bc bs pc (a0 :: a1 :: a2 :: a3 :: some (.int x') :: L) st T n I J F) : V g M d Q bc bs pc (a0 :: a1 :: a2 :: a3 :: some (.int x) :: L) st T n I J F := by subst h; exact kk
theorem V.lc3 {g : gG} {M : mD} {d : Nat} {Q : mQ} {bc bs pc : Nat} {a0 a1 a2 : Option Value} {x x' : Int32} {L : List (Option Value)} {st : List Value} {T : mT} {n : Nat} {I : mI} {J : mJ} {F : mF} (h : x = x') (kk : V g M d Q bc bs pc (a0 :: a1 :: a2 :: some (.int x') :: L) st T n I J F) : V g M d Q bc bs pc (a0 :: a1 :: a2 :: some (.int x) :: L) st T n I J F := by subst h; exact kk
theorem l_cam1 {g : gG} {d : Nat} {T : mT} {n : Nat} {I : mI} {J : mJ} {F : mF} {Q : mQ} {m h N : Nat} {y : Hd} {A : Ab} (hM : MS T F m) (hA : AbOK A) (hR : RepM I J m A) (hy : (hds (cor A))[h]? = some y) (hN : N ≤ 2000) (kk : ∀ (I' : mI) (J' : mJ), CmF m I J I' J' → (∀ i, i < N + 1 → I' (m + 16) i = (shI (cor A) h y) i) → V g mX12_cam (d + 7) Q 0 0 83 [some (.ref m), some (.int (nI h)), some (.int (nI N)), some (.int (bi (okB (shI (cor A) h y) (N + 1) = true))), some (.int (nI (N + 1))), none, none] [] T n I' J' F) : ∀ (t j : Nat) (I' : mI) (J' : mJ), j + t = N + 1 → (CmF m I J I' J' ∧ ∀ i, i < j → I' (m + 16) i = (shI (cor A) h y) i) → V g mX12_cam (d + 7) Q 0 0 34 [some (.ref m), some (.int (nI h)), some (.int (nI N)), some (.int (bi (okB (shI (cor A) h y) j = true))), some (.int (nI j)), none, none] [] T n I' J' F := by
  intro t
  induction t with
  | zero =>
    intro j I' J' hj hi
    obtain rfl : j = N + 1 := by omega
    refine V.iload (pc := 34) dX12_cam_34 rfl ?_
    refine V.iload_n (pc := 36) dX12_cam_36 rfl ?_
    refine V.icmp_gt 83 (pc := 37) dX12_cam_37 (by decide) (fun h37 => ?_) (fun h37 => absurd (by rw [lt32, nI_toInt (by omega), nI_toInt (by omega)]; omega) h37)
    exact kk I' J' hi.1 hi.2
  | succ t ih =>
    intro j I' J' hj hi
    have hR2 := hi.1.rep hR
    refine V.iload (pc := 34) dX12_cam_34 rfl ?_
    refine V.iload_n (pc := 36) dX12_cam_36 rfl ?_
    refine V.icmp_gt 83 (pc := 37) dX12_cam_37 (by decide) (fun h37 => absurd h37 (by rw [lt32, nI_toInt (by omega), nI_toInt (by omega)]; omega)) (fun h37 => ?_)
    refine V.aload_n (pc := 40) dX12_cam_40 rfl ?_
    refine V.getR (pc := 41) dX12_cam_41 fX12_71_11 rfl hM.o hM.f37 ?_
    refine V.iload (pc := 44) dX12_cam_44 rfl ?_
    refine V.aload_n (pc := 46) dX12_cam_46 rfl ?_
    refine V.iload_n (pc := 47) dX12_cam_47 rfl ?_
    refine V.iload (pc := 48) dX12_cam_48 rfl ?_
    refine V.invV0 (as := [_, _]) (pc := 50) dX12_cam_50 lX12_321 bX12_shouldOf nX12_shouldOf (ci := 11) rfl eX12_shouldOf hM.o (c_shouldOf (d := d + 1) (h := h) (dd := j) _ _ hM hA hR2 hy rfl rfl (by omega)) (by omega) rfl (Nat.le_of_ble_eq_true rfl) ?_
    rintro _ _ _ I2 J2 _ ⟨rfl, rfl, rfl, rfl, f2⟩
    refine V.iast' (k := j) (pc := 53) dX12_cam_53 hM.t37 rfl (by omega) (by decide) ?_
    refine V.iload_n (pc := 54) dX12_cam_54 rfl ?_
    refine V.if_eq 75 (pc := 55) dX12_cam_55 (by decide) (fun h55 => ?_) (fun h55 => ?_)
    · refine V.iconst (v := 0) (pc := 75) dX12_cam_75 (by decide) ?_
      refine V.isn (pc := 76) dX12_cam_76 (by decide) (st1_3 rfl) ?_
      refine V.iinc1 (pc := 77) dX12_cam_77 (by decide) rfl (st1_4 rfl) ?_
      refine V.goto 34 (pc := 80) dX12_cam_80 (by decide) ?_
      rw [nI_1]
      have z0 := ih (j + 1) (up2 I2 (m + 16) j ((shI (cor A) h y) j)) J2 (by omega) ⟨hi.1.sh f2, fun i h1 => ?_⟩
      · rw [bi_f (show ¬ okB (shI (cor A) h y) (j + 1) = true from fun z => by rw [okB, Bool.and_eq_true] at z; exact bi_eq.mp h55 z.1)] at z0
        exact z0
      · by_cases q : i = j
        · subst q; rw [up2_same]
        · rw [up2_ne (by omega), f2.1 _ (by omega)]; exact hi.2 i (by omega)
    · refine V.aload_n (pc := 58) dX12_cam_58 rfl ?_
      refine V.getR (pc := 59) dX12_cam_59 fX12_71_11 rfl hM.o hM.f37 ?_
      refine V.iload (pc := 62) dX12_cam_62 rfl ?_
      refine V.iald' (k := j) (pc := 64) dX12_cam_64 hM.t37 rfl (by omega) (by decide) ?_
      rw [up2_same]
      refine V.ldcw (pc := 65) dX12_cam_65 qX12_306 ?_
      refine V.icmp_eq 75 (pc := 68) dX12_cam_68 (by decide) (fun h68 => ?_) (fun h68 => ?_)
      · refine V.iconst (v := 0) (pc := 75) dX12_cam_75 (by decide) ?_
        refine V.isn (pc := 76) dX12_cam_76 (by decide) (st1_3 rfl) ?_
        refine V.iinc1 (pc := 77) dX12_cam_77 (by decide) rfl (st1_4 rfl) ?_
        refine V.goto 34 (pc := 80) dX12_cam_80 (by decide) ?_
        rw [nI_1]
        have z0 := ih (j + 1) (up2 I2 (m + 16) j ((shI (cor A) h y) j)) J2 (by omega) ⟨hi.1.sh f2, fun i h1 => ?_⟩
        · rw [bi_f (show ¬ okB (shI (cor A) h y) (j + 1) = true from fun z => by rw [okB, Bool.and_eq_true] at z; exact (of_decide_eq_true z.2) h68)] at z0
          exact z0
        · by_cases q : i = j
          · subst q; rw [up2_same]
          · rw [up2_ne (by omega), f2.1 _ (by omega)]; exact hi.2 i (by omega)
      · refine V.iconst (v := 1) (pc := 71) dX12_cam_71 (by decide) ?_
        refine V.goto 76 (pc := 72) dX12_cam_72 (by decide) ?_
        refine V.isn (pc := 76) dX12_cam_76 (by decide) (st1_3 rfl) ?_
        refine V.iinc1 (pc := 77) dX12_cam_77 (by decide) rfl (st1_4 rfl) ?_
        refine V.goto 34 (pc := 80) dX12_cam_80 (by decide) ?_
        rw [nI_1]
        have z0 := ih (j + 1) (up2 I2 (m + 16) j ((shI (cor A) h y) j)) J2 (by omega) ⟨hi.1.sh f2, fun i h1 => ?_⟩
        · rw [bi_t (show okB (shI (cor A) h y) (j + 1) = true from by rw [okB, Bool.and_eq_true]; exact ⟨bi_ne.mp h55, decide_eq_true h68⟩)] at z0
          exact z0
        · by_cases q : i = j
          · subst q; rw [up2_same]
          · rw [up2_ne (by omega), f2.1 _ (by omega)]; exact hi.2 i (by omega)
theorem l_cam3 {g : gG} {d : Nat} {T : mT} {n : Nat} {I : mI} {J : mJ} {F : mF} {Q : mQ} {m N p : Nat} {f : Nat → Int32} {v1 v3 : Int32} (hM : MS T F m) (hp : 1 ≤ p) (hpN : p ≤ 2000) (hN : N ≤ 2000) (hs : ∀ i, i < N + 1 → I (m + 16) i = f i) (kk : ∀ v6 : Int32, V g mX12_cam (d + 7) Q 0 0 148 [some (.ref m), some (.int v1), some (.int (nI N)), some (.int v3), some (.int (nI p)), some (.int (bi (amB f p (N + 1 - p) = true))), some (.int v6)] [] T n I J F) : ∀ (t j : Nat) , j + t = N + 1 → (p ≤ j) → V g mX12_cam (d + 7) Q 0 0 104 [some (.ref m), some (.int v1), some (.int (nI N)), some (.int v3), some (.int (nI p)), some (.int (bi (amB f p (j - p) = true))), some (.int (nI j))] [] T n I J F := by
  intro t
  induction t with
  | zero =>
    intro j  hj hi
    obtain rfl : j = N + 1 := by omega
    refine V.iload (pc := 104) dX12_cam_104 rfl ?_
    refine V.iload_n (pc := 106) dX12_cam_106 rfl ?_
    refine V.icmp_gt 148 (pc := 107) dX12_cam_107 (by decide) (fun h107 => ?_) (fun h107 => absurd (by rw [lt32, nI_toInt (by omega), nI_toInt (by omega)]; omega) h107)
    exact kk _
  | succ t ih =>
    intro j  hj hi
    refine V.iload (pc := 104) dX12_cam_104 rfl ?_
    refine V.iload_n (pc := 106) dX12_cam_106 rfl ?_
    refine V.icmp_gt 148 (pc := 107) dX12_cam_107 (by decide) (fun h107 => absurd h107 (by rw [lt32, nI_toInt (by omega), nI_toInt (by omega)]; omega)) (fun h107 => ?_)
    refine V.iload (pc := 110) dX12_cam_110 rfl ?_
    refine V.if_eq 148 (pc := 112) dX12_cam_112 (by decide) (fun h112 => ?_) (fun h112 => ?_)
    · have am := bi_eq.mp h112
      have z0 := kk (nI j)
      rw [bi_f (amB_m am (N + 1 - p) (by omega))] at z0
      rw [bi_f am]
      exact z0
    · have am := bi_ne.mp h112
      refine V.aload_n (pc := 115) dX12_cam_115 rfl ?_
      refine V.getR (pc := 116) dX12_cam_116 fX12_71_11 rfl hM.o hM.f37 ?_
      refine V.iload (pc := 119) dX12_cam_119 rfl ?_
      refine V.iald' (k := j) (pc := 121) dX12_cam_121 hM.t37 rfl (by omega) (by decide) ?_
      rw [hs j (by omega)]
      refine V.aload_n (pc := 122) dX12_cam_122 rfl ?_
      refine V.getR (pc := 123) dX12_cam_123 fX12_71_11 rfl hM.o hM.f37 ?_
      refine V.iload (pc := 126) dX12_cam_126 rfl ?_
      refine V.iload (pc := 128) dX12_cam_128 rfl ?_
      refine V.isub (pc := 130) dX12_cam_130 ?_
      refine V.iald' (k := j - p) (pc := 131) dX12_cam_131 hM.t37 (pk_sub (by omega)) (by omega) (by decide) ?_
      rw [hs (j - p) (by omega)]
      refine V.icmp_ne 139 (pc := 132) dX12_cam_132 (by decide) (fun h132 => ?_) (fun h132 => ?_)
      · refine V.iconst (v := 0) (pc := 139) dX12_cam_139 (by decide) ?_
        refine V.is (pc := 140) dX12_cam_140 (by decide) (st1_5 rfl) ?_
        refine V.iinc1 (pc := 142) dX12_cam_142 (by decide) rfl (st1_6 rfl) ?_
        refine V.goto 104 (pc := 145) dX12_cam_145 (by decide) ?_
        rw [nI_1]
        have z0 := ih (j + 1) (by omega) (by omega)
        rw [bi_f (show ¬ amB f p (j + 1 - p) = true from fun z => by rw [amB_s hi, Bool.and_eq_true] at z; exact h132 (of_decide_eq_true z.2))] at z0
        exact z0
      · refine V.iconst (v := 1) (pc := 135) dX12_cam_135 (by decide) ?_
        refine V.goto 140 (pc := 136) dX12_cam_136 (by decide) ?_
        refine V.is (pc := 140) dX12_cam_140 (by decide) (st1_5 rfl) ?_
        refine V.iinc1 (pc := 142) dX12_cam_142 (by decide) rfl (st1_6 rfl) ?_
        refine V.goto 104 (pc := 145) dX12_cam_145 (by decide) ?_
        rw [nI_1]
        have z0 := ih (j + 1) (by omega) (by omega)
        rw [bi_t (show amB f p (j + 1 - p) = true from by rw [amB_s hi, Bool.and_eq_true]; exact ⟨am, decide_eq_true h132⟩)] at z0
        exact z0
theorem l_cam2 {g : gG} {d : Nat} {T : mT} {n : Nat} {I : mI} {J : mJ} {F : mF} {Q : mQ} {m N : Nat} {f : Nat → Int32} {v1 : Int32} (hM : MS T F m) (hN : N ≤ 2000) (hN2 : 99 ≤ N) (hs : ∀ i, i < N + 1 → I (m + 16) i = f i) (kk : fP (camG f N) 1 99 = -1 → V g mX12_cam (d + 7) Q 0 0 162 [some (.ref m), some (.int v1), some (.int (nI N)), some (.int 1), some (.int (nI 100)), none, none] [] T n I J F) (kr : ∀ j : Nat, fP (camG f N) 1 99 = (j : Int) → Q (some (.int (nI j))) T n I J F) : ∀ (t j : Nat) , j + t = 100 → (1 ≤ j ∧ fP (camG f N) 1 99 = fP (camG f N) j (100 - j)) → V g mX12_cam (d + 7) Q 0 0 86 [some (.ref m), some (.int v1), some (.int (nI N)), some (.int 1), some (.int (nI j)), none, none] [] T n I J F := by
  intro t
  induction t with
  | zero =>
    intro j  hj hi
    obtain rfl : j = 100 := by omega
    refine V.iload (pc := 86) dX12_cam_86 rfl ?_
    refine V.bipush (v := 100) (pc := 88) dX12_cam_88 (by decide) ?_
    refine V.icmp_ge 162 (pc := 90) dX12_cam_90 (by decide) (fun h90 => ?_) (fun h90 => absurd (by decide) h90)
    exact kk hi.2
  | succ t ih =>
    intro j  hj hi
    refine V.iload (pc := 86) dX12_cam_86 rfl ?_
    refine V.bipush (v := 100) (pc := 88) dX12_cam_88 (by decide) ?_
    refine V.icmp_ge 162 (pc := 90) dX12_cam_90 (by decide) (fun h90 => absurd h90 (by rw [le32, nI_toInt (by omega)]; show ¬ (100 : Int) ≤ _; omega)) (fun h90 => ?_)
    refine V.iload_n (pc := 93) dX12_cam_93 rfl ?_
    refine V.if_eq 162 (pc := 94) dX12_cam_94 (by decide) (fun h94 => absurd h94 (by decide)) (fun h94 => ?_)
    refine V.iconst (v := 1) (pc := 97) dX12_cam_97 (by decide) ?_
    refine V.is (pc := 98) dX12_cam_98 (by decide) (st1_5 rfl) ?_
    refine V.iload (pc := 100) dX12_cam_100 rfl ?_
    refine V.is (pc := 102) dX12_cam_102 (by decide) (st1_6 rfl) ?_
    refine V.lc5 (show (1 : Int32) = bi (amB f j (j - j) = true) from (bi_t (by rw [Nat.sub_self]; rfl)).symm) ?_
    refine l_cam3 (f := f) hM hi.1 (by omega) (by omega) hs (fun v6 => ?_) (N + 1 - j) j (by omega) (Nat.le_refl _)
    refine V.iload (pc := 148) dX12_cam_148 rfl ?_
    refine V.if_eq 156 (pc := 150) dX12_cam_150 (by decide) (fun h150 => ?_) (fun h150 => ?_)
    · refine V.iinc1 (pc := 156) dX12_cam_156 (by decide) rfl (st1_4 rfl) ?_
      refine V.goto 86 (pc := 159) dX12_cam_159 (by decide) ?_
      refine V.weak wk_5 ?_
      refine V.weak wk_6 ?_
      rw [nI_1]
      exact ih (j + 1) (by omega) ⟨by omega, by rw [hi.2, show 100 - j = (100 - (j + 1)) + 1 by omega, fP, if_neg (show ¬ camG f N j = true from bi_eq.mp h150)]⟩
    · refine V.iload (pc := 153) dX12_cam_153 rfl ?_
      exact V.iret (pc := 155) dX12_cam_155 rfl (kr j (by rw [hi.2, show 100 - j = (100 - (j + 1)) + 1 by omega, fP, if_pos (show camG f N j = true from bi_ne.mp h150)]))
theorem k_camN {g : gG} {d : Nat} {T : mT} {n : Nat} {I : mI} {J : mJ} {F : mF} {Q : mQ} {m : Nat} {v1 v2 : Int32} (hM : MS T F m) (hQ : Q (some (.int (-1))) T n I J F) : V g mX12_cam (d + 7) Q 0 0 86 [some (.ref m), some (.int v1), some (.int v2), some (.int 0), some (.int 1), none, none] [] T n I J F := by
  refine V.iload (pc := 86) dX12_cam_86 rfl ?_
  refine V.bipush (v := 100) (pc := 88) dX12_cam_88 (by decide) ?_
  refine V.icmp_ge 162 (pc := 90) dX12_cam_90 (by decide) (fun h90 => absurd h90 (by decide)) (fun h90 => ?_)
  refine V.iload_n (pc := 93) dX12_cam_93 rfl ?_
  refine V.if_eq 162 (pc := 94) dX12_cam_94 (by decide) (fun h94 => ?_) (fun h94 => absurd rfl h94)
  refine V.iconst (v := (-1)) (pc := 162) dX12_cam_162 (by decide) ?_
  exact V.iret (pc := 163) dX12_cam_163 rfl hQ
theorem p_cam {g : gG} {d : Nat} {T : mT} {n : Nat} {I : mI} {J : mJ} {F : mF} {m : Nat} {A : Ab} (x z : Int32) (hM : MS T F m) (hA : AbOK A) (hR : RepM I J m A)  : Ct g mX12_cam (d + 7) [.ref m, .int x, .int z] 0 0 T n I J F (QM m T n I J F (some (.int (iI (s_cam A x.toInt z.toInt)))) A) := by
  refine Ct.ofV (k := 4) (by decide) (Nat.le_of_ble_eq_true rfl) ?_
  show V g mX12_cam (d + 7) _ 0 0 0 [some (.ref m), some (.int x), some (.int z), none, none, none, none] [] T n I J F
  have h6 := hA.1.1
  refine V.aload_n (pc := 0) dX12_cam_0 rfl ?_
  refine V.iconst (v := 0) (pc := 1) dX12_cam_1 (by decide) ?_
  refine V.putI (pc := 2) dX12_cam_2 fX12_88_11 (fun r h => by cases h; exact Or.inl rfl) rfl hM.o ?_
  refine V.thr hR (fun I1 hR1 hf => ?_)
  clear hR
  have hR := hR1
  clear hR1
  refine V.aload_n (pc := 5) dX12_cam_5 rfl ?_
  refine V.iload_n (pc := 6) dX12_cam_6 rfl ?_
  refine V.pV (as := [_]) (pc := 7) dX12_cam_7 lX12_111 bX12_isHand nX12_isHand (ci := 11) rfl eX12_isHand hM.o (c_isHand (d := d + 5) (k := (hds (cor A)).length) _ hM (by omega) hR.h0) (by omega) rfl (Nat.le_of_ble_eq_true rfl) ?_
  refine V.if_eq 27 (pc := 10) dX12_cam_10 (by decide) (fun h10 => ?_) (fun h10 => ?_)
  · have q := bi_eq.mp h10
    have ey := hdAt_no q
    refine V.iconst (v := (-1)) (pc := 27) dX12_cam_27 (by decide) ?_
    exact V.iret (pc := 28) dX12_cam_28 rfl ⟨by rw [s_cam]; simp only [ey]; rfl, rfl, rfl, rfl, hf, Frm.rf, hR⟩
  · have q := bi_ne.mp h10
    obtain ⟨y, h1y, e1y⟩ := hdAt_yes q
    have h1x := nIx q.1 rfl
    have h1H := hR.hd hA h1y
    have h1b := rate_bd h1H.2.2 y.2.2.2.length
    rw [List.take_length] at h1b
    refine V.iload_n (pc := 13) dX12_cam_13 rfl ?_
    refine V.i2l (pc := 14) dX12_cam_14 ?_
    refine V.ldc2 (pc := 15) dX12_cam_15 qX12_410 ?_
    refine V.ldc2 (pc := 18) dX12_cam_18 qX12_412 ?_
    refine V.pS (as := [_, _, _]) (pc := 21) dX12_cam_21 lX12_98 bX12_in sX12_in (c_in (d := d + 6) _ _ _) (by omega) rfl (Nat.le_of_ble_eq_true rfl) ?_
    rw [bi_c (in64 z 99 2000 99 2000 rfl rfl)]
    refine V.if_ne 29 (pc := 24) dX12_cam_24 (by decide) (fun h24 => ?_) (fun h24 => ?_)
    · have qd := bi_ne.mp h24
      have hz1 := nIx (x := z) (by omega) rfl
      refine V.iconst (v := 1) (pc := 29) dX12_cam_29 (by decide) ?_
      refine V.isn (pc := 30) dX12_cam_30 (by decide) (st1_3 rfl) ?_
      refine V.iconst (v := 0) (pc := 31) dX12_cam_31 (by decide) ?_
      refine V.is (pc := 32) dX12_cam_32 (by decide) (st1_4 rfl) ?_
      conv => arg 8; rw [h1x, hz1]
      refine V.lc3 (show (1 : Int32) = bi (okB (shI (cor A) x.toInt.toNat y) 0 = true) from (bi_t rfl).symm) ?_
      refine V.lc4 (show (0 : Int32) = nI 0 from rfl) ?_
      refine l_cam1 (h := x.toInt.toNat) (N := z.toInt.toNat) (y := y) hM hA hR h1y (by omega) (fun I2 J2 c2 hs2 => ?_) (z.toInt.toNat + 1) 0 _ _ (by omega) ⟨CmF.rf, fun i h => absurd h (by omega)⟩
      refine V.iconst (v := 1) (pc := 83) dX12_cam_83 (by decide) ?_
      refine V.is (pc := 84) dX12_cam_84 (by decide) (st1_4 rfl) ?_
      by_cases qo : okB (shI (cor A) x.toInt.toNat y) (z.toInt.toNat + 1) = true
      rotate_left
      · rw [bi_f qo]
        exact k_camN hM ⟨by rw [s_cam]; simp only [e1y]; rw [if_pos qd, camV, if_neg qo]; rfl, rfl, rfl, rfl, hf.trans c2.frm.1, c2.frm.2, c2.rep hR⟩
      rw [bi_t qo]
      refine V.lc4 (show (1 : Int32) = nI 1 from rfl) ?_
      refine l_cam2 (f := (shI (cor A) x.toInt.toNat y)) (N := z.toInt.toNat) hM (by omega) (by omega) hs2 ?kk ?kr 99 1 (by omega) ⟨Nat.le_refl _, congrArg (fP _ 1) (show 99 = 100 - 1 by decide)⟩
      case kr =>
        intro j e0
        exact ⟨by rw [s_cam]; simp only [e1y]; rw [if_pos qd, camV, if_pos qo, e0, iI_nat], rfl, rfl, rfl, hf.trans c2.frm.1, c2.frm.2, c2.rep hR⟩
      intro e0
      refine V.iconst (v := (-1)) (pc := 162) dX12_cam_162 (by decide) ?_
      exact V.iret (pc := 163) dX12_cam_163 rfl ⟨by rw [s_cam]; simp only [e1y]; rw [if_pos qd, camV, if_pos qo, e0]; rfl, rfl, rfl, rfl, hf.trans c2.frm.1, c2.frm.2, c2.rep hR⟩
    · have qd := bi_eq.mp h24
      refine V.iconst (v := (-1)) (pc := 27) dX12_cam_27 (by decide) ?_
      exact V.iret (pc := 28) dX12_cam_28 rfl ⟨by rw [s_cam]; simp only [e1y]; rw [if_neg qd]; rfl, rfl, rfl, rfl, hf, Frm.rf, hR⟩
