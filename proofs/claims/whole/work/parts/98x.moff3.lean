theorem c_offsetBy {g : gG} {d : Nat} {T : mT} {n : Nat} {I : mI} {J : mJ} {F : mF} {m h u l : Nat} {y : Hd} {ss : List Sg} (x : Int32) (hM : MS T F m) (hx : x = nI h) (hH : HdM I m h y) (hs : SgM I m ss) (hu : u ≤ 207360000) (hl : 0 < l ∧ l ≤ 207360000) (hsm : ∀ s ∈ ss, s.1 = h → s.2.2 < y.1) : Ct g mX12_offsetBy (d + 1) [.ref m, .int x, .long (lN u), .long (lN l)] 0 0 T n I J F (pureQ T n I J F (some (.int (iI (obF h u l y.1 ss))))) := by
  refine Ct.ofV (k := 6) (by decide) (Nat.le_of_ble_eq_true rfl) ?_
  show V g mX12_offsetBy (d + 1) _ 0 0 0 [some (.ref m), some (.int x), some (.long (lN u)), none, some (.long (lN l)), none, none, none, none, none, none, none] [] T n I J F
  subst hx
  have h6 := hH.1
  obtain ⟨y1, y2, -⟩ := hH.2.2
  refine V.aload_n (pc := 0) dX12_offsetBy_0 rfl ?_
  refine V.iload_n (pc := 1) dX12_offsetBy_1 rfl ?_
  refine V.iconst (v := 0) (pc := 2) dX12_offsetBy_2 (by decide) ?_
  refine V.pV (as := [_, _]) (pc := 3) dX12_offsetBy_3 lX12_115 bX12_ofHand nX12_ofHand (ci := 11) rfl eX12_ofHand hM.o (c_ofHand (d := d + 0) (h := h) (w := 0) _ _ hM rfl rfl (by omega)) (by omega) rfl (Nat.le_of_ble_eq_true rfl) ?_
  rw [show I (m + 2) (10 + 12 * h + 0) = nI y.1 from hH.2.1.1]
  refine V.is (pc := 6) dX12_offsetBy_6 (by decide) (st1_6 rfl) ?_
  refine V.iload (pc := 8) dX12_offsetBy_8 rfl ?_
  refine V.is (pc := 10) dX12_offsetBy_10 (by decide) (st1_7 rfl) ?_
  refine V.iconst (v := 0) (pc := 12) dX12_offsetBy_12 (by decide) ?_
  refine V.is (pc := 13) dX12_offsetBy_13 (by decide) (st1_8 rfl) ?_
  refine Eq.mp (congrArg (fun v => V g mX12_offsetBy (d + 1) _ 0 0 15 [some (.ref m), some (.int (nI h)), some (.long (lN u)), none, some (.long (lN l)), none, some (.int (nI y.1)), some (.int v), some (.int (nI 0)), none, none, none] [] T n I J F) (show iI (obF h u l y.1 (ss.take 0)) = nI y.1 from iI_nat _)) (l_off (mk := y.1) hM hs hu hl ⟨y1, y2⟩ h6 hsm ?ko ?ro ss.length 0 (by omega) (by show (y.1 : Int) ≠ -1; omega))
  case ro =>
    intro e
    exact ⟨by rw [e]; rfl, rfl, rfl, rfl, rfl, rfl⟩
  refine V.iload (pc := 130) dX12_offsetBy_130 rfl ?_
  exact V.iret (pc := 132) dX12_offsetBy_132 rfl ⟨rfl, rfl, rfl, rfl, rfl, rfl⟩
