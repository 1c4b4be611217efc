theorem lc_row {g : gG} {d : Nat} {T : mT} {n : Nat} {I : mI} {J : mJ} {F : mF} {Q : mQ} {b x k i t N : Nat} {A : Ab} {xs : Nat → Int32} (hXs : va_X b N xs (gs g) (gs g).heap) (hbs : b < (gs g).heap.size) (hiN : i + 7 ≤ N) (hN : N ≤ 3584) (hLI : LI x A k T n I J F) (kk : ∀ (A' : Ab) (k' : Nat) (T' : mT) (n' : Nat) (I' : mI) (J' : mJ) (F' : mF), LI x A' k' T' n' I' J' F' → V g mL_law (d + 60) Q (3 * t) (420 * t + phi k') 1530 [some (.ref b), some (.ref x), some (.ref (x + 90)), some (.int (nI i))] [] T' n' I' J' F') : V g mL_law (d + 60) Q (3 * t + 3) (420 * t + 420 + phi k) 565 [some (.ref b), some (.ref x), some (.ref (x + 90)), some (.int (nI i))] [] T n I J F := by
  obtain ⟨hX, hR, hM, hRM, hA, hLK, hn⟩ := id hLI
  have hTx := hX.o
  refine V.aload_n (pc := 565) dL_law_565 rfl ?_
  refine V.invV0 (as := []) (pc := 566) dL_law_566 lL_61 bX11_row nX11_row (ci := 10) rfl eX11_row (by assumption) (y_row (d := d + 55)  hX hA hR) (by omega) rfl (Nat.le_of_ble_eq_true rfl) ?_
  rintro r1 T1 n1 I1 J1 F1 q1
  obtain ⟨rfl, L1⟩ := hLI.cls (q1.qs hLK)
  have hTm := L1.2.2.1.o
  refine V.aload_n (pc := 569) dL_law_569 rfl ?_
  refine V.invV0 (as := []) (pc := 570) dL_law_570 lL_65 bX12_row nX12_row (ci := 11) rfl eX12_row (by assumption) (p_row (d := d + 56)  L1.2.2.1 L1.2.2.2.2.1 L1.2.2.2.1) (by omega) rfl (Nat.le_of_ble_eq_true rfl) ?_
  rintro r2 T2 n2 I2 J2 F2 q2
  obtain ⟨rfl, L2⟩ := L1.ref (ab_row hA) q2
  refine V.icmp_eq 1530 (pc := 573) dL_law_573 (by decide) (fun h573 => ?_) (fun h573 => absurd rfl h573)
  refine V.room (bc := 3 * t) (bs := 420 * t + phi k) (by omega) (by omega) ?_
  exact kk _ k _ _ _ _ _ L2
theorem lc_bent {g : gG} {d : Nat} {T : mT} {n : Nat} {I : mI} {J : mJ} {F : mF} {Q : mQ} {b x k i t N : Nat} {A : Ab} {xs : Nat → Int32} (hXs : va_X b N xs (gs g) (gs g).heap) (hbs : b < (gs g).heap.size) (hiN : i + 7 ≤ N) (hN : N ≤ 3584) (hLI : LI x A k T n I J F) (kk : ∀ (A' : Ab) (k' : Nat) (T' : mT) (n' : Nat) (I' : mI) (J' : mJ) (F' : mF), LI x A' k' T' n' I' J' F' → V g mL_law (d + 60) Q (3 * t) (420 * t + phi k') 1530 [some (.ref b), some (.ref x), some (.ref (x + 90)), some (.int (nI i))] [] T' n' I' J' F') : V g mL_law (d + 60) Q (3 * t + 3) (420 * t + 420 + phi k) 578 [some (.ref b), some (.ref x), some (.ref (x + 90)), some (.int (nI i))] [] T n I J F := by
  obtain ⟨hX, hR, hM, hRM, hA, hLK, hn⟩ := id hLI
  have hTx := hX.o
  refine V.aload_n (pc := 578) dL_law_578 rfl ?_
  refine V.invV0 (as := []) (pc := 579) dL_law_579 lL_66 bX11_bent nX11_bent (ci := 10) rfl eX11_bent (by assumption) (y_bent (d := d + 55)  hX hA hR) (by omega) rfl (Nat.le_of_ble_eq_true rfl) ?_
  rintro r1 T1 n1 I1 J1 F1 q1
  obtain ⟨rfl, L1⟩ := hLI.cls (q1.qs hLK)
  have hTm := L1.2.2.1.o
  refine V.aload_n (pc := 582) dL_law_582 rfl ?_
  refine V.invV0 (as := []) (pc := 583) dL_law_583 lL_69 bX12_bent nX12_bent (ci := 11) rfl eX12_bent (by assumption) (p_bent (d := d + 56)  L1.2.2.1 L1.2.2.2.2.1 L1.2.2.2.1) (by omega) rfl (Nat.le_of_ble_eq_true rfl) ?_
  rintro r2 T2 n2 I2 J2 F2 q2
  obtain ⟨rfl, L2⟩ := L1.ref hA q2
  refine V.icmp_eq 1530 (pc := 586) dL_law_586 (by decide) (fun h586 => ?_) (fun h586 => absurd rfl h586)
  refine V.room (bc := 3 * t) (bs := 420 * t + phi k) (by omega) (by omega) ?_
  exact kk _ k _ _ _ _ _ L2
theorem lc_law {g : gG} {d : Nat} {T : mT} {n : Nat} {I : mI} {J : mJ} {F : mF} {Q : mQ} {b x k i t N : Nat} {A : Ab} {xs : Nat → Int32} {aK aV : Nat → Nat} (hst : StrG g aK aV) (hXs : va_X b N xs (gs g) (gs g).heap) (hbs : b < (gs g).heap.size) (hiN : i + 7 ≤ N) (hN : N ≤ 3584) (hLI : LI x A k T n I J F) (kk : ∀ (A' : Ab) (k' : Nat) (T' : mT) (n' : Nat) (I' : mI) (J' : mJ) (F' : mF), LI x A' k' T' n' I' J' F' → V g mL_law (d + 60) Q (3 * t) (420 * t + phi k') 1530 [some (.ref b), some (.ref x), some (.ref (x + 90)), some (.int (nI i))] [] T' n' I' J' F') : V g mL_law (d + 60) Q (3 * t + 3) (420 * t + 420 + phi k) 591 [some (.ref b), some (.ref x), some (.ref (x + 90)), some (.int (nI i))] [] T n I J F := by
  obtain ⟨hX, hR, hM, hRM, hA, hLK, hn⟩ := id hLI
  have hTx := hX.o
  refine V.aload_n (pc := 591) dL_law_591 rfl ?_
  refine V.room (bc := 3 * t + 3) (bs := (420 * t + phi k) + 420) (by omega) (by omega) ?_
  refine V.invV (bc := 3 * t) (bs := 420 * t + phi k) (mc := 3) (ms := 420) (as := []) (pc := 592) dL_law_592 lL_70 bX11_law nX11_law (ci := 10) rfl eX11_law (by assumption) (y_law (d := d + 46) (by omega) hX hA hR hst hn) (by omega) rfl (Nat.le_of_ble_eq_true rfl) ?_
  rintro r1 T1 n1 I1 J1 F1 q1
  obtain ⟨rfl, L1⟩ := hLI.cls (q1.qs hLK)
  have hTm := L1.2.2.1.o
  refine V.aload_n (pc := 595) dL_law_595 rfl ?_
  refine V.invV0 (as := []) (pc := 596) dL_law_596 lL_73 bX12_law nX12_law (ci := 11) rfl eX12_law (by assumption) (p_law (d := d + 51)  L1.2.2.1 L1.2.2.2.2.1 L1.2.2.2.1) (by omega) rfl (Nat.le_of_ble_eq_true rfl) ?_
  rintro r2 T2 n2 I2 J2 F2 q2
  obtain ⟨rfl, L2⟩ := L1.ref (ab_law hA) q2
  refine V.icmp_eq 1530 (pc := 599) dL_law_599 (by decide) (fun h599 => ?_) (fun h599 => absurd rfl h599)
  refine V.room (bc := 3 * t) (bs := 420 * t + phi k) (by omega) (by omega) ?_
  exact kk _ k _ _ _ _ _ L2
theorem lc_fault {g : gG} {d : Nat} {T : mT} {n : Nat} {I : mI} {J : mJ} {F : mF} {Q : mQ} {b x k i t N : Nat} {A : Ab} {xs : Nat → Int32} (hXs : va_X b N xs (gs g) (gs g).heap) (hbs : b < (gs g).heap.size) (hiN : i + 7 ≤ N) (hN : N ≤ 3584) (hLI : LI x A k T n I J F) (kk : ∀ (A' : Ab) (k' : Nat) (T' : mT) (n' : Nat) (I' : mI) (J' : mJ) (F' : mF), LI x A' k' T' n' I' J' F' → V g mL_law (d + 60) Q (3 * t) (420 * t + phi k') 1530 [some (.ref b), some (.ref x), some (.ref (x + 90)), some (.int (nI i))] [] T' n' I' J' F') : V g mL_law (d + 60) Q (3 * t + 3) (420 * t + 420 + phi k) 604 [some (.ref b), some (.ref x), some (.ref (x + 90)), some (.int (nI i))] [] T n I J F := by
  obtain ⟨hX, hR, hM, hRM, hA, hLK, hn⟩ := id hLI
  have hTx := hX.o
  refine V.aload_n (pc := 604) dL_law_604 rfl ?_
  refine V.invV0 (as := []) (pc := 605) dL_law_605 lL_74 bX11_fault nX11_fault (ci := 10) rfl eX11_fault (by assumption) (y_fault (d := d + 55)  hX hA hR) (by omega) rfl (Nat.le_of_ble_eq_true rfl) ?_
  rintro r1 T1 n1 I1 J1 F1 q1
  obtain ⟨rfl, L1⟩ := hLI.cls (q1.qs hLK)
  have hTm := L1.2.2.1.o
  refine V.aload_n (pc := 608) dL_law_608 rfl ?_
  refine V.invV0 (as := []) (pc := 609) dL_law_609 lL_77 bX12_fault nX12_fault (ci := 11) rfl eX12_fault (by assumption) (p_fault (d := d + 56)  L1.2.2.1 L1.2.2.2.2.1 L1.2.2.2.1) (by omega) rfl (Nat.le_of_ble_eq_true rfl) ?_
  rintro r2 T2 n2 I2 J2 F2 q2
  obtain ⟨rfl, L2⟩ := L1.ref hA q2
  refine V.icmp_eq 1530 (pc := 612) dL_law_612 (by decide) (fun h612 => ?_) (fun h612 => absurd rfl h612)
  refine V.room (bc := 3 * t) (bs := 420 * t + phi k) (by omega) (by omega) ?_
  exact kk _ k _ _ _ _ _ L2
theorem lc_force {g : gG} {d : Nat} {T : mT} {n : Nat} {I : mI} {J : mJ} {F : mF} {Q : mQ} {b x k i t N : Nat} {A : Ab} {xs : Nat → Int32} (hXs : va_X b N xs (gs g) (gs g).heap) (hbs : b < (gs g).heap.size) (hiN : i + 7 ≤ N) (hN : N ≤ 3584) (hLI : LI x A k T n I J F) (kk : ∀ (A' : Ab) (k' : Nat) (T' : mT) (n' : Nat) (I' : mI) (J' : mJ) (F' : mF), LI x A' k' T' n' I' J' F' → V g mL_law (d + 60) Q (3 * t) (420 * t + phi k') 1530 [some (.ref b), some (.ref x), some (.ref (x + 90)), some (.int (nI i))] [] T' n' I' J' F') : V g mL_law (d + 60) Q (3 * t + 3) (420 * t + 420 + phi k) 617 [some (.ref b), some (.ref x), some (.ref (x + 90)), some (.int (nI i))] [] T n I J F := by
  obtain ⟨hX, hR, hM, hRM, hA, hLK, hn⟩ := id hLI
  have hTx := hX.o
  refine V.aload_n (pc := 617) dL_law_617 rfl ?_
  refine V.aload_n (pc := 618) dL_law_618 rfl ?_
  refine V.iload_n (pc := 619) dL_law_619 rfl ?_
  refine V.iconst (v := 1) (pc := 620) dL_law_620 (by decide) ?_
  refine V.iadd (pc := 621) dL_law_621 ?_
  refine V.sld (k := i + 1) hXs hbs (pc := 622) dL_law_622 (by rw [show (1 : Int32) = nI 1 from rfl, nI_add]) (by omega) (by omega) ?_
  refine V.invV0 (as := [_]) (pc := 623) dL_law_623 lL_78 bX11_force nX11_force (ci := 10) rfl eX11_force (by assumption) (y_force (d := d + 55) _ hX hA hR) (by omega) rfl (Nat.le_of_ble_eq_true rfl) ?_
  rintro r1 T1 n1 I1 J1 F1 q1
  obtain ⟨rfl, L1⟩ := hLI.cls (q1.qs hLK)
  have hTm := L1.2.2.1.o
  refine V.aload_n (pc := 626) dL_law_626 rfl ?_
  refine V.aload_n (pc := 627) dL_law_627 rfl ?_
  refine V.iload_n (pc := 628) dL_law_628 rfl ?_
  refine V.iconst (v := 1) (pc := 629) dL_law_629 (by decide) ?_
  refine V.iadd (pc := 630) dL_law_630 ?_
  refine V.sld (k := i + 1) hXs hbs (pc := 631) dL_law_631 (by rw [show (1 : Int32) = nI 1 from rfl, nI_add]) (by omega) (by omega) ?_
  refine V.invV0 (as := [_]) (pc := 632) dL_law_632 lL_81 bX12_force nX12_force (ci := 11) rfl eX12_force (by assumption) (p_force (d := d + 56) _ L1.2.2.1 L1.2.2.2.2.1 L1.2.2.2.1) (by omega) rfl (Nat.le_of_ble_eq_true rfl) ?_
  rintro r2 T2 n2 I2 J2 F2 q2
  obtain ⟨rfl, L2⟩ := L1.ref (ab_force hA) q2
  refine V.icmp_eq 1530 (pc := 635) dL_law_635 (by decide) (fun h635 => ?_) (fun h635 => absurd rfl h635)
  refine V.room (bc := 3 * t) (bs := 420 * t + phi k) (by omega) (by omega) ?_
  exact kk _ k _ _ _ _ _ L2
theorem lc_rate {g : gG} {d : Nat} {T : mT} {n : Nat} {I : mI} {J : mJ} {F : mF} {Q : mQ} {b x k i t N : Nat} {A : Ab} {xs : Nat → Int32} (hXs : va_X b N xs (gs g) (gs g).heap) (hbs : b < (gs g).heap.size) (hiN : i + 7 ≤ N) (hN : N ≤ 3584) (hLI : LI x A k T n I J F) (kk : ∀ (A' : Ab) (k' : Nat) (T' : mT) (n' : Nat) (I' : mI) (J' : mJ) (F' : mF), LI x A' k' T' n' I' J' F' → V g mL_law (d + 60) Q (3 * t) (420 * t + phi k') 1530 [some (.ref b), some (.ref x), some (.ref (x + 90)), some (.int (nI i))] [] T' n' I' J' F') : V g mL_law (d + 60) Q (3 * t + 3) (420 * t + 420 + phi k) 640 [some (.ref b), some (.ref x), some (.ref (x + 90)), some (.int (nI i))] [] T n I J F := by
  obtain ⟨hX, hR, hM, hRM, hA, hLK, hn⟩ := id hLI
  have hTx := hX.o
  refine V.aload_n (pc := 640) dL_law_640 rfl ?_
  refine V.aload_n (pc := 641) dL_law_641 rfl ?_
  refine V.iload_n (pc := 642) dL_law_642 rfl ?_
  refine V.iconst (v := 1) (pc := 643) dL_law_643 (by decide) ?_
  refine V.iadd (pc := 644) dL_law_644 ?_
  refine V.sld (k := i + 1) hXs hbs (pc := 645) dL_law_645 (by rw [show (1 : Int32) = nI 1 from rfl, nI_add]) (by omega) (by omega) ?_
  refine V.aload_n (pc := 646) dL_law_646 rfl ?_
  refine V.iload_n (pc := 647) dL_law_647 rfl ?_
  refine V.iconst (v := 2) (pc := 648) dL_law_648 (by decide) ?_
  refine V.iadd (pc := 649) dL_law_649 ?_
  refine V.sld (k := i + 2) hXs hbs (pc := 650) dL_law_650 (by rw [show (2 : Int32) = nI 2 from rfl, nI_add]) (by omega) (by omega) ?_
  refine V.invV0 (as := [_, _]) (pc := 651) dL_law_651 lL_82 bX11_rate nX11_rate (ci := 10) rfl eX11_rate (by assumption) (y_rate (d := d + 55) _ _ hX hA hR) (by omega) rfl (Nat.le_of_ble_eq_true rfl) ?_
  rintro r1 T1 n1 I1 J1 F1 q1
  obtain ⟨rfl, L1⟩ := hLI.cls (q1.qs hLK)
  have hTm := L1.2.2.1.o
  refine V.aload_n (pc := 654) dL_law_654 rfl ?_
  refine V.aload_n (pc := 655) dL_law_655 rfl ?_
  refine V.iload_n (pc := 656) dL_law_656 rfl ?_
  refine V.iconst (v := 1) (pc := 657) dL_law_657 (by decide) ?_
  refine V.iadd (pc := 658) dL_law_658 ?_
  refine V.sld (k := i + 1) hXs hbs (pc := 659) dL_law_659 (by rw [show (1 : Int32) = nI 1 from rfl, nI_add]) (by omega) (by omega) ?_
  refine V.aload_n (pc := 660) dL_law_660 rfl ?_
  refine V.iload_n (pc := 661) dL_law_661 rfl ?_
  refine V.iconst (v := 2) (pc := 662) dL_law_662 (by decide) ?_
  refine V.iadd (pc := 663) dL_law_663 ?_
  refine V.sld (k := i + 2) hXs hbs (pc := 664) dL_law_664 (by rw [show (2 : Int32) = nI 2 from rfl, nI_add]) (by omega) (by omega) ?_
  refine V.invV0 (as := [_, _]) (pc := 665) dL_law_665 lL_86 bX12_rate nX12_rate (ci := 11) rfl eX12_rate (by assumption) (p_rate (d := d + 55) _ _ L1.2.2.1 L1.2.2.2.2.1 L1.2.2.2.1) (by omega) rfl (Nat.le_of_ble_eq_true rfl) ?_
  rintro r2 T2 n2 I2 J2 F2 q2
  obtain ⟨rfl, L2⟩ := L1.ref hA q2
  refine V.lcmp_eq 1530 (pc := 668) dL_law_668 dL_law_669 (by decide) (fun h668 => ?_) (fun h668 => absurd rfl h668)
  refine V.room (bc := 3 * t) (bs := 420 * t + phi k) (by omega) (by omega) ?_
  exact kk _ k _ _ _ _ _ L2
theorem lc_shows {g : gG} {d : Nat} {T : mT} {n : Nat} {I : mI} {J : mJ} {F : mF} {Q : mQ} {b x k i t N : Nat} {A : Ab} {xs : Nat → Int32} (hXs : va_X b N xs (gs g) (gs g).heap) (hbs : b < (gs g).heap.size) (hiN : i + 7 ≤ N) (hN : N ≤ 3584) (hLI : LI x A k T n I J F) (kk : ∀ (A' : Ab) (k' : Nat) (T' : mT) (n' : Nat) (I' : mI) (J' : mJ) (F' : mF), LI x A' k' T' n' I' J' F' → V g mL_law (d + 60) Q (3 * t) (420 * t + phi k') 1530 [some (.ref b), some (.ref x), some (.ref (x + 90)), some (.int (nI i))] [] T' n' I' J' F') : V g mL_law (d + 60) Q (3 * t + 3) (420 * t + 420 + phi k) 674 [some (.ref b), some (.ref x), some (.ref (x + 90)), some (.int (nI i))] [] T n I J F := by
  obtain ⟨hX, hR, hM, hRM, hA, hLK, hn⟩ := id hLI
  have hTx := hX.o
  refine V.aload_n (pc := 674) dL_law_674 rfl ?_
  refine V.aload_n (pc := 675) dL_law_675 rfl ?_
  refine V.iload_n (pc := 676) dL_law_676 rfl ?_
  refine V.iconst (v := 1) (pc := 677) dL_law_677 (by decide) ?_
  refine V.iadd (pc := 678) dL_law_678 ?_
  refine V.sld (k := i + 1) hXs hbs (pc := 679) dL_law_679 (by rw [show (1 : Int32) = nI 1 from rfl, nI_add]) (by omega) (by omega) ?_
  refine V.aload_n (pc := 680) dL_law_680 rfl ?_
  refine V.iload_n (pc := 681) dL_law_681 rfl ?_
  refine V.iconst (v := 2) (pc := 682) dL_law_682 (by decide) ?_
  refine V.iadd (pc := 683) dL_law_683 ?_
  refine V.sld (k := i + 2) hXs hbs (pc := 684) dL_law_684 (by rw [show (2 : Int32) = nI 2 from rfl, nI_add]) (by omega) (by omega) ?_
  refine V.aload_n (pc := 685) dL_law_685 rfl ?_
  refine V.iload_n (pc := 686) dL_law_686 rfl ?_
  refine V.iconst (v := 3) (pc := 687) dL_law_687 (by decide) ?_
  refine V.iadd (pc := 688) dL_law_688 ?_
  refine V.sld (k := i + 3) hXs hbs (pc := 689) dL_law_689 (by rw [show (3 : Int32) = nI 3 from rfl, nI_add]) (by omega) (by omega) ?_
  refine V.invV0 (as := [_, _, _]) (pc := 690) dL_law_690 lL_87 bX11_shows nX11_shows (ci := 10) rfl eX11_shows (by assumption) (y_shows (d := d + 52) _ _ _ hX hA hR) (by omega) rfl (Nat.le_of_ble_eq_true rfl) ?_
  rintro r1 T1 n1 I1 J1 F1 q1
  obtain ⟨rfl, L1⟩ := hLI.cls (q1.qs hLK)
  have hTm := L1.2.2.1.o
  refine V.aload_n (pc := 693) dL_law_693 rfl ?_
  refine V.aload_n (pc := 694) dL_law_694 rfl ?_
  refine V.iload_n (pc := 695) dL_law_695 rfl ?_
  refine V.iconst (v := 1) (pc := 696) dL_law_696 (by decide) ?_
  refine V.iadd (pc := 697) dL_law_697 ?_
  refine V.sld (k := i + 1) hXs hbs (pc := 698) dL_law_698 (by rw [show (1 : Int32) = nI 1 from rfl, nI_add]) (by omega) (by omega) ?_
  refine V.aload_n (pc := 699) dL_law_699 rfl ?_
  refine V.iload_n (pc := 700) dL_law_700 rfl ?_
  refine V.iconst (v := 2) (pc := 701) dL_law_701 (by decide) ?_
  refine V.iadd (pc := 702) dL_law_702 ?_
  refine V.sld (k := i + 2) hXs hbs (pc := 703) dL_law_703 (by rw [show (2 : Int32) = nI 2 from rfl, nI_add]) (by omega) (by omega) ?_
  refine V.aload_n (pc := 704) dL_law_704 rfl ?_
  refine V.iload_n (pc := 705) dL_law_705 rfl ?_
  refine V.iconst (v := 3) (pc := 706) dL_law_706 (by decide) ?_
  refine V.iadd (pc := 707) dL_law_707 ?_
  refine V.sld (k := i + 3) hXs hbs (pc := 708) dL_law_708 (by rw [show (3 : Int32) = nI 3 from rfl, nI_add]) (by omega) (by omega) ?_
  refine V.invV0 (as := [_, _, _]) (pc := 709) dL_law_709 lL_90 bX12_shows nX12_shows (ci := 11) rfl eX12_shows (by assumption) (p_shows (d := d + 52) _ _ _ L1.2.2.1 L1.2.2.2.2.1 L1.2.2.2.1) (by omega) rfl (Nat.le_of_ble_eq_true rfl) ?_
  rintro r2 T2 n2 I2 J2 F2 q2
  obtain ⟨rfl, L2⟩ := L1.ref hA q2
  refine V.icmp_eq 1530 (pc := 712) dL_law_712 (by decide) (fun h712 => ?_) (fun h712 => absurd rfl h712)
  refine V.room (bc := 3 * t) (bs := 420 * t + phi k) (by omega) (by omega) ?_
  exact kk _ k _ _ _ _ _ L2
theorem lc_should {g : gG} {d : Nat} {T : mT} {n : Nat} {I : mI} {J : mJ} {F : mF} {Q : mQ} {b x k i t N : Nat} {A : Ab} {xs : Nat → Int32} (hXs : va_X b N xs (gs g) (gs g).heap) (hbs : b < (gs g).heap.size) (hiN : i + 7 ≤ N) (hN : N ≤ 3584) (hLI : LI x A k T n I J F) (kk : ∀ (A' : Ab) (k' : Nat) (T' : mT) (n' : Nat) (I' : mI) (J' : mJ) (F' : mF), LI x A' k' T' n' I' J' F' → V g mL_law (d + 60) Q (3 * t) (420 * t + phi k') 1530 [some (.ref b), some (.ref x), some (.ref (x + 90)), some (.int (nI i))] [] T' n' I' J' F') : V g mL_law (d + 60) Q (3 * t + 3) (420 * t + 420 + phi k) 717 [some (.ref b), some (.ref x), some (.ref (x + 90)), some (.int (nI i))] [] T n I J F := by
  obtain ⟨hX, hR, hM, hRM, hA, hLK, hn⟩ := id hLI
  have hTx := hX.o
  refine V.aload_n (pc := 717) dL_law_717 rfl ?_
  refine V.aload_n (pc := 718) dL_law_718 rfl ?_
  refine V.iload_n (pc := 719) dL_law_719 rfl ?_
  refine V.iconst (v := 1) (pc := 720) dL_law_720 (by decide) ?_
  refine V.iadd (pc := 721) dL_law_721 ?_
  refine V.sld (k := i + 1) hXs hbs (pc := 722) dL_law_722 (by rw [show (1 : Int32) = nI 1 from rfl, nI_add]) (by omega) (by omega) ?_
  refine V.aload_n (pc := 723) dL_law_723 rfl ?_
  refine V.iload_n (pc := 724) dL_law_724 rfl ?_
  refine V.iconst (v := 2) (pc := 725) dL_law_725 (by decide) ?_
  refine V.iadd (pc := 726) dL_law_726 ?_
  refine V.sld (k := i + 2) hXs hbs (pc := 727) dL_law_727 (by rw [show (2 : Int32) = nI 2 from rfl, nI_add]) (by omega) (by omega) ?_
  refine V.invV0 (as := [_, _]) (pc := 728) dL_law_728 lL_91 bX11_should nX11_should (ci := 10) rfl eX11_should (by assumption) (y_should (d := d + 53) _ _ hX hA hR) (by omega) rfl (Nat.le_of_ble_eq_true rfl) ?_
  rintro r1 T1 n1 I1 J1 F1 q1
  obtain ⟨rfl, L1⟩ := hLI.cls (q1.qs hLK)
  have hTm := L1.2.2.1.o
  refine V.aload_n (pc := 731) dL_law_731 rfl ?_
  refine V.aload_n (pc := 732) dL_law_732 rfl ?_
  refine V.iload_n (pc := 733) dL_law_733 rfl ?_
  refine V.iconst (v := 1) (pc := 734) dL_law_734 (by decide) ?_
  refine V.iadd (pc := 735) dL_law_735 ?_
  refine V.sld (k := i + 1) hXs hbs (pc := 736) dL_law_736 (by rw [show (1 : Int32) = nI 1 from rfl, nI_add]) (by omega) (by omega) ?_
  refine V.aload_n (pc := 737) dL_law_737 rfl ?_
  refine V.iload_n (pc := 738) dL_law_738 rfl ?_
  refine V.iconst (v := 2) (pc := 739) dL_law_739 (by decide) ?_
  refine V.iadd (pc := 740) dL_law_740 ?_
  refine V.sld (k := i + 2) hXs hbs (pc := 741) dL_law_741 (by rw [show (2 : Int32) = nI 2 from rfl, nI_add]) (by omega) (by omega) ?_
  refine V.invV0 (as := [_, _]) (pc := 742) dL_law_742 lL_94 bX12_should nX12_should (ci := 11) rfl eX12_should (by assumption) (p_should (d := d + 52) _ _ L1.2.2.1 L1.2.2.2.2.1 L1.2.2.2.1) (by omega) rfl (Nat.le_of_ble_eq_true rfl) ?_
  rintro r2 T2 n2 I2 J2 F2 q2
  obtain ⟨rfl, L2⟩ := L1.ref hA q2
  refine V.icmp_eq 1530 (pc := 745) dL_law_745 (by decide) (fun h745 => ?_) (fun h745 => absurd rfl h745)
  refine V.room (bc := 3 * t) (bs := 420 * t + phi k) (by omega) (by omega) ?_
  exact kk _ k _ _ _ _ _ L2
theorem lc_wrong {g : gG} {d : Nat} {T : mT} {n : Nat} {I : mI} {J : mJ} {F : mF} {Q : mQ} {b x k i t N : Nat} {A : Ab} {xs : Nat → Int32} (hXs : va_X b N xs (gs g) (gs g).heap) (hbs : b < (gs g).heap.size) (hiN : i + 7 ≤ N) (hN : N ≤ 3584) (hLI : LI x A k T n I J F) (kk : ∀ (A' : Ab) (k' : Nat) (T' : mT) (n' : Nat) (I' : mI) (J' : mJ) (F' : mF), LI x A' k' T' n' I' J' F' → V g mL_law (d + 60) Q (3 * t) (420 * t + phi k') 1530 [some (.ref b), some (.ref x), some (.ref (x + 90)), some (.int (nI i))] [] T' n' I' J' F') : V g mL_law (d + 60) Q (3 * t + 3) (420 * t + 420 + phi k) 750 [some (.ref b), some (.ref x), some (.ref (x + 90)), some (.int (nI i))] [] T n I J F := by
  obtain ⟨hX, hR, hM, hRM, hA, hLK, hn⟩ := id hLI
  have hTx := hX.o
  refine V.aload_n (pc := 750) dL_law_750 rfl ?_
  refine V.aload_n (pc := 751) dL_law_751 rfl ?_
  refine V.iload_n (pc := 752) dL_law_752 rfl ?_
  refine V.iconst (v := 1) (pc := 753) dL_law_753 (by decide) ?_
  refine V.iadd (pc := 754) dL_law_754 ?_
  refine V.sld (k := i + 1) hXs hbs (pc := 755) dL_law_755 (by rw [show (1 : Int32) = nI 1 from rfl, nI_add]) (by omega) (by omega) ?_
  refine V.aload_n (pc := 756) dL_law_756 rfl ?_
  refine V.iload_n (pc := 757) dL_law_757 rfl ?_
  refine V.iconst (v := 2) (pc := 758) dL_law_758 (by decide) ?_
  refine V.iadd (pc := 759) dL_law_759 ?_
  refine V.sld (k := i + 2) hXs hbs (pc := 760) dL_law_760 (by rw [show (2 : Int32) = nI 2 from rfl, nI_add]) (by omega) (by omega) ?_
  refine V.aload_n (pc := 761) dL_law_761 rfl ?_
  refine V.iload_n (pc := 762) dL_law_762 rfl ?_
  refine V.iconst (v := 3) (pc := 763) dL_law_763 (by decide) ?_
  refine V.iadd (pc := 764) dL_law_764 ?_
  refine V.sld (k := i + 3) hXs hbs (pc := 765) dL_law_765 (by rw [show (3 : Int32) = nI 3 from rfl, nI_add]) (by omega) (by omega) ?_
  refine V.aload_n (pc := 766) dL_law_766 rfl ?_
  refine V.iload_n (pc := 767) dL_law_767 rfl ?_
  refine V.iconst (v := 4) (pc := 768) dL_law_768 (by decide) ?_
  refine V.iadd (pc := 769) dL_law_769 ?_
  refine V.sld (k := i + 4) hXs hbs (pc := 770) dL_law_770 (by rw [show (4 : Int32) = nI 4 from rfl, nI_add]) (by omega) (by omega) ?_
  refine V.invV0 (as := [_, _, _, _]) (pc := 771) dL_law_771 lL_95 bX11_wrong nX11_wrong (ci := 10) rfl eX11_wrong (by assumption) (y_wrong (d := d + 52) _ _ _ _ hX hA hR) (by omega) rfl (Nat.le_of_ble_eq_true rfl) ?_
  rintro r1 T1 n1 I1 J1 F1 q1
  obtain ⟨rfl, L1⟩ := hLI.cls (q1.qs hLK)
  have hTm := L1.2.2.1.o
  refine V.aload_n (pc := 774) dL_law_774 rfl ?_
  refine V.aload_n (pc := 775) dL_law_775 rfl ?_
  refine V.iload_n (pc := 776) dL_law_776 rfl ?_
  refine V.iconst (v := 1) (pc := 777) dL_law_777 (by decide) ?_
  refine V.iadd (pc := 778) dL_law_778 ?_
  refine V.sld (k := i + 1) hXs hbs (pc := 779) dL_law_779 (by rw [show (1 : Int32) = nI 1 from rfl, nI_add]) (by omega) (by omega) ?_
  refine V.aload_n (pc := 780) dL_law_780 rfl ?_
  refine V.iload_n (pc := 781) dL_law_781 rfl ?_
  refine V.iconst (v := 2) (pc := 782) dL_law_782 (by decide) ?_
  refine V.iadd (pc := 783) dL_law_783 ?_
  refine V.sld (k := i + 2) hXs hbs (pc := 784) dL_law_784 (by rw [show (2 : Int32) = nI 2 from rfl, nI_add]) (by omega) (by omega) ?_
  refine V.aload_n (pc := 785) dL_law_785 rfl ?_
  refine V.iload_n (pc := 786) dL_law_786 rfl ?_
  refine V.iconst (v := 3) (pc := 787) dL_law_787 (by decide) ?_
  refine V.iadd (pc := 788) dL_law_788 ?_
  refine V.sld (k := i + 3) hXs hbs (pc := 789) dL_law_789 (by rw [show (3 : Int32) = nI 3 from rfl, nI_add]) (by omega) (by omega) ?_
  refine V.aload_n (pc := 790) dL_law_790 rfl ?_
  refine V.iload_n (pc := 791) dL_law_791 rfl ?_
  refine V.iconst (v := 4) (pc := 792) dL_law_792 (by decide) ?_
  refine V.iadd (pc := 793) dL_law_793 ?_
  refine V.sld (k := i + 4) hXs hbs (pc := 794) dL_law_794 (by rw [show (4 : Int32) = nI 4 from rfl, nI_add]) (by omega) (by omega) ?_
  refine V.invV0 (as := [_, _, _, _]) (pc := 795) dL_law_795 lL_99 bX12_wrong nX12_wrong (ci := 11) rfl eX12_wrong (by assumption) (p_wrong (d := d + 52) _ _ _ _ L1.2.2.1 L1.2.2.2.2.1 L1.2.2.2.1) (by omega) rfl (Nat.le_of_ble_eq_true rfl) ?_
  rintro r2 T2 n2 I2 J2 F2 q2
  obtain ⟨rfl, L2⟩ := L1.ref hA q2
  refine V.icmp_eq 1530 (pc := 798) dL_law_798 (by decide) (fun h798 => ?_) (fun h798 => absurd rfl h798)
  refine V.room (bc := 3 * t) (bs := 420 * t + phi k) (by omega) (by omega) ?_
  exact kk _ k _ _ _ _ _ L2
theorem lc_off {g : gG} {d : Nat} {T : mT} {n : Nat} {I : mI} {J : mJ} {F : mF} {Q : mQ} {b x k i t N : Nat} {A : Ab} {xs : Nat → Int32} (hXs : va_X b N xs (gs g) (gs g).heap) (hbs : b < (gs g).heap.size) (hiN : i + 7 ≤ N) (hN : N ≤ 3584) (hLI : LI x A k T n I J F) (kk : ∀ (A' : Ab) (k' : Nat) (T' : mT) (n' : Nat) (I' : mI) (J' : mJ) (F' : mF), LI x A' k' T' n' I' J' F' → V g mL_law (d + 60) Q (3 * t) (420 * t + phi k') 1530 [some (.ref b), some (.ref x), some (.ref (x + 90)), some (.int (nI i))] [] T' n' I' J' F') : V g mL_law (d + 60) Q (3 * t + 3) (420 * t + 420 + phi k) 803 [some (.ref b), some (.ref x), some (.ref (x + 90)), some (.int (nI i))] [] T n I J F := by
  obtain ⟨hX, hR, hM, hRM, hA, hLK, hn⟩ := id hLI
  have hTx := hX.o
  refine V.aload_n (pc := 803) dL_law_803 rfl ?_
  refine V.aload_n (pc := 804) dL_law_804 rfl ?_
  refine V.iload_n (pc := 805) dL_law_805 rfl ?_
  refine V.iconst (v := 1) (pc := 806) dL_law_806 (by decide) ?_
  refine V.iadd (pc := 807) dL_law_807 ?_
  refine V.sld (k := i + 1) hXs hbs (pc := 808) dL_law_808 (by rw [show (1 : Int32) = nI 1 from rfl, nI_add]) (by omega) (by omega) ?_
  refine V.aload_n (pc := 809) dL_law_809 rfl ?_
  refine V.iload_n (pc := 810) dL_law_810 rfl ?_
  refine V.iconst (v := 2) (pc := 811) dL_law_811 (by decide) ?_
  refine V.iadd (pc := 812) dL_law_812 ?_
  refine V.sld (k := i + 2) hXs hbs (pc := 813) dL_law_813 (by rw [show (2 : Int32) = nI 2 from rfl, nI_add]) (by omega) (by omega) ?_
  refine V.aload_n (pc := 814) dL_law_814 rfl ?_
  refine V.iload_n (pc := 815) dL_law_815 rfl ?_
  refine V.iconst (v := 3) (pc := 816) dL_law_816 (by decide) ?_
  refine V.iadd (pc := 817) dL_law_817 ?_
  refine V.sld (k := i + 3) hXs hbs (pc := 818) dL_law_818 (by rw [show (3 : Int32) = nI 3 from rfl, nI_add]) (by omega) (by omega) ?_
  refine V.aload_n (pc := 819) dL_law_819 rfl ?_
  refine V.iload_n (pc := 820) dL_law_820 rfl ?_
  refine V.iconst (v := 4) (pc := 821) dL_law_821 (by decide) ?_
  refine V.iadd (pc := 822) dL_law_822 ?_
  refine V.sld (k := i + 4) hXs hbs (pc := 823) dL_law_823 (by rw [show (4 : Int32) = nI 4 from rfl, nI_add]) (by omega) (by omega) ?_
  refine V.invV0 (as := [_, _, _, _]) (pc := 824) dL_law_824 lL_100 bX11_off nX11_off (ci := 10) rfl eX11_off (by assumption) (y_off (d := d + 55) _ _ _ _ hX hA hR) (by omega) rfl (Nat.le_of_ble_eq_true rfl) ?_
  rintro r1 T1 n1 I1 J1 F1 q1
  obtain ⟨rfl, L1⟩ := hLI.cls (q1.qs hLK)
  have hTm := L1.2.2.1.o
  refine V.aload_n (pc := 827) dL_law_827 rfl ?_
  refine V.aload_n (pc := 828) dL_law_828 rfl ?_
  refine V.iload_n (pc := 829) dL_law_829 rfl ?_
  refine V.iconst (v := 1) (pc := 830) dL_law_830 (by decide) ?_
  refine V.iadd (pc := 831) dL_law_831 ?_
  refine V.sld (k := i + 1) hXs hbs (pc := 832) dL_law_832 (by rw [show (1 : Int32) = nI 1 from rfl, nI_add]) (by omega) (by omega) ?_
  refine V.aload_n (pc := 833) dL_law_833 rfl ?_
  refine V.iload_n (pc := 834) dL_law_834 rfl ?_
  refine V.iconst (v := 2) (pc := 835) dL_law_835 (by decide) ?_
  refine V.iadd (pc := 836) dL_law_836 ?_
  refine V.sld (k := i + 2) hXs hbs (pc := 837) dL_law_837 (by rw [show (2 : Int32) = nI 2 from rfl, nI_add]) (by omega) (by omega) ?_
  refine V.aload_n (pc := 838) dL_law_838 rfl ?_
  refine V.iload_n (pc := 839) dL_law_839 rfl ?_
  refine V.iconst (v := 3) (pc := 840) dL_law_840 (by decide) ?_
  refine V.iadd (pc := 841) dL_law_841 ?_
  refine V.sld (k := i + 3) hXs hbs (pc := 842) dL_law_842 (by rw [show (3 : Int32) = nI 3 from rfl, nI_add]) (by omega) (by omega) ?_
  refine V.aload_n (pc := 843) dL_law_843 rfl ?_
  refine V.iload_n (pc := 844) dL_law_844 rfl ?_
  refine V.iconst (v := 4) (pc := 845) dL_law_845 (by decide) ?_
  refine V.iadd (pc := 846) dL_law_846 ?_
  refine V.sld (k := i + 4) hXs hbs (pc := 847) dL_law_847 (by rw [show (4 : Int32) = nI 4 from rfl, nI_add]) (by omega) (by omega) ?_
  refine V.invV0 (as := [_, _, _, _]) (pc := 848) dL_law_848 lL_104 bX12_off nX12_off (ci := 11) rfl eX12_off (by assumption) (p_off (d := d + 55) _ _ _ _ L1.2.2.1 L1.2.2.2.2.1 L1.2.2.2.1) (by omega) rfl (Nat.le_of_ble_eq_true rfl) ?_
  rintro r2 T2 n2 I2 J2 F2 q2
  obtain ⟨rfl, L2⟩ := L1.ref hA q2
  refine V.lcmp_eq 1530 (pc := 851) dL_law_851 dL_law_852 (by decide) (fun h851 => ?_) (fun h851 => absurd rfl h851)
  refine V.room (bc := 3 * t) (bs := 420 * t + phi k) (by omega) (by omega) ?_
  exact kk _ k _ _ _ _ _ L2
theorem lc_nearest {g : gG} {d : Nat} {T : mT} {n : Nat} {I : mI} {J : mJ} {F : mF} {Q : mQ} {b x k i t N : Nat} {A : Ab} {xs : Nat → Int32} (hXs : va_X b N xs (gs g) (gs g).heap) (hbs : b < (gs g).heap.size) (hiN : i + 7 ≤ N) (hN : N ≤ 3584) (hLI : LI x A k T n I J F) (kk : ∀ (A' : Ab) (k' : Nat) (T' : mT) (n' : Nat) (I' : mI) (J' : mJ) (F' : mF), LI x A' k' T' n' I' J' F' → V g mL_law (d + 60) Q (3 * t) (420 * t + phi k') 1530 [some (.ref b), some (.ref x), some (.ref (x + 90)), some (.int (nI i))] [] T' n' I' J' F') : V g mL_law (d + 60) Q (3 * t + 3) (420 * t + 420 + phi k) 857 [some (.ref b), some (.ref x), some (.ref (x + 90)), some (.int (nI i))] [] T n I J F := by
  obtain ⟨hX, hR, hM, hRM, hA, hLK, hn⟩ := id hLI
  have hTx := hX.o
  refine V.aload_n (pc := 857) dL_law_857 rfl ?_
  refine V.aload_n (pc := 858) dL_law_858 rfl ?_
  refine V.iload_n (pc := 859) dL_law_859 rfl ?_
  refine V.iconst (v := 1) (pc := 860) dL_law_860 (by decide) ?_
  refine V.iadd (pc := 861) dL_law_861 ?_
  refine V.sld (k := i + 1) hXs hbs (pc := 862) dL_law_862 (by rw [show (1 : Int32) = nI 1 from rfl, nI_add]) (by omega) (by omega) ?_
  refine V.aload_n (pc := 863) dL_law_863 rfl ?_
  refine V.iload_n (pc := 864) dL_law_864 rfl ?_
  refine V.iconst (v := 2) (pc := 865) dL_law_865 (by decide) ?_
  refine V.iadd (pc := 866) dL_law_866 ?_
  refine V.sld (k := i + 2) hXs hbs (pc := 867) dL_law_867 (by rw [show (2 : Int32) = nI 2 from rfl, nI_add]) (by omega) (by omega) ?_
  refine V.aload_n (pc := 868) dL_law_868 rfl ?_
  refine V.iload_n (pc := 869) dL_law_869 rfl ?_
  refine V.iconst (v := 3) (pc := 870) dL_law_870 (by decide) ?_
  refine V.iadd (pc := 871) dL_law_871 ?_
  refine V.sld (k := i + 3) hXs hbs (pc := 872) dL_law_872 (by rw [show (3 : Int32) = nI 3 from rfl, nI_add]) (by omega) (by omega) ?_
  refine V.invV0 (as := [_, _, _]) (pc := 873) dL_law_873 lL_105 bX11_nearest nX11_nearest (ci := 10) rfl eX11_nearest (by assumption) (y_nearest (d := d + 53) _ _ _ hX hA hR) (by omega) rfl (Nat.le_of_ble_eq_true rfl) ?_
  rintro r1 T1 n1 I1 J1 F1 q1
  obtain ⟨rfl, L1⟩ := hLI.cls (q1.qs hLK)
  have hTm := L1.2.2.1.o
  refine V.aload_n (pc := 876) dL_law_876 rfl ?_
  refine V.aload_n (pc := 877) dL_law_877 rfl ?_
  refine V.iload_n (pc := 878) dL_law_878 rfl ?_
  refine V.iconst (v := 1) (pc := 879) dL_law_879 (by decide) ?_
  refine V.iadd (pc := 880) dL_law_880 ?_
  refine V.sld (k := i + 1) hXs hbs (pc := 881) dL_law_881 (by rw [show (1 : Int32) = nI 1 from rfl, nI_add]) (by omega) (by omega) ?_
  refine V.aload_n (pc := 882) dL_law_882 rfl ?_
  refine V.iload_n (pc := 883) dL_law_883 rfl ?_
  refine V.iconst (v := 2) (pc := 884) dL_law_884 (by decide) ?_
  refine V.iadd (pc := 885) dL_law_885 ?_
  refine V.sld (k := i + 2) hXs hbs (pc := 886) dL_law_886 (by rw [show (2 : Int32) = nI 2 from rfl, nI_add]) (by omega) (by omega) ?_
  refine V.aload_n (pc := 887) dL_law_887 rfl ?_
  refine V.iload_n (pc := 888) dL_law_888 rfl ?_
  refine V.iconst (v := 3) (pc := 889) dL_law_889 (by decide) ?_
  refine V.iadd (pc := 890) dL_law_890 ?_
  refine V.sld (k := i + 3) hXs hbs (pc := 891) dL_law_891 (by rw [show (3 : Int32) = nI 3 from rfl, nI_add]) (by omega) (by omega) ?_
  refine V.invV0 (as := [_, _, _]) (pc := 892) dL_law_892 lL_108 bX12_nearest nX12_nearest (ci := 11) rfl eX12_nearest (by assumption) (p_nearest (d := d + 55) _ _ _ L1.2.2.1 L1.2.2.2.2.1 L1.2.2.2.1) (by omega) rfl (Nat.le_of_ble_eq_true rfl) ?_
  rintro r2 T2 n2 I2 J2 F2 q2
  obtain ⟨rfl, L2⟩ := L1.ref hA q2
  refine V.icmp_eq 1530 (pc := 895) dL_law_895 (by decide) (fun h895 => ?_) (fun h895 => absurd rfl h895)
  refine V.room (bc := 3 * t) (bs := 420 * t + phi k) (by omega) (by omega) ?_
  exact kk _ k _ _ _ _ _ L2
