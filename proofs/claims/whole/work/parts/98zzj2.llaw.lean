theorem lc_near {g : gG} {d : Nat} {T : mT} {n : Nat} {I : mI} {J : mJ} {F : mF} {Q : mQ} {b x k i t N : Nat} {A : Ab} {xs : Nat → Int32} (hXs : va_X b N xs (gs g) (gs g).heap) (hbs : b < (gs g).heap.size) (hiN : i + 7 ≤ N) (hN : N ≤ 3584) (hLI : LI x A k T n I J F) (kk : ∀ (A' : Ab) (k' : Nat) (T' : mT) (n' : Nat) (I' : mI) (J' : mJ) (F' : mF), LI x A' k' T' n' I' J' F' → V g mL_law (d + 60) Q (3 * t) (420 * t + phi k') 1530 [some (.ref b), some (.ref x), some (.ref (x + 90)), some (.int (nI i))] [] T' n' I' J' F') : V g mL_law (d + 60) Q (3 * t + 3) (420 * t + 420 + phi k) 900 [some (.ref b), some (.ref x), some (.ref (x + 90)), some (.int (nI i))] [] T n I J F := by
  obtain ⟨hX, hR, hM, hRM, hA, hLK, hn⟩ := id hLI
  have hTx := hX.o
  refine V.aload_n (pc := 900) dL_law_900 rfl ?_
  refine V.aload_n (pc := 901) dL_law_901 rfl ?_
  refine V.iload_n (pc := 902) dL_law_902 rfl ?_
  refine V.iconst (v := 1) (pc := 903) dL_law_903 (by decide) ?_
  refine V.iadd (pc := 904) dL_law_904 ?_
  refine V.sld (k := i + 1) hXs hbs (pc := 905) dL_law_905 (by rw [show (1 : Int32) = nI 1 from rfl, nI_add]) (by omega) (by omega) ?_
  refine V.aload_n (pc := 906) dL_law_906 rfl ?_
  refine V.iload_n (pc := 907) dL_law_907 rfl ?_
  refine V.iconst (v := 2) (pc := 908) dL_law_908 (by decide) ?_
  refine V.iadd (pc := 909) dL_law_909 ?_
  refine V.sld (k := i + 2) hXs hbs (pc := 910) dL_law_910 (by rw [show (2 : Int32) = nI 2 from rfl, nI_add]) (by omega) (by omega) ?_
  refine V.aload_n (pc := 911) dL_law_911 rfl ?_
  refine V.iload_n (pc := 912) dL_law_912 rfl ?_
  refine V.iconst (v := 3) (pc := 913) dL_law_913 (by decide) ?_
  refine V.iadd (pc := 914) dL_law_914 ?_
  refine V.sld (k := i + 3) hXs hbs (pc := 915) dL_law_915 (by rw [show (3 : Int32) = nI 3 from rfl, nI_add]) (by omega) (by omega) ?_
  refine V.invV0 (as := [_, _, _]) (pc := 916) dL_law_916 lL_109 bX11_near nX11_near (ci := 10) rfl eX11_near (by assumption) (y_near (d := d + 53) _ _ _ hX hA hR) (by omega) rfl (Nat.le_of_ble_eq_true rfl) ?_
  rintro r1 T1 n1 I1 J1 F1 q1
  obtain ⟨rfl, L1⟩ := hLI.cls (q1.qs hLK)
  have hTm := L1.2.2.1.o
  refine V.aload_n (pc := 919) dL_law_919 rfl ?_
  refine V.aload_n (pc := 920) dL_law_920 rfl ?_
  refine V.iload_n (pc := 921) dL_law_921 rfl ?_
  refine V.iconst (v := 1) (pc := 922) dL_law_922 (by decide) ?_
  refine V.iadd (pc := 923) dL_law_923 ?_
  refine V.sld (k := i + 1) hXs hbs (pc := 924) dL_law_924 (by rw [show (1 : Int32) = nI 1 from rfl, nI_add]) (by omega) (by omega) ?_
  refine V.aload_n (pc := 925) dL_law_925 rfl ?_
  refine V.iload_n (pc := 926) dL_law_926 rfl ?_
  refine V.iconst (v := 2) (pc := 927) dL_law_927 (by decide) ?_
  refine V.iadd (pc := 928) dL_law_928 ?_
  refine V.sld (k := i + 2) hXs hbs (pc := 929) dL_law_929 (by rw [show (2 : Int32) = nI 2 from rfl, nI_add]) (by omega) (by omega) ?_
  refine V.aload_n (pc := 930) dL_law_930 rfl ?_
  refine V.iload_n (pc := 931) dL_law_931 rfl ?_
  refine V.iconst (v := 3) (pc := 932) dL_law_932 (by decide) ?_
  refine V.iadd (pc := 933) dL_law_933 ?_
  refine V.sld (k := i + 3) hXs hbs (pc := 934) dL_law_934 (by rw [show (3 : Int32) = nI 3 from rfl, nI_add]) (by omega) (by omega) ?_
  refine V.invV0 (as := [_, _, _]) (pc := 935) dL_law_935 lL_113 bX12_near nX12_near (ci := 11) rfl eX12_near (by assumption) (p_near (d := d + 55) _ _ _ L1.2.2.1 L1.2.2.2.2.1 L1.2.2.2.1) (by omega) rfl (Nat.le_of_ble_eq_true rfl) ?_
  rintro r2 T2 n2 I2 J2 F2 q2
  obtain ⟨rfl, L2⟩ := L1.ref hA q2
  refine V.lcmp_eq 1530 (pc := 938) dL_law_938 dL_law_939 (by decide) (fun h938 => ?_) (fun h938 => absurd rfl h938)
  refine V.room (bc := 3 * t) (bs := 420 * t + phi k) (by omega) (by omega) ?_
  exact kk _ k _ _ _ _ _ L2
theorem lc_mount {g : gG} {d : Nat} {T : mT} {n : Nat} {I : mI} {J : mJ} {F : mF} {Q : mQ} {b x k i t N : Nat} {A : Ab} {xs : Nat → Int32} (hXs : va_X b N xs (gs g) (gs g).heap) (hbs : b < (gs g).heap.size) (hiN : i + 7 ≤ N) (hN : N ≤ 3584) (hLI : LI x A k T n I J F) (kk : ∀ (A' : Ab) (k' : Nat) (T' : mT) (n' : Nat) (I' : mI) (J' : mJ) (F' : mF), LI x A' k' T' n' I' J' F' → V g mL_law (d + 60) Q (3 * t) (420 * t + phi k') 1530 [some (.ref b), some (.ref x), some (.ref (x + 90)), some (.int (nI i))] [] T' n' I' J' F') : V g mL_law (d + 60) Q (3 * t + 3) (420 * t + 420 + phi k) 944 [some (.ref b), some (.ref x), some (.ref (x + 90)), some (.int (nI i))] [] T n I J F := by
  obtain ⟨hX, hR, hM, hRM, hA, hLK, hn⟩ := id hLI
  have hTx := hX.o
  refine V.aload_n (pc := 944) dL_law_944 rfl ?_
  refine V.aload_n (pc := 945) dL_law_945 rfl ?_
  refine V.iload_n (pc := 946) dL_law_946 rfl ?_
  refine V.iconst (v := 1) (pc := 947) dL_law_947 (by decide) ?_
  refine V.iadd (pc := 948) dL_law_948 ?_
  refine V.sld (k := i + 1) hXs hbs (pc := 949) dL_law_949 (by rw [show (1 : Int32) = nI 1 from rfl, nI_add]) (by omega) (by omega) ?_
  refine V.aload_n (pc := 950) dL_law_950 rfl ?_
  refine V.iload_n (pc := 951) dL_law_951 rfl ?_
  refine V.iconst (v := 2) (pc := 952) dL_law_952 (by decide) ?_
  refine V.iadd (pc := 953) dL_law_953 ?_
  refine V.sld (k := i + 2) hXs hbs (pc := 954) dL_law_954 (by rw [show (2 : Int32) = nI 2 from rfl, nI_add]) (by omega) (by omega) ?_
  refine V.aload_n (pc := 955) dL_law_955 rfl ?_
  refine V.iload_n (pc := 956) dL_law_956 rfl ?_
  refine V.iconst (v := 3) (pc := 957) dL_law_957 (by decide) ?_
  refine V.iadd (pc := 958) dL_law_958 ?_
  refine V.sld (k := i + 3) hXs hbs (pc := 959) dL_law_959 (by rw [show (3 : Int32) = nI 3 from rfl, nI_add]) (by omega) (by omega) ?_
  refine V.invV0 (as := [_, _, _]) (pc := 960) dL_law_960 lL_114 bX11_mount nX11_mount (ci := 10) rfl eX11_mount (by assumption) (y_mount (d := d + 53) _ _ _ hX hA hR) (by omega) rfl (Nat.le_of_ble_eq_true rfl) ?_
  rintro r1 T1 n1 I1 J1 F1 q1
  obtain ⟨rfl, L1⟩ := hLI.cls (q1.qs hLK)
  have hTm := L1.2.2.1.o
  refine V.aload_n (pc := 963) dL_law_963 rfl ?_
  refine V.aload_n (pc := 964) dL_law_964 rfl ?_
  refine V.iload_n (pc := 965) dL_law_965 rfl ?_
  refine V.iconst (v := 1) (pc := 966) dL_law_966 (by decide) ?_
  refine V.iadd (pc := 967) dL_law_967 ?_
  refine V.sld (k := i + 1) hXs hbs (pc := 968) dL_law_968 (by rw [show (1 : Int32) = nI 1 from rfl, nI_add]) (by omega) (by omega) ?_
  refine V.aload_n (pc := 969) dL_law_969 rfl ?_
  refine V.iload_n (pc := 970) dL_law_970 rfl ?_
  refine V.iconst (v := 2) (pc := 971) dL_law_971 (by decide) ?_
  refine V.iadd (pc := 972) dL_law_972 ?_
  refine V.sld (k := i + 2) hXs hbs (pc := 973) dL_law_973 (by rw [show (2 : Int32) = nI 2 from rfl, nI_add]) (by omega) (by omega) ?_
  refine V.aload_n (pc := 974) dL_law_974 rfl ?_
  refine V.iload_n (pc := 975) dL_law_975 rfl ?_
  refine V.iconst (v := 3) (pc := 976) dL_law_976 (by decide) ?_
  refine V.iadd (pc := 977) dL_law_977 ?_
  refine V.sld (k := i + 3) hXs hbs (pc := 978) dL_law_978 (by rw [show (3 : Int32) = nI 3 from rfl, nI_add]) (by omega) (by omega) ?_
  refine V.invV0 (as := [_, _, _]) (pc := 979) dL_law_979 lL_117 bX12_mount nX12_mount (ci := 11) rfl eX12_mount (by assumption) (p_mount (d := d + 55) _ _ _ L1.2.2.1 L1.2.2.2.2.1 L1.2.2.2.1) (by omega) rfl (Nat.le_of_ble_eq_true rfl) ?_
  rintro r2 T2 n2 I2 J2 F2 q2
  obtain ⟨rfl, L2⟩ := L1.ref (ab_mount hA) q2
  refine V.icmp_eq 1530 (pc := 982) dL_law_982 (by decide) (fun h982 => ?_) (fun h982 => absurd rfl h982)
  refine V.room (bc := 3 * t) (bs := 420 * t + phi k) (by omega) (by omega) ?_
  exact kk _ k _ _ _ _ _ L2
theorem lc_cam {g : gG} {d : Nat} {T : mT} {n : Nat} {I : mI} {J : mJ} {F : mF} {Q : mQ} {b x k i t N : Nat} {A : Ab} {xs : Nat → Int32} (hXs : va_X b N xs (gs g) (gs g).heap) (hbs : b < (gs g).heap.size) (hiN : i + 7 ≤ N) (hN : N ≤ 3584) (hLI : LI x A k T n I J F) (kk : ∀ (A' : Ab) (k' : Nat) (T' : mT) (n' : Nat) (I' : mI) (J' : mJ) (F' : mF), LI x A' k' T' n' I' J' F' → V g mL_law (d + 60) Q (3 * t) (420 * t + phi k') 1530 [some (.ref b), some (.ref x), some (.ref (x + 90)), some (.int (nI i))] [] T' n' I' J' F') : V g mL_law (d + 60) Q (3 * t + 3) (420 * t + 420 + phi k) 987 [some (.ref b), some (.ref x), some (.ref (x + 90)), some (.int (nI i))] [] T n I J F := by
  obtain ⟨hX, hR, hM, hRM, hA, hLK, hn⟩ := id hLI
  have hTx := hX.o
  refine V.aload_n (pc := 987) dL_law_987 rfl ?_
  refine V.aload_n (pc := 988) dL_law_988 rfl ?_
  refine V.iload_n (pc := 989) dL_law_989 rfl ?_
  refine V.iconst (v := 1) (pc := 990) dL_law_990 (by decide) ?_
  refine V.iadd (pc := 991) dL_law_991 ?_
  refine V.sld (k := i + 1) hXs hbs (pc := 992) dL_law_992 (by rw [show (1 : Int32) = nI 1 from rfl, nI_add]) (by omega) (by omega) ?_
  refine V.aload_n (pc := 993) dL_law_993 rfl ?_
  refine V.iload_n (pc := 994) dL_law_994 rfl ?_
  refine V.iconst (v := 2) (pc := 995) dL_law_995 (by decide) ?_
  refine V.iadd (pc := 996) dL_law_996 ?_
  refine V.sld (k := i + 2) hXs hbs (pc := 997) dL_law_997 (by rw [show (2 : Int32) = nI 2 from rfl, nI_add]) (by omega) (by omega) ?_
  refine V.invV0 (as := [_, _]) (pc := 998) dL_law_998 lL_118 bX11_cam nX11_cam (ci := 10) rfl eX11_cam (by assumption) (y_cam (d := d + 52) _ _ hX hA hR) (by omega) rfl (Nat.le_of_ble_eq_true rfl) ?_
  rintro r1 T1 n1 I1 J1 F1 q1
  obtain ⟨rfl, L1⟩ := hLI.cls (q1.qs hLK)
  have hTm := L1.2.2.1.o
  refine V.aload_n (pc := 1001) dL_law_1001 rfl ?_
  refine V.aload_n (pc := 1002) dL_law_1002 rfl ?_
  refine V.iload_n (pc := 1003) dL_law_1003 rfl ?_
  refine V.iconst (v := 1) (pc := 1004) dL_law_1004 (by decide) ?_
  refine V.iadd (pc := 1005) dL_law_1005 ?_
  refine V.sld (k := i + 1) hXs hbs (pc := 1006) dL_law_1006 (by rw [show (1 : Int32) = nI 1 from rfl, nI_add]) (by omega) (by omega) ?_
  refine V.aload_n (pc := 1007) dL_law_1007 rfl ?_
  refine V.iload_n (pc := 1008) dL_law_1008 rfl ?_
  refine V.iconst (v := 2) (pc := 1009) dL_law_1009 (by decide) ?_
  refine V.iadd (pc := 1010) dL_law_1010 ?_
  refine V.sld (k := i + 2) hXs hbs (pc := 1011) dL_law_1011 (by rw [show (2 : Int32) = nI 2 from rfl, nI_add]) (by omega) (by omega) ?_
  refine V.invV0 (as := [_, _]) (pc := 1012) dL_law_1012 lL_121 bX12_cam nX12_cam (ci := 11) rfl eX12_cam (by assumption) (p_cam (d := d + 52) _ _ L1.2.2.1 L1.2.2.2.2.1 L1.2.2.2.1) (by omega) rfl (Nat.le_of_ble_eq_true rfl) ?_
  rintro r2 T2 n2 I2 J2 F2 q2
  obtain ⟨rfl, L2⟩ := L1.ref hA q2
  refine V.icmp_eq 1530 (pc := 1015) dL_law_1015 (by decide) (fun h1015 => ?_) (fun h1015 => absurd rfl h1015)
  refine V.room (bc := 3 * t) (bs := 420 * t + phi k) (by omega) (by omega) ?_
  exact kk _ k _ _ _ _ _ L2
theorem lc_sight {g : gG} {d : Nat} {T : mT} {n : Nat} {I : mI} {J : mJ} {F : mF} {Q : mQ} {b x k i t N : Nat} {A : Ab} {xs : Nat → Int32} (hXs : va_X b N xs (gs g) (gs g).heap) (hbs : b < (gs g).heap.size) (hiN : i + 7 ≤ N) (hN : N ≤ 3584) (hLI : LI x A k T n I J F) (kk : ∀ (A' : Ab) (k' : Nat) (T' : mT) (n' : Nat) (I' : mI) (J' : mJ) (F' : mF), LI x A' k' T' n' I' J' F' → V g mL_law (d + 60) Q (3 * t) (420 * t + phi k') 1530 [some (.ref b), some (.ref x), some (.ref (x + 90)), some (.int (nI i))] [] T' n' I' J' F') : V g mL_law (d + 60) Q (3 * t + 3) (420 * t + 420 + phi k) 1020 [some (.ref b), some (.ref x), some (.ref (x + 90)), some (.int (nI i))] [] T n I J F := by
  obtain ⟨hX, hR, hM, hRM, hA, hLK, hn⟩ := id hLI
  have hTx := hX.o
  refine V.aload_n (pc := 1020) dL_law_1020 rfl ?_
  refine V.aload_n (pc := 1021) dL_law_1021 rfl ?_
  refine V.iload_n (pc := 1022) dL_law_1022 rfl ?_
  refine V.iconst (v := 1) (pc := 1023) dL_law_1023 (by decide) ?_
  refine V.iadd (pc := 1024) dL_law_1024 ?_
  refine V.sld (k := i + 1) hXs hbs (pc := 1025) dL_law_1025 (by rw [show (1 : Int32) = nI 1 from rfl, nI_add]) (by omega) (by omega) ?_
  refine V.aload_n (pc := 1026) dL_law_1026 rfl ?_
  refine V.iload_n (pc := 1027) dL_law_1027 rfl ?_
  refine V.iconst (v := 2) (pc := 1028) dL_law_1028 (by decide) ?_
  refine V.iadd (pc := 1029) dL_law_1029 ?_
  refine V.sld (k := i + 2) hXs hbs (pc := 1030) dL_law_1030 (by rw [show (2 : Int32) = nI 2 from rfl, nI_add]) (by omega) (by omega) ?_
  refine V.aload_n (pc := 1031) dL_law_1031 rfl ?_
  refine V.iload_n (pc := 1032) dL_law_1032 rfl ?_
  refine V.iconst (v := 3) (pc := 1033) dL_law_1033 (by decide) ?_
  refine V.iadd (pc := 1034) dL_law_1034 ?_
  refine V.sld (k := i + 3) hXs hbs (pc := 1035) dL_law_1035 (by rw [show (3 : Int32) = nI 3 from rfl, nI_add]) (by omega) (by omega) ?_
  refine V.invV0 (as := [_, _, _]) (pc := 1036) dL_law_1036 lL_122 bX11_sight nX11_sight (ci := 10) rfl eX11_sight (by assumption) (y_sight (d := d + 55) _ _ _ hX hA hR) (by omega) rfl (Nat.le_of_ble_eq_true rfl) ?_
  rintro r1 T1 n1 I1 J1 F1 q1
  obtain ⟨rfl, L1⟩ := hLI.cls (q1.qs hLK)
  have hTm := L1.2.2.1.o
  refine V.aload_n (pc := 1039) dL_law_1039 rfl ?_
  refine V.aload_n (pc := 1040) dL_law_1040 rfl ?_
  refine V.iload_n (pc := 1041) dL_law_1041 rfl ?_
  refine V.iconst (v := 1) (pc := 1042) dL_law_1042 (by decide) ?_
  refine V.iadd (pc := 1043) dL_law_1043 ?_
  refine V.sld (k := i + 1) hXs hbs (pc := 1044) dL_law_1044 (by rw [show (1 : Int32) = nI 1 from rfl, nI_add]) (by omega) (by omega) ?_
  refine V.aload_n (pc := 1045) dL_law_1045 rfl ?_
  refine V.iload_n (pc := 1046) dL_law_1046 rfl ?_
  refine V.iconst (v := 2) (pc := 1047) dL_law_1047 (by decide) ?_
  refine V.iadd (pc := 1048) dL_law_1048 ?_
  refine V.sld (k := i + 2) hXs hbs (pc := 1049) dL_law_1049 (by rw [show (2 : Int32) = nI 2 from rfl, nI_add]) (by omega) (by omega) ?_
  refine V.aload_n (pc := 1050) dL_law_1050 rfl ?_
  refine V.iload_n (pc := 1051) dL_law_1051 rfl ?_
  refine V.iconst (v := 3) (pc := 1052) dL_law_1052 (by decide) ?_
  refine V.iadd (pc := 1053) dL_law_1053 ?_
  refine V.sld (k := i + 3) hXs hbs (pc := 1054) dL_law_1054 (by rw [show (3 : Int32) = nI 3 from rfl, nI_add]) (by omega) (by omega) ?_
  refine V.invV0 (as := [_, _, _]) (pc := 1055) dL_law_1055 lL_125 bX12_sight nX12_sight (ci := 11) rfl eX12_sight (by assumption) (p_sight (d := d + 56) _ _ _ L1.2.2.1 L1.2.2.2.2.1 L1.2.2.2.1) (by omega) rfl (Nat.le_of_ble_eq_true rfl) ?_
  rintro r2 T2 n2 I2 J2 F2 q2
  obtain ⟨rfl, L2⟩ := L1.ref (ab_sight hA) q2
  refine V.icmp_eq 1530 (pc := 1058) dL_law_1058 (by decide) (fun h1058 => ?_) (fun h1058 => absurd rfl h1058)
  refine V.room (bc := 3 * t) (bs := 420 * t + phi k) (by omega) (by omega) ?_
  exact kk _ k _ _ _ _ _ L2
theorem lc_forget {g : gG} {d : Nat} {T : mT} {n : Nat} {I : mI} {J : mJ} {F : mF} {Q : mQ} {b x k i t N : Nat} {A : Ab} {xs : Nat → Int32} (hXs : va_X b N xs (gs g) (gs g).heap) (hbs : b < (gs g).heap.size) (hiN : i + 7 ≤ N) (hN : N ≤ 3584) (hLI : LI x A k T n I J F) (kk : ∀ (A' : Ab) (k' : Nat) (T' : mT) (n' : Nat) (I' : mI) (J' : mJ) (F' : mF), LI x A' k' T' n' I' J' F' → V g mL_law (d + 60) Q (3 * t) (420 * t + phi k') 1530 [some (.ref b), some (.ref x), some (.ref (x + 90)), some (.int (nI i))] [] T' n' I' J' F') : V g mL_law (d + 60) Q (3 * t + 3) (420 * t + 420 + phi k) 1063 [some (.ref b), some (.ref x), some (.ref (x + 90)), some (.int (nI i))] [] T n I J F := by
  obtain ⟨hX, hR, hM, hRM, hA, hLK, hn⟩ := id hLI
  have hTx := hX.o
  refine V.aload_n (pc := 1063) dL_law_1063 rfl ?_
  refine V.invV0 (as := []) (pc := 1064) dL_law_1064 lL_126 bX11_forget nX11_forget (ci := 10) rfl eX11_forget (by assumption) (y_forget (d := d + 55)  hX hA hR) (by omega) rfl (Nat.le_of_ble_eq_true rfl) ?_
  rintro r1 T1 n1 I1 J1 F1 q1
  obtain ⟨rfl, L1⟩ := hLI.cls (q1.qs hLK)
  have hTm := L1.2.2.1.o
  refine V.aload_n (pc := 1067) dL_law_1067 rfl ?_
  refine V.invV0 (as := []) (pc := 1068) dL_law_1068 lL_129 bX12_forget nX12_forget (ci := 11) rfl eX12_forget (by assumption) (p_forget (d := d + 56)  L1.2.2.1 L1.2.2.2.2.1 L1.2.2.2.1) (by omega) rfl (Nat.le_of_ble_eq_true rfl) ?_
  rintro r2 T2 n2 I2 J2 F2 q2
  obtain ⟨rfl, L2⟩ := L1.ref (ab_forget hA) q2
  refine V.icmp_eq 1530 (pc := 1071) dL_law_1071 (by decide) (fun h1071 => ?_) (fun h1071 => absurd rfl h1071)
  refine V.room (bc := 3 * t) (bs := 420 * t + phi k) (by omega) (by omega) ?_
  exact kk _ k _ _ _ _ _ L2
theorem lc_inside {g : gG} {d : Nat} {T : mT} {n : Nat} {I : mI} {J : mJ} {F : mF} {Q : mQ} {b x k i t N : Nat} {A : Ab} {xs : Nat → Int32} (hXs : va_X b N xs (gs g) (gs g).heap) (hbs : b < (gs g).heap.size) (hiN : i + 7 ≤ N) (hN : N ≤ 3584) (hLI : LI x A k T n I J F) (kk : ∀ (A' : Ab) (k' : Nat) (T' : mT) (n' : Nat) (I' : mI) (J' : mJ) (F' : mF), LI x A' k' T' n' I' J' F' → V g mL_law (d + 60) Q (3 * t) (420 * t + phi k') 1530 [some (.ref b), some (.ref x), some (.ref (x + 90)), some (.int (nI i))] [] T' n' I' J' F') : V g mL_law (d + 60) Q (3 * t + 3) (420 * t + 420 + phi k) 1076 [some (.ref b), some (.ref x), some (.ref (x + 90)), some (.int (nI i))] [] T n I J F := by
  obtain ⟨hX, hR, hM, hRM, hA, hLK, hn⟩ := id hLI
  have hTx := hX.o
  refine V.aload_n (pc := 1076) dL_law_1076 rfl ?_
  refine V.aload_n (pc := 1077) dL_law_1077 rfl ?_
  refine V.iload_n (pc := 1078) dL_law_1078 rfl ?_
  refine V.iconst (v := 1) (pc := 1079) dL_law_1079 (by decide) ?_
  refine V.iadd (pc := 1080) dL_law_1080 ?_
  refine V.sld (k := i + 1) hXs hbs (pc := 1081) dL_law_1081 (by rw [show (1 : Int32) = nI 1 from rfl, nI_add]) (by omega) (by omega) ?_
  refine V.aload_n (pc := 1082) dL_law_1082 rfl ?_
  refine V.iload_n (pc := 1083) dL_law_1083 rfl ?_
  refine V.iconst (v := 2) (pc := 1084) dL_law_1084 (by decide) ?_
  refine V.iadd (pc := 1085) dL_law_1085 ?_
  refine V.sld (k := i + 2) hXs hbs (pc := 1086) dL_law_1086 (by rw [show (2 : Int32) = nI 2 from rfl, nI_add]) (by omega) (by omega) ?_
  refine V.invV0 (as := [_, _]) (pc := 1087) dL_law_1087 lL_130 bX11_inside nX11_inside (ci := 10) rfl eX11_inside (by assumption) (y_inside (d := d + 52) _ _ hX hA hR) (by omega) rfl (Nat.le_of_ble_eq_true rfl) ?_
  rintro r1 T1 n1 I1 J1 F1 q1
  obtain ⟨rfl, L1⟩ := hLI.cls (q1.qs hLK)
  have hTm := L1.2.2.1.o
  refine V.aload_n (pc := 1090) dL_law_1090 rfl ?_
  refine V.aload_n (pc := 1091) dL_law_1091 rfl ?_
  refine V.iload_n (pc := 1092) dL_law_1092 rfl ?_
  refine V.iconst (v := 1) (pc := 1093) dL_law_1093 (by decide) ?_
  refine V.iadd (pc := 1094) dL_law_1094 ?_
  refine V.sld (k := i + 1) hXs hbs (pc := 1095) dL_law_1095 (by rw [show (1 : Int32) = nI 1 from rfl, nI_add]) (by omega) (by omega) ?_
  refine V.aload_n (pc := 1096) dL_law_1096 rfl ?_
  refine V.iload_n (pc := 1097) dL_law_1097 rfl ?_
  refine V.iconst (v := 2) (pc := 1098) dL_law_1098 (by decide) ?_
  refine V.iadd (pc := 1099) dL_law_1099 ?_
  refine V.sld (k := i + 2) hXs hbs (pc := 1100) dL_law_1100 (by rw [show (2 : Int32) = nI 2 from rfl, nI_add]) (by omega) (by omega) ?_
  refine V.invV0 (as := [_, _]) (pc := 1101) dL_law_1101 lL_133 bX12_inside nX12_inside (ci := 11) rfl eX12_inside (by assumption) (p_inside (d := d + 57) _ _ L1.2.2.1 L1.2.2.2.2.1 L1.2.2.2.1) (by omega) rfl (Nat.le_of_ble_eq_true rfl) ?_
  rintro r2 T2 n2 I2 J2 F2 q2
  obtain ⟨rfl, L2⟩ := L1.ref hA q2
  refine V.icmp_eq 1530 (pc := 1104) dL_law_1104 (by decide) (fun h1104 => ?_) (fun h1104 => absurd rfl h1104)
  refine V.room (bc := 3 * t) (bs := 420 * t + phi k) (by omega) (by omega) ?_
  exact kk _ k _ _ _ _ _ L2
theorem lc_gone {g : gG} {d : Nat} {T : mT} {n : Nat} {I : mI} {J : mJ} {F : mF} {Q : mQ} {b x k i t N : Nat} {A : Ab} {xs : Nat → Int32} (hXs : va_X b N xs (gs g) (gs g).heap) (hbs : b < (gs g).heap.size) (hiN : i + 7 ≤ N) (hN : N ≤ 3584) (hLI : LI x A k T n I J F) (kk : ∀ (A' : Ab) (k' : Nat) (T' : mT) (n' : Nat) (I' : mI) (J' : mJ) (F' : mF), LI x A' k' T' n' I' J' F' → V g mL_law (d + 60) Q (3 * t) (420 * t + phi k') 1530 [some (.ref b), some (.ref x), some (.ref (x + 90)), some (.int (nI i))] [] T' n' I' J' F') : V g mL_law (d + 60) Q (3 * t + 3) (420 * t + 420 + phi k) 1109 [some (.ref b), some (.ref x), some (.ref (x + 90)), some (.int (nI i))] [] T n I J F := by
  obtain ⟨hX, hR, hM, hRM, hA, hLK, hn⟩ := id hLI
  have hTx := hX.o
  refine V.aload_n (pc := 1109) dL_law_1109 rfl ?_
  refine V.aload_n (pc := 1110) dL_law_1110 rfl ?_
  refine V.iload_n (pc := 1111) dL_law_1111 rfl ?_
  refine V.iconst (v := 1) (pc := 1112) dL_law_1112 (by decide) ?_
  refine V.iadd (pc := 1113) dL_law_1113 ?_
  refine V.sld (k := i + 1) hXs hbs (pc := 1114) dL_law_1114 (by rw [show (1 : Int32) = nI 1 from rfl, nI_add]) (by omega) (by omega) ?_
  refine V.aload_n (pc := 1115) dL_law_1115 rfl ?_
  refine V.iload_n (pc := 1116) dL_law_1116 rfl ?_
  refine V.iconst (v := 2) (pc := 1117) dL_law_1117 (by decide) ?_
  refine V.iadd (pc := 1118) dL_law_1118 ?_
  refine V.sld (k := i + 2) hXs hbs (pc := 1119) dL_law_1119 (by rw [show (2 : Int32) = nI 2 from rfl, nI_add]) (by omega) (by omega) ?_
  refine V.invV0 (as := [_, _]) (pc := 1120) dL_law_1120 lL_134 bX11_gone nX11_gone (ci := 10) rfl eX11_gone (by assumption) (y_gone (d := d + 55) _ _ hX hA hR) (by omega) rfl (Nat.le_of_ble_eq_true rfl) ?_
  rintro r1 T1 n1 I1 J1 F1 q1
  obtain ⟨rfl, L1⟩ := hLI.cls (q1.qs hLK)
  have hTm := L1.2.2.1.o
  refine V.aload_n (pc := 1123) dL_law_1123 rfl ?_
  refine V.aload_n (pc := 1124) dL_law_1124 rfl ?_
  refine V.iload_n (pc := 1125) dL_law_1125 rfl ?_
  refine V.iconst (v := 1) (pc := 1126) dL_law_1126 (by decide) ?_
  refine V.iadd (pc := 1127) dL_law_1127 ?_
  refine V.sld (k := i + 1) hXs hbs (pc := 1128) dL_law_1128 (by rw [show (1 : Int32) = nI 1 from rfl, nI_add]) (by omega) (by omega) ?_
  refine V.aload_n (pc := 1129) dL_law_1129 rfl ?_
  refine V.iload_n (pc := 1130) dL_law_1130 rfl ?_
  refine V.iconst (v := 2) (pc := 1131) dL_law_1131 (by decide) ?_
  refine V.iadd (pc := 1132) dL_law_1132 ?_
  refine V.sld (k := i + 2) hXs hbs (pc := 1133) dL_law_1133 (by rw [show (2 : Int32) = nI 2 from rfl, nI_add]) (by omega) (by omega) ?_
  refine V.invV0 (as := [_, _]) (pc := 1134) dL_law_1134 lL_137 bX12_gone nX12_gone (ci := 11) rfl eX12_gone (by assumption) (p_gone (d := d + 53) _ _ L1.2.2.1 L1.2.2.2.2.1 L1.2.2.2.1) (by omega) rfl (Nat.le_of_ble_eq_true rfl) ?_
  rintro r2 T2 n2 I2 J2 F2 q2
  obtain ⟨rfl, L2⟩ := L1.ref hA q2
  refine V.icmp_eq 1530 (pc := 1137) dL_law_1137 (by decide) (fun h1137 => ?_) (fun h1137 => absurd rfl h1137)
  refine V.room (bc := 3 * t) (bs := 420 * t + phi k) (by omega) (by omega) ?_
  exact kk _ k _ _ _ _ _ L2
theorem lc_together {g : gG} {d : Nat} {T : mT} {n : Nat} {I : mI} {J : mJ} {F : mF} {Q : mQ} {b x k i t N : Nat} {A : Ab} {xs : Nat → Int32} (hXs : va_X b N xs (gs g) (gs g).heap) (hbs : b < (gs g).heap.size) (hiN : i + 7 ≤ N) (hN : N ≤ 3584) (hLI : LI x A k T n I J F) (kk : ∀ (A' : Ab) (k' : Nat) (T' : mT) (n' : Nat) (I' : mI) (J' : mJ) (F' : mF), LI x A' k' T' n' I' J' F' → V g mL_law (d + 60) Q (3 * t) (420 * t + phi k') 1530 [some (.ref b), some (.ref x), some (.ref (x + 90)), some (.int (nI i))] [] T' n' I' J' F') : V g mL_law (d + 60) Q (3 * t + 3) (420 * t + 420 + phi k) 1142 [some (.ref b), some (.ref x), some (.ref (x + 90)), some (.int (nI i))] [] T n I J F := by
  obtain ⟨hX, hR, hM, hRM, hA, hLK, hn⟩ := id hLI
  have hTx := hX.o
  refine V.aload_n (pc := 1142) dL_law_1142 rfl ?_
  refine V.aload_n (pc := 1143) dL_law_1143 rfl ?_
  refine V.iload_n (pc := 1144) dL_law_1144 rfl ?_
  refine V.iconst (v := 1) (pc := 1145) dL_law_1145 (by decide) ?_
  refine V.iadd (pc := 1146) dL_law_1146 ?_
  refine V.sld (k := i + 1) hXs hbs (pc := 1147) dL_law_1147 (by rw [show (1 : Int32) = nI 1 from rfl, nI_add]) (by omega) (by omega) ?_
  refine V.aload_n (pc := 1148) dL_law_1148 rfl ?_
  refine V.iload_n (pc := 1149) dL_law_1149 rfl ?_
  refine V.iconst (v := 2) (pc := 1150) dL_law_1150 (by decide) ?_
  refine V.iadd (pc := 1151) dL_law_1151 ?_
  refine V.sld (k := i + 2) hXs hbs (pc := 1152) dL_law_1152 (by rw [show (2 : Int32) = nI 2 from rfl, nI_add]) (by omega) (by omega) ?_
  refine V.aload_n (pc := 1153) dL_law_1153 rfl ?_
  refine V.iload_n (pc := 1154) dL_law_1154 rfl ?_
  refine V.iconst (v := 3) (pc := 1155) dL_law_1155 (by decide) ?_
  refine V.iadd (pc := 1156) dL_law_1156 ?_
  refine V.sld (k := i + 3) hXs hbs (pc := 1157) dL_law_1157 (by rw [show (3 : Int32) = nI 3 from rfl, nI_add]) (by omega) (by omega) ?_
  refine V.aload_n (pc := 1158) dL_law_1158 rfl ?_
  refine V.iload_n (pc := 1159) dL_law_1159 rfl ?_
  refine V.iconst (v := 4) (pc := 1160) dL_law_1160 (by decide) ?_
  refine V.iadd (pc := 1161) dL_law_1161 ?_
  refine V.sld (k := i + 4) hXs hbs (pc := 1162) dL_law_1162 (by rw [show (4 : Int32) = nI 4 from rfl, nI_add]) (by omega) (by omega) ?_
  refine V.aload_n (pc := 1163) dL_law_1163 rfl ?_
  refine V.iload_n (pc := 1164) dL_law_1164 rfl ?_
  refine V.iconst (v := 5) (pc := 1165) dL_law_1165 (by decide) ?_
  refine V.iadd (pc := 1166) dL_law_1166 ?_
  refine V.sld (k := i + 5) hXs hbs (pc := 1167) dL_law_1167 (by rw [show (5 : Int32) = nI 5 from rfl, nI_add]) (by omega) (by omega) ?_
  refine V.invV0 (as := [_, _, _, _, _]) (pc := 1168) dL_law_1168 lL_138 bX11_together nX11_together (ci := 10) rfl eX11_together (by assumption) (y_together (d := d + 55) _ _ _ _ _ hX hA hR) (by omega) rfl (Nat.le_of_ble_eq_true rfl) ?_
  rintro r1 T1 n1 I1 J1 F1 q1
  obtain ⟨rfl, L1⟩ := hLI.cls (q1.qs hLK)
  have hTm := L1.2.2.1.o
  refine V.aload_n (pc := 1171) dL_law_1171 rfl ?_
  refine V.aload_n (pc := 1172) dL_law_1172 rfl ?_
  refine V.iload_n (pc := 1173) dL_law_1173 rfl ?_
  refine V.iconst (v := 1) (pc := 1174) dL_law_1174 (by decide) ?_
  refine V.iadd (pc := 1175) dL_law_1175 ?_
  refine V.sld (k := i + 1) hXs hbs (pc := 1176) dL_law_1176 (by rw [show (1 : Int32) = nI 1 from rfl, nI_add]) (by omega) (by omega) ?_
  refine V.aload_n (pc := 1177) dL_law_1177 rfl ?_
  refine V.iload_n (pc := 1178) dL_law_1178 rfl ?_
  refine V.iconst (v := 2) (pc := 1179) dL_law_1179 (by decide) ?_
  refine V.iadd (pc := 1180) dL_law_1180 ?_
  refine V.sld (k := i + 2) hXs hbs (pc := 1181) dL_law_1181 (by rw [show (2 : Int32) = nI 2 from rfl, nI_add]) (by omega) (by omega) ?_
  refine V.aload_n (pc := 1182) dL_law_1182 rfl ?_
  refine V.iload_n (pc := 1183) dL_law_1183 rfl ?_
  refine V.iconst (v := 3) (pc := 1184) dL_law_1184 (by decide) ?_
  refine V.iadd (pc := 1185) dL_law_1185 ?_
  refine V.sld (k := i + 3) hXs hbs (pc := 1186) dL_law_1186 (by rw [show (3 : Int32) = nI 3 from rfl, nI_add]) (by omega) (by omega) ?_
  refine V.aload_n (pc := 1187) dL_law_1187 rfl ?_
  refine V.iload_n (pc := 1188) dL_law_1188 rfl ?_
  refine V.iconst (v := 4) (pc := 1189) dL_law_1189 (by decide) ?_
  refine V.iadd (pc := 1190) dL_law_1190 ?_
  refine V.sld (k := i + 4) hXs hbs (pc := 1191) dL_law_1191 (by rw [show (4 : Int32) = nI 4 from rfl, nI_add]) (by omega) (by omega) ?_
  refine V.aload_n (pc := 1192) dL_law_1192 rfl ?_
  refine V.iload_n (pc := 1193) dL_law_1193 rfl ?_
  refine V.iconst (v := 5) (pc := 1194) dL_law_1194 (by decide) ?_
  refine V.iadd (pc := 1195) dL_law_1195 ?_
  refine V.sld (k := i + 5) hXs hbs (pc := 1196) dL_law_1196 (by rw [show (5 : Int32) = nI 5 from rfl, nI_add]) (by omega) (by omega) ?_
  refine V.invV0 (as := [_, _, _, _, _]) (pc := 1197) dL_law_1197 lL_141 bX12_together nX12_together (ci := 11) rfl eX12_together (by assumption) (p_together (d := d + 54) _ _ _ _ _ L1.2.2.1 L1.2.2.2.2.1 L1.2.2.2.1) (by omega) rfl (Nat.le_of_ble_eq_true rfl) ?_
  rintro r2 T2 n2 I2 J2 F2 q2
  obtain ⟨rfl, L2⟩ := L1.ref hA q2
  refine V.icmp_eq 1530 (pc := 1200) dL_law_1200 (by decide) (fun h1200 => ?_) (fun h1200 => absurd rfl h1200)
  refine V.room (bc := 3 * t) (bs := 420 * t + phi k) (by omega) (by omega) ?_
  exact kk _ k _ _ _ _ _ L2
theorem lc_knob {g : gG} {d : Nat} {T : mT} {n : Nat} {I : mI} {J : mJ} {F : mF} {Q : mQ} {b x k i t N : Nat} {A : Ab} {xs : Nat → Int32} (hXs : va_X b N xs (gs g) (gs g).heap) (hbs : b < (gs g).heap.size) (hiN : i + 7 ≤ N) (hN : N ≤ 3584) (hLI : LI x A k T n I J F) (kk : ∀ (A' : Ab) (k' : Nat) (T' : mT) (n' : Nat) (I' : mI) (J' : mJ) (F' : mF), LI x A' k' T' n' I' J' F' → V g mL_law (d + 60) Q (3 * t) (420 * t + phi k') 1530 [some (.ref b), some (.ref x), some (.ref (x + 90)), some (.int (nI i))] [] T' n' I' J' F') : V g mL_law (d + 60) Q (3 * t + 3) (420 * t + 420 + phi k) 1205 [some (.ref b), some (.ref x), some (.ref (x + 90)), some (.int (nI i))] [] T n I J F := by
  obtain ⟨hX, hR, hM, hRM, hA, hLK, hn⟩ := id hLI
  have hTx := hX.o
  refine V.aload_n (pc := 1205) dL_law_1205 rfl ?_
  refine V.invV0 (as := []) (pc := 1206) dL_law_1206 lL_142 bX11_knob nX11_knob (ci := 10) rfl eX11_knob (by assumption) (y_knob (d := d + 55)  hX hA hR) (by omega) rfl (Nat.le_of_ble_eq_true rfl) ?_
  rintro r1 T1 n1 I1 J1 F1 q1
  obtain ⟨rfl, L1⟩ := hLI.cls (q1.qs hLK)
  have hTm := L1.2.2.1.o
  refine V.aload_n (pc := 1209) dL_law_1209 rfl ?_
  refine V.invV0 (as := []) (pc := 1210) dL_law_1210 lL_145 bX12_knob nX12_knob (ci := 11) rfl eX12_knob (by assumption) (p_knob (d := d + 56)  L1.2.2.1 L1.2.2.2.2.1 L1.2.2.2.1) (by omega) rfl (Nat.le_of_ble_eq_true rfl) ?_
  rintro r2 T2 n2 I2 J2 F2 q2
  obtain ⟨rfl, L2⟩ := L1.ref (ab_knob hA) q2
  refine V.icmp_eq 1530 (pc := 1213) dL_law_1213 (by decide) (fun h1213 => ?_) (fun h1213 => absurd rfl h1213)
  refine V.room (bc := 3 * t) (bs := 420 * t + phi k) (by omega) (by omega) ?_
  exact kk _ k _ _ _ _ _ L2
theorem lc_push {g : gG} {d : Nat} {T : mT} {n : Nat} {I : mI} {J : mJ} {F : mF} {Q : mQ} {b x k i t N : Nat} {A : Ab} {xs : Nat → Int32} (hXs : va_X b N xs (gs g) (gs g).heap) (hbs : b < (gs g).heap.size) (hiN : i + 7 ≤ N) (hN : N ≤ 3584) (hLI : LI x A k T n I J F) (kk : ∀ (A' : Ab) (k' : Nat) (T' : mT) (n' : Nat) (I' : mI) (J' : mJ) (F' : mF), LI x A' k' T' n' I' J' F' → V g mL_law (d + 60) Q (3 * t) (420 * t + phi k') 1530 [some (.ref b), some (.ref x), some (.ref (x + 90)), some (.int (nI i))] [] T' n' I' J' F') : V g mL_law (d + 60) Q (3 * t + 3) (420 * t + 420 + phi k) 1218 [some (.ref b), some (.ref x), some (.ref (x + 90)), some (.int (nI i))] [] T n I J F := by
  obtain ⟨hX, hR, hM, hRM, hA, hLK, hn⟩ := id hLI
  have hTx := hX.o
  refine V.aload_n (pc := 1218) dL_law_1218 rfl ?_
  refine V.aload_n (pc := 1219) dL_law_1219 rfl ?_
  refine V.iload_n (pc := 1220) dL_law_1220 rfl ?_
  refine V.iconst (v := 1) (pc := 1221) dL_law_1221 (by decide) ?_
  refine V.iadd (pc := 1222) dL_law_1222 ?_
  refine V.sld (k := i + 1) hXs hbs (pc := 1223) dL_law_1223 (by rw [show (1 : Int32) = nI 1 from rfl, nI_add]) (by omega) (by omega) ?_
  refine V.aload_n (pc := 1224) dL_law_1224 rfl ?_
  refine V.iload_n (pc := 1225) dL_law_1225 rfl ?_
  refine V.iconst (v := 2) (pc := 1226) dL_law_1226 (by decide) ?_
  refine V.iadd (pc := 1227) dL_law_1227 ?_
  refine V.sld (k := i + 2) hXs hbs (pc := 1228) dL_law_1228 (by rw [show (2 : Int32) = nI 2 from rfl, nI_add]) (by omega) (by omega) ?_
  refine V.aload_n (pc := 1229) dL_law_1229 rfl ?_
  refine V.iload_n (pc := 1230) dL_law_1230 rfl ?_
  refine V.iconst (v := 3) (pc := 1231) dL_law_1231 (by decide) ?_
  refine V.iadd (pc := 1232) dL_law_1232 ?_
  refine V.sld (k := i + 3) hXs hbs (pc := 1233) dL_law_1233 (by rw [show (3 : Int32) = nI 3 from rfl, nI_add]) (by omega) (by omega) ?_
  refine V.invV0 (as := [_, _, _]) (pc := 1234) dL_law_1234 lL_146 bX11_push nX11_push (ci := 10) rfl eX11_push (by assumption) (y_push (d := d + 55) _ _ _ hX hA hR) (by omega) rfl (Nat.le_of_ble_eq_true rfl) ?_
  rintro r1 T1 n1 I1 J1 F1 q1
  obtain ⟨rfl, L1⟩ := hLI.cls (q1.qs hLK)
  have hTm := L1.2.2.1.o
  refine V.aload_n (pc := 1237) dL_law_1237 rfl ?_
  refine V.aload_n (pc := 1238) dL_law_1238 rfl ?_
  refine V.iload_n (pc := 1239) dL_law_1239 rfl ?_
  refine V.iconst (v := 1) (pc := 1240) dL_law_1240 (by decide) ?_
  refine V.iadd (pc := 1241) dL_law_1241 ?_
  refine V.sld (k := i + 1) hXs hbs (pc := 1242) dL_law_1242 (by rw [show (1 : Int32) = nI 1 from rfl, nI_add]) (by omega) (by omega) ?_
  refine V.aload_n (pc := 1243) dL_law_1243 rfl ?_
  refine V.iload_n (pc := 1244) dL_law_1244 rfl ?_
  refine V.iconst (v := 2) (pc := 1245) dL_law_1245 (by decide) ?_
  refine V.iadd (pc := 1246) dL_law_1246 ?_
  refine V.sld (k := i + 2) hXs hbs (pc := 1247) dL_law_1247 (by rw [show (2 : Int32) = nI 2 from rfl, nI_add]) (by omega) (by omega) ?_
  refine V.aload_n (pc := 1248) dL_law_1248 rfl ?_
  refine V.iload_n (pc := 1249) dL_law_1249 rfl ?_
  refine V.iconst (v := 3) (pc := 1250) dL_law_1250 (by decide) ?_
  refine V.iadd (pc := 1251) dL_law_1251 ?_
  refine V.sld (k := i + 3) hXs hbs (pc := 1252) dL_law_1252 (by rw [show (3 : Int32) = nI 3 from rfl, nI_add]) (by omega) (by omega) ?_
  refine V.invV0 (as := [_, _, _]) (pc := 1253) dL_law_1253 lL_149 bX12_push_ nX12_push_ (ci := 11) rfl eX12_push_ (by assumption) (p_push (d := d + 56) _ _ _ L1.2.2.1 L1.2.2.2.2.1 L1.2.2.2.1) (by omega) rfl (Nat.le_of_ble_eq_true rfl) ?_
  rintro r2 T2 n2 I2 J2 F2 q2
  obtain ⟨rfl, L2⟩ := L1.ref (ab_push hA) q2
  refine V.icmp_eq 1530 (pc := 1256) dL_law_1256 (by decide) (fun h1256 => ?_) (fun h1256 => absurd rfl h1256)
  refine V.room (bc := 3 * t) (bs := 420 * t + phi k) (by omega) (by omega) ?_
  exact kk _ k _ _ _ _ _ L2
theorem lc_set {g : gG} {d : Nat} {T : mT} {n : Nat} {I : mI} {J : mJ} {F : mF} {Q : mQ} {b x k i t N : Nat} {A : Ab} {xs : Nat → Int32} (hXs : va_X b N xs (gs g) (gs g).heap) (hbs : b < (gs g).heap.size) (hiN : i + 7 ≤ N) (hN : N ≤ 3584) (hLI : LI x A k T n I J F) (kk : ∀ (A' : Ab) (k' : Nat) (T' : mT) (n' : Nat) (I' : mI) (J' : mJ) (F' : mF), LI x A' k' T' n' I' J' F' → V g mL_law (d + 60) Q (3 * t) (420 * t + phi k') 1530 [some (.ref b), some (.ref x), some (.ref (x + 90)), some (.int (nI i))] [] T' n' I' J' F') : V g mL_law (d + 60) Q (3 * t + 3) (420 * t + 420 + phi k) 1261 [some (.ref b), some (.ref x), some (.ref (x + 90)), some (.int (nI i))] [] T n I J F := by
  obtain ⟨hX, hR, hM, hRM, hA, hLK, hn⟩ := id hLI
  have hTx := hX.o
  refine V.aload_n (pc := 1261) dL_law_1261 rfl ?_
  refine V.aload_n (pc := 1262) dL_law_1262 rfl ?_
  refine V.iload_n (pc := 1263) dL_law_1263 rfl ?_
  refine V.iconst (v := 1) (pc := 1264) dL_law_1264 (by decide) ?_
  refine V.iadd (pc := 1265) dL_law_1265 ?_
  refine V.sld (k := i + 1) hXs hbs (pc := 1266) dL_law_1266 (by rw [show (1 : Int32) = nI 1 from rfl, nI_add]) (by omega) (by omega) ?_
  refine V.aload_n (pc := 1267) dL_law_1267 rfl ?_
  refine V.iload_n (pc := 1268) dL_law_1268 rfl ?_
  refine V.iconst (v := 2) (pc := 1269) dL_law_1269 (by decide) ?_
  refine V.iadd (pc := 1270) dL_law_1270 ?_
  refine V.sld (k := i + 2) hXs hbs (pc := 1271) dL_law_1271 (by rw [show (2 : Int32) = nI 2 from rfl, nI_add]) (by omega) (by omega) ?_
  refine V.aload_n (pc := 1272) dL_law_1272 rfl ?_
  refine V.iload_n (pc := 1273) dL_law_1273 rfl ?_
  refine V.iconst (v := 3) (pc := 1274) dL_law_1274 (by decide) ?_
  refine V.iadd (pc := 1275) dL_law_1275 ?_
  refine V.sld (k := i + 3) hXs hbs (pc := 1276) dL_law_1276 (by rw [show (3 : Int32) = nI 3 from rfl, nI_add]) (by omega) (by omega) ?_
  refine V.aload_n (pc := 1277) dL_law_1277 rfl ?_
  refine V.iload_n (pc := 1278) dL_law_1278 rfl ?_
  refine V.iconst (v := 4) (pc := 1279) dL_law_1279 (by decide) ?_
  refine V.iadd (pc := 1280) dL_law_1280 ?_
  refine V.sld (k := i + 4) hXs hbs (pc := 1281) dL_law_1281 (by rw [show (4 : Int32) = nI 4 from rfl, nI_add]) (by omega) (by omega) ?_
  refine V.aload_n (pc := 1282) dL_law_1282 rfl ?_
  refine V.iload_n (pc := 1283) dL_law_1283 rfl ?_
  refine V.iconst (v := 5) (pc := 1284) dL_law_1284 (by decide) ?_
  refine V.iadd (pc := 1285) dL_law_1285 ?_
  refine V.sld (k := i + 5) hXs hbs (pc := 1286) dL_law_1286 (by rw [show (5 : Int32) = nI 5 from rfl, nI_add]) (by omega) (by omega) ?_
  refine V.aload_n (pc := 1287) dL_law_1287 rfl ?_
  refine V.iload_n (pc := 1288) dL_law_1288 rfl ?_
  refine V.bipush (v := 6) (pc := 1289) dL_law_1289 (by decide) ?_
  refine V.iadd (pc := 1291) dL_law_1291 ?_
  refine V.sld (k := i + 6) hXs hbs (pc := 1292) dL_law_1292 (by rw [show (6 : Int32) = nI 6 from rfl, nI_add]) (by omega) (by omega) ?_
  have hphi := lk_phi (k := k) (setSz_le (A := A) (x := (xs (i + 1)).toInt) (m1 := (xs (i + 2)).toInt) (z := (xs (i + 3)).toInt) (m2 := (xs (i + 4)).toInt) (dd := (xs (i + 5)).toInt) (w := (xs (i + 6)).toInt) hA)
  refine V.room (bc := 3 * t + 1) (bs := (420 * t + phi (lkN k (setSz A (xs (i + 1)).toInt (xs (i + 2)).toInt (xs (i + 3)).toInt (xs (i + 4)).toInt (xs (i + 5)).toInt (xs (i + 6)).toInt))) + lkM k (setSz A (xs (i + 1)).toInt (xs (i + 2)).toInt (xs (i + 3)).toInt (xs (i + 4)).toInt (xs (i + 5)).toInt (xs (i + 6)).toInt)) (by omega) (by omega) ?_
  refine V.invV (bc := 3 * t) (bs := 420 * t + phi (lkN k (setSz A (xs (i + 1)).toInt (xs (i + 2)).toInt (xs (i + 3)).toInt (xs (i + 4)).toInt (xs (i + 5)).toInt (xs (i + 6)).toInt))) (mc := 1) (ms := lkM k (setSz A (xs (i + 1)).toInt (xs (i + 2)).toInt (xs (i + 3)).toInt (xs (i + 4)).toInt (xs (i + 5)).toInt (xs (i + 6)).toInt)) (as := [_, _, _, _, _, _]) (pc := 1293) dL_law_1293 lL_150 bX11_set nX11_set (ci := 10) rfl eX11_set (by assumption) (y_set (d := d + 55) (k0 := k) _ _ _ _ _ _ hX hA hR hLK hn) (by omega) rfl (Nat.le_of_ble_eq_true rfl) ?_
  rintro r1 T1 n1 I1 J1 F1 ⟨a1, hs1, q1⟩
  obtain ⟨rfl, L1⟩ := hLI.cls q1
  have hTm := L1.2.2.1.o
  refine V.aload_n (pc := 1296) dL_law_1296 rfl ?_
  refine V.aload_n (pc := 1297) dL_law_1297 rfl ?_
  refine V.iload_n (pc := 1298) dL_law_1298 rfl ?_
  refine V.iconst (v := 1) (pc := 1299) dL_law_1299 (by decide) ?_
  refine V.iadd (pc := 1300) dL_law_1300 ?_
  refine V.sld (k := i + 1) hXs hbs (pc := 1301) dL_law_1301 (by rw [show (1 : Int32) = nI 1 from rfl, nI_add]) (by omega) (by omega) ?_
  refine V.aload_n (pc := 1302) dL_law_1302 rfl ?_
  refine V.iload_n (pc := 1303) dL_law_1303 rfl ?_
  refine V.iconst (v := 2) (pc := 1304) dL_law_1304 (by decide) ?_
  refine V.iadd (pc := 1305) dL_law_1305 ?_
  refine V.sld (k := i + 2) hXs hbs (pc := 1306) dL_law_1306 (by rw [show (2 : Int32) = nI 2 from rfl, nI_add]) (by omega) (by omega) ?_
  refine V.aload_n (pc := 1307) dL_law_1307 rfl ?_
  refine V.iload_n (pc := 1308) dL_law_1308 rfl ?_
  refine V.iconst (v := 3) (pc := 1309) dL_law_1309 (by decide) ?_
  refine V.iadd (pc := 1310) dL_law_1310 ?_
  refine V.sld (k := i + 3) hXs hbs (pc := 1311) dL_law_1311 (by rw [show (3 : Int32) = nI 3 from rfl, nI_add]) (by omega) (by omega) ?_
  refine V.aload_n (pc := 1312) dL_law_1312 rfl ?_
  refine V.iload_n (pc := 1313) dL_law_1313 rfl ?_
  refine V.iconst (v := 4) (pc := 1314) dL_law_1314 (by decide) ?_
  refine V.iadd (pc := 1315) dL_law_1315 ?_
  refine V.sld (k := i + 4) hXs hbs (pc := 1316) dL_law_1316 (by rw [show (4 : Int32) = nI 4 from rfl, nI_add]) (by omega) (by omega) ?_
  refine V.aload_n (pc := 1317) dL_law_1317 rfl ?_
  refine V.iload_n (pc := 1318) dL_law_1318 rfl ?_
  refine V.iconst (v := 5) (pc := 1319) dL_law_1319 (by decide) ?_
  refine V.iadd (pc := 1320) dL_law_1320 ?_
  refine V.sld (k := i + 5) hXs hbs (pc := 1321) dL_law_1321 (by rw [show (5 : Int32) = nI 5 from rfl, nI_add]) (by omega) (by omega) ?_
  refine V.aload_n (pc := 1322) dL_law_1322 rfl ?_
  refine V.iload_n (pc := 1323) dL_law_1323 rfl ?_
  refine V.bipush (v := 6) (pc := 1324) dL_law_1324 (by decide) ?_
  refine V.iadd (pc := 1326) dL_law_1326 ?_
  refine V.sld (k := i + 6) hXs hbs (pc := 1327) dL_law_1327 (by rw [show (6 : Int32) = nI 6 from rfl, nI_add]) (by omega) (by omega) ?_
  refine V.invV0 (as := [_, _, _, _, _, _]) (pc := 1328) dL_law_1328 lL_154 bX12_set nX12_set (ci := 11) rfl eX12_set (by assumption) (p_set (d := d + 55) _ _ _ _ _ _ L1.2.2.1 L1.2.2.2.2.1 L1.2.2.2.1) (by omega) rfl (Nat.le_of_ble_eq_true rfl) ?_
  rintro r2 T2 n2 I2 J2 F2 ⟨a2, hs2, q2⟩
  obtain rfl := SetS.uni hs1 hs2
  obtain ⟨rfl, L2⟩ := L1.ref hA q2
  refine V.icmp_eq 1530 (pc := 1331) dL_law_1331 (by decide) (fun h1331 => ?_) (fun h1331 => absurd rfl h1331)
  refine V.room (bc := 3 * t) (bs := 420 * t + phi (lkN k (setSz A (xs (i + 1)).toInt (xs (i + 2)).toInt (xs (i + 3)).toInt (xs (i + 4)).toInt (xs (i + 5)).toInt (xs (i + 6)).toInt))) (by omega) (by omega) ?_
  exact kk _ (lkN k (setSz A (xs (i + 1)).toInt (xs (i + 2)).toInt (xs (i + 3)).toInt (xs (i + 4)).toInt (xs (i + 5)).toInt (xs (i + 6)).toInt)) _ _ _ _ _ L2
